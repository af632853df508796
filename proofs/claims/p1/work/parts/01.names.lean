-- ===== PART A: goes FIRST, ahead of the names: the tables' words, and 'selects' of the private methods out of them =====
/-- a private method of a class that the tables say can be made, by its rows of tables_1 -/
def lw_okq (q : MethodName × Nat) : Prop := (q.1.cls ≠ "java/lang/invoke/MethodHandle" ∧ q.1.cls ≠ "java/lang/invoke/VarHandle") ∧ Cond.instantiable q.1.cls q.2 ∈ tables_1 ∧ Cond.privateMethod q.1 ∈ tables_1 ∧ Cond.instanceMethod q.1 ∈ tables_1
theorem lw_p0 : lw_okq (⟨"Tablature", "refreshPlan", "()V"⟩, 8) := ⟨⟨by decide +kernel, by decide +kernel⟩, List.mem_of_getElem? (i := 21) (by decide +kernel), List.mem_of_getElem? (i := 273) (by decide +kernel), List.mem_of_getElem? (i := 274) (by decide +kernel)⟩
theorem lw_p1 : lw_okq (⟨"Tablature$Hand", "countSounding", "()V"⟩, 8) := ⟨⟨by decide +kernel, by decide +kernel⟩, List.mem_of_getElem? (i := 116) (by decide +kernel), List.mem_of_getElem? (i := 294) (by decide +kernel), List.mem_of_getElem? (i := 295) (by decide +kernel)⟩
theorem lw_p2 : lw_okq (⟨"Tablature$Hand", "countPressed", "()V"⟩, 8) := ⟨⟨by decide +kernel, by decide +kernel⟩, List.mem_of_getElem? (i := 116) (by decide +kernel), List.mem_of_getElem? (i := 298) (by decide +kernel), List.mem_of_getElem? (i := 299) (by decide +kernel)⟩
theorem lw_p3 : lw_okq (⟨"Tablature$Hand", "findBarre", "()V"⟩, 8) := ⟨⟨by decide +kernel, by decide +kernel⟩, List.mem_of_getElem? (i := 116) (by decide +kernel), List.mem_of_getElem? (i := 302) (by decide +kernel), List.mem_of_getElem? (i := 303) (by decide +kernel)⟩
theorem lw_p4 : lw_okq (⟨"Tablature$Planner", "bestAt", "(II)I"⟩, 8) := ⟨⟨by decide +kernel, by decide +kernel⟩, List.mem_of_getElem? (i := 106) (by decide +kernel), List.mem_of_getElem? (i := 351) (by decide +kernel), List.mem_of_getElem? (i := 352) (by decide +kernel)⟩
theorem lw_p5 : lw_okq (⟨"Tablature", "totalUnder", "(II)I"⟩, 8) := ⟨⟨by decide +kernel, by decide +kernel⟩, List.mem_of_getElem? (i := 21) (by decide +kernel), List.mem_of_getElem? (i := 396) (by decide +kernel), List.mem_of_getElem? (i := 397) (by decide +kernel)⟩
theorem lw_p6 : lw_okq (⟨"Tablature", "askWhole", "(I)I"⟩, 8) := ⟨⟨by decide +kernel, by decide +kernel⟩, List.mem_of_getElem? (i := 21) (by decide +kernel), List.mem_of_getElem? (i := 409) (by decide +kernel), List.mem_of_getElem? (i := 410) (by decide +kernel)⟩
theorem lw_p7 : lw_okq (⟨"Tablature", "mixChord", "(JI)J"⟩, 8) := ⟨⟨by decide +kernel, by decide +kernel⟩, List.mem_of_getElem? (i := 21) (by decide +kernel), List.mem_of_getElem? (i := 430) (by decide +kernel), List.mem_of_getElem? (i := 431) (by decide +kernel)⟩
theorem lw_p8 : lw_okq (⟨"Tablature", "askChord", "(II)I"⟩, 8) := ⟨⟨by decide +kernel, by decide +kernel⟩, List.mem_of_getElem? (i := 21) (by decide +kernel), List.mem_of_getElem? (i := 434) (by decide +kernel), List.mem_of_getElem? (i := 435) (by decide +kernel)⟩
theorem lw_p9 : lw_okq (⟨"Tablature", "mixGrip", "(JI)J"⟩, 8) := ⟨⟨by decide +kernel, by decide +kernel⟩, List.mem_of_getElem? (i := 21) (by decide +kernel), List.mem_of_getElem? (i := 451) (by decide +kernel), List.mem_of_getElem? (i := 452) (by decide +kernel)⟩
theorem lw_p10 : lw_okq (⟨"Tablature", "askHand", "(I)I"⟩, 8) := ⟨⟨by decide +kernel, by decide +kernel⟩, List.mem_of_getElem? (i := 21) (by decide +kernel), List.mem_of_getElem? (i := 456) (by decide +kernel), List.mem_of_getElem? (i := 457) (by decide +kernel)⟩
theorem lw_p11 : lw_okq (⟨"Tablature", "needString", "(I)V"⟩, 8) := ⟨⟨by decide +kernel, by decide +kernel⟩, List.mem_of_getElem? (i := 21) (by decide +kernel), List.mem_of_getElem? (i := 472) (by decide +kernel), List.mem_of_getElem? (i := 473) (by decide +kernel)⟩
theorem lw_p12 : lw_okq (⟨"java/lang/Throwable", "fillInStackTrace", "(I)Ljava/lang/Throwable;"⟩, 6) := ⟨⟨by decide +kernel, by decide +kernel⟩, List.mem_of_getElem? (i := 514) (by decide +kernel), List.mem_of_getElem? (i := 512) (by decide +kernel), List.mem_of_getElem? (i := 513) (by decide +kernel)⟩
theorem lw_p13 : lw_okq (⟨"Tablature", "freshVoicing", "(III)LTablature$Shapes;"⟩, 8) := ⟨⟨by decide +kernel, by decide +kernel⟩, List.mem_of_getElem? (i := 21) (by decide +kernel), List.mem_of_getElem? (i := 544) (by decide +kernel), List.mem_of_getElem? (i := 545) (by decide +kernel)⟩
theorem lw_p14 : lw_okq (⟨"Tablature$Shapes", "offer", "(II)V"⟩, 8) := ⟨⟨by decide +kernel, by decide +kernel⟩, List.mem_of_getElem? (i := 207) (by decide +kernel), List.mem_of_getElem? (i := 559) (by decide +kernel), List.mem_of_getElem? (i := 560) (by decide +kernel)⟩
theorem lw_p15 : lw_okq (⟨"Tablature$Shapes", "isBetter", "(II)Z"⟩, 8) := ⟨⟨by decide +kernel, by decide +kernel⟩, List.mem_of_getElem? (i := 207) (by decide +kernel), List.mem_of_getElem? (i := 566) (by decide +kernel), List.mem_of_getElem? (i := 567) (by decide +kernel)⟩
def lw_privs_1 : List (MethodName × Nat) := [(⟨"Tablature", "refreshPlan", "()V"⟩, 8), (⟨"Tablature$Hand", "countSounding", "()V"⟩, 8), (⟨"Tablature$Hand", "countPressed", "()V"⟩, 8), (⟨"Tablature$Hand", "findBarre", "()V"⟩, 8), (⟨"Tablature$Planner", "bestAt", "(II)I"⟩, 8), (⟨"Tablature", "totalUnder", "(II)I"⟩, 8), (⟨"Tablature", "askWhole", "(I)I"⟩, 8), (⟨"Tablature", "mixChord", "(JI)J"⟩, 8), (⟨"Tablature", "askChord", "(II)I"⟩, 8), (⟨"Tablature", "mixGrip", "(JI)J"⟩, 8), (⟨"Tablature", "askHand", "(I)I"⟩, 8), (⟨"Tablature", "needString", "(I)V"⟩, 8), (⟨"java/lang/Throwable", "fillInStackTrace", "(I)Ljava/lang/Throwable;"⟩, 6), (⟨"Tablature", "freshVoicing", "(III)LTablature$Shapes;"⟩, 8), (⟨"Tablature$Shapes", "offer", "(II)V"⟩, 8), (⟨"Tablature$Shapes", "isBetter", "(II)Z"⟩, 8)]
theorem lw_r1 : ∀ q ∈ lw_privs_1, lw_okq q := List.forall_mem_cons.mpr ⟨lw_p0, List.forall_mem_cons.mpr ⟨lw_p1, List.forall_mem_cons.mpr ⟨lw_p2, List.forall_mem_cons.mpr ⟨lw_p3, List.forall_mem_cons.mpr ⟨lw_p4, List.forall_mem_cons.mpr ⟨lw_p5, List.forall_mem_cons.mpr ⟨lw_p6, List.forall_mem_cons.mpr ⟨lw_p7, List.forall_mem_cons.mpr ⟨lw_p8, List.forall_mem_cons.mpr ⟨lw_p9, List.forall_mem_cons.mpr ⟨lw_p10, List.forall_mem_cons.mpr ⟨lw_p11, List.forall_mem_cons.mpr ⟨lw_p12, List.forall_mem_cons.mpr ⟨lw_p13, List.forall_mem_cons.mpr ⟨lw_p14, List.forall_mem_cons.mpr ⟨lw_p15, fun _ h => absurd h List.not_mem_nil⟩⟩⟩⟩⟩⟩⟩⟩⟩⟩⟩⟩⟩⟩⟩⟩
theorem lw_p16 : lw_okq (⟨"Tablature", "instrumentChanged", "()V"⟩, 8) := ⟨⟨by decide +kernel, by decide +kernel⟩, List.mem_of_getElem? (i := 21) (by decide +kernel), List.mem_of_getElem? (i := 626) (by decide +kernel), List.mem_of_getElem? (i := 627) (by decide +kernel)⟩
theorem lw_p17 : lw_okq (⟨"Tablature", "needChord", "(I)V"⟩, 8) := ⟨⟨by decide +kernel, by decide +kernel⟩, List.mem_of_getElem? (i := 21) (by decide +kernel), List.mem_of_getElem? (i := 719) (by decide +kernel), List.mem_of_getElem? (i := 720) (by decide +kernel)⟩
theorem lw_p18 : lw_okq (⟨"Tablature", "needGrip", "(II)LTablature$Grips;"⟩, 8) := ⟨⟨by decide +kernel, by decide +kernel⟩, List.mem_of_getElem? (i := 21) (by decide +kernel), List.mem_of_getElem? (i := 735) (by decide +kernel), List.mem_of_getElem? (i := 736) (by decide +kernel)⟩
theorem lw_p19 : lw_okq (⟨"TablatureModel", "no", "(I)I"⟩, 16) := ⟨⟨by decide +kernel, by decide +kernel⟩, List.mem_of_getElem? (i := 845) (by decide +kernel), List.mem_of_getElem? (i := 912) (by decide +kernel), List.mem_of_getElem? (i := 913) (by decide +kernel)⟩
theorem lw_p20 : lw_okq (⟨"TablatureModel", "isString", "(I)Z"⟩, 16) := ⟨⟨by decide +kernel, by decide +kernel⟩, List.mem_of_getElem? (i := 845) (by decide +kernel), List.mem_of_getElem? (i := 920) (by decide +kernel), List.mem_of_getElem? (i := 921) (by decide +kernel)⟩
theorem lw_p21 : lw_okq (⟨"TablatureModel", "slack", "()I"⟩, 16) := ⟨⟨by decide +kernel, by decide +kernel⟩, List.mem_of_getElem? (i := 845) (by decide +kernel), List.mem_of_getElem? (i := 928) (by decide +kernel), List.mem_of_getElem? (i := 929) (by decide +kernel)⟩
theorem lw_p22 : lw_okq (⟨"TablatureModel", "fretNow", "(II)I"⟩, 16) := ⟨⟨by decide +kernel, by decide +kernel⟩, List.mem_of_getElem? (i := 845) (by decide +kernel), List.mem_of_getElem? (i := 944) (by decide +kernel), List.mem_of_getElem? (i := 945) (by decide +kernel)⟩
theorem lw_p23 : lw_okq (⟨"TablatureModel", "isChord", "(I)Z"⟩, 16) := ⟨⟨by decide +kernel, by decide +kernel⟩, List.mem_of_getElem? (i := 845) (by decide +kernel), List.mem_of_getElem? (i := 956) (by decide +kernel), List.mem_of_getElem? (i := 957) (by decide +kernel)⟩
theorem lw_p24 : lw_okq (⟨"TablatureModel", "grips", "(I)[[I"⟩, 16) := ⟨⟨by decide +kernel, by decide +kernel⟩, List.mem_of_getElem? (i := 845) (by decide +kernel), List.mem_of_getElem? (i := 964) (by decide +kernel), List.mem_of_getElem? (i := 965) (by decide +kernel)⟩
theorem lw_p25 : lw_okq (⟨"TablatureModel", "silent", "()[I"⟩, 16) := ⟨⟨by decide +kernel, by decide +kernel⟩, List.mem_of_getElem? (i := 845) (by decide +kernel), List.mem_of_getElem? (i := 968) (by decide +kernel), List.mem_of_getElem? (i := 969) (by decide +kernel)⟩
theorem lw_p26 : lw_okq (⟨"TablatureModel", "go", "([II[I)V"⟩, 16) := ⟨⟨by decide +kernel, by decide +kernel⟩, List.mem_of_getElem? (i := 845) (by decide +kernel), List.mem_of_getElem? (i := 972) (by decide +kernel), List.mem_of_getElem? (i := 973) (by decide +kernel)⟩
theorem lw_p27 : lw_okq (⟨"TablatureModel", "isPlayable", "([I)Z"⟩, 16) := ⟨⟨by decide +kernel, by decide +kernel⟩, List.mem_of_getElem? (i := 845) (by decide +kernel), List.mem_of_getElem? (i := 976) (by decide +kernel), List.mem_of_getElem? (i := 977) (by decide +kernel)⟩
theorem lw_p28 : lw_okq (⟨"TablatureModel", "put", "([I)V"⟩, 16) := ⟨⟨by decide +kernel, by decide +kernel⟩, List.mem_of_getElem? (i := 845) (by decide +kernel), List.mem_of_getElem? (i := 996) (by decide +kernel), List.mem_of_getElem? (i := 997) (by decide +kernel)⟩
theorem lw_p29 : lw_okq (⟨"TablatureModel", "ofChordNow", "(II)I"⟩, 16) := ⟨⟨by decide +kernel, by decide +kernel⟩, List.mem_of_getElem? (i := 845) (by decide +kernel), List.mem_of_getElem? (i := 1023) (by decide +kernel), List.mem_of_getElem? (i := 1024) (by decide +kernel)⟩
theorem lw_p30 : lw_okq (⟨"TablatureModel", "fixedNow", "(I[[I)I"⟩, 16) := ⟨⟨by decide +kernel, by decide +kernel⟩, List.mem_of_getElem? (i := 845) (by decide +kernel), List.mem_of_getElem? (i := 1027) (by decide +kernel), List.mem_of_getElem? (i := 1028) (by decide +kernel)⟩
theorem lw_p31 : lw_okq (⟨"TablatureModel", "onString", "(IIIZ)I"⟩, 16) := ⟨⟨by decide +kernel, by decide +kernel⟩, List.mem_of_getElem? (i := 845) (by decide +kernel), List.mem_of_getElem? (i := 1042) (by decide +kernel), List.mem_of_getElem? (i := 1043) (by decide +kernel)⟩
def lw_privs_2 : List (MethodName × Nat) := [(⟨"Tablature", "instrumentChanged", "()V"⟩, 8), (⟨"Tablature", "needChord", "(I)V"⟩, 8), (⟨"Tablature", "needGrip", "(II)LTablature$Grips;"⟩, 8), (⟨"TablatureModel", "no", "(I)I"⟩, 16), (⟨"TablatureModel", "isString", "(I)Z"⟩, 16), (⟨"TablatureModel", "slack", "()I"⟩, 16), (⟨"TablatureModel", "fretNow", "(II)I"⟩, 16), (⟨"TablatureModel", "isChord", "(I)Z"⟩, 16), (⟨"TablatureModel", "grips", "(I)[[I"⟩, 16), (⟨"TablatureModel", "silent", "()[I"⟩, 16), (⟨"TablatureModel", "go", "([II[I)V"⟩, 16), (⟨"TablatureModel", "isPlayable", "([I)Z"⟩, 16), (⟨"TablatureModel", "put", "([I)V"⟩, 16), (⟨"TablatureModel", "ofChordNow", "(II)I"⟩, 16), (⟨"TablatureModel", "fixedNow", "(I[[I)I"⟩, 16), (⟨"TablatureModel", "onString", "(IIIZ)I"⟩, 16)]
theorem lw_r2 : ∀ q ∈ lw_privs_2, lw_okq q := List.forall_mem_cons.mpr ⟨lw_p16, List.forall_mem_cons.mpr ⟨lw_p17, List.forall_mem_cons.mpr ⟨lw_p18, List.forall_mem_cons.mpr ⟨lw_p19, List.forall_mem_cons.mpr ⟨lw_p20, List.forall_mem_cons.mpr ⟨lw_p21, List.forall_mem_cons.mpr ⟨lw_p22, List.forall_mem_cons.mpr ⟨lw_p23, List.forall_mem_cons.mpr ⟨lw_p24, List.forall_mem_cons.mpr ⟨lw_p25, List.forall_mem_cons.mpr ⟨lw_p26, List.forall_mem_cons.mpr ⟨lw_p27, List.forall_mem_cons.mpr ⟨lw_p28, List.forall_mem_cons.mpr ⟨lw_p29, List.forall_mem_cons.mpr ⟨lw_p30, List.forall_mem_cons.mpr ⟨lw_p31, fun _ h => absurd h List.not_mem_nil⟩⟩⟩⟩⟩⟩⟩⟩⟩⟩⟩⟩⟩⟩⟩⟩
theorem lw_p32 : lw_okq (⟨"TablatureModel", "moveNow", "(I[I[I)I"⟩, 16) := ⟨⟨by decide +kernel, by decide +kernel⟩, List.mem_of_getElem? (i := 845) (by decide +kernel), List.mem_of_getElem? (i := 1054) (by decide +kernel), List.mem_of_getElem? (i := 1055) (by decide +kernel)⟩
theorem lw_p33 : lw_okq (⟨"TablatureModel", "all", "()[[[I"⟩, 16) := ⟨⟨by decide +kernel, by decide +kernel⟩, List.mem_of_getElem? (i := 845) (by decide +kernel), List.mem_of_getElem? (i := 1063) (by decide +kernel), List.mem_of_getElem? (i := 1064) (by decide +kernel)⟩
theorem lw_p34 : lw_okq (⟨"TablatureModel", "planNow", "([[[I)[I"⟩, 16) := ⟨⟨by decide +kernel, by decide +kernel⟩, List.mem_of_getElem? (i := 845) (by decide +kernel), List.mem_of_getElem? (i := 1069) (by decide +kernel), List.mem_of_getElem? (i := 1070) (by decide +kernel)⟩
theorem lw_p35 : lw_okq (⟨"TablatureModel", "totalNow", "()I"⟩, 16) := ⟨⟨by decide +kernel, by decide +kernel⟩, List.mem_of_getElem? (i := 845) (by decide +kernel), List.mem_of_getElem? (i := 1077) (by decide +kernel), List.mem_of_getElem? (i := 1078) (by decide +kernel)⟩
theorem lw_p36 : lw_okq (⟨"TablatureModel", "hardestNow", "([[[I[I)I"⟩, 16) := ⟨⟨by decide +kernel, by decide +kernel⟩, List.mem_of_getElem? (i := 845) (by decide +kernel), List.mem_of_getElem? (i := 1085) (by decide +kernel), List.mem_of_getElem? (i := 1086) (by decide +kernel)⟩
theorem lw_p37 : lw_okq (⟨"TablatureModel", "manyNow", "(I[[[I[I)I"⟩, 16) := ⟨⟨by decide +kernel, by decide +kernel⟩, List.mem_of_getElem? (i := 845) (by decide +kernel), List.mem_of_getElem? (i := 1093) (by decide +kernel), List.mem_of_getElem? (i := 1094) (by decide +kernel)⟩
theorem lw_p38 : lw_okq (⟨"TablatureModel", "look", "(III)V"⟩, 16) := ⟨⟨by decide +kernel, by decide +kernel⟩, List.mem_of_getElem? (i := 845) (by decide +kernel), List.mem_of_getElem? (i := 1108) (by decide +kernel), List.mem_of_getElem? (i := 1109) (by decide +kernel)⟩
theorem lw_p39 : lw_okq (⟨"TablatureModel", "goOn", "(IIII[III)V"⟩, 16) := ⟨⟨by decide +kernel, by decide +kernel⟩, List.mem_of_getElem? (i := 845) (by decide +kernel), List.mem_of_getElem? (i := 1112) (by decide +kernel), List.mem_of_getElem? (i := 1113) (by decide +kernel)⟩
theorem lw_p40 : lw_okq (⟨"TablatureModel", "isBetter", "([I)Z"⟩, 16) := ⟨⟨by decide +kernel, by decide +kernel⟩, List.mem_of_getElem? (i := 845) (by decide +kernel), List.mem_of_getElem? (i := 1116) (by decide +kernel), List.mem_of_getElem? (i := 1117) (by decide +kernel)⟩
theorem lw_p41 : lw_okq (⟨"TablatureModel", "pitchOf", "(II)I"⟩, 16) := ⟨⟨by decide +kernel, by decide +kernel⟩, List.mem_of_getElem? (i := 845) (by decide +kernel), List.mem_of_getElem? (i := 1120) (by decide +kernel), List.mem_of_getElem? (i := 1121) (by decide +kernel)⟩
theorem lw_p42 : lw_okq (⟨"TablatureModel", "totalBy", "(II)I"⟩, 16) := ⟨⟨by decide +kernel, by decide +kernel⟩, List.mem_of_getElem? (i := 845) (by decide +kernel), List.mem_of_getElem? (i := 1136) (by decide +kernel), List.mem_of_getElem? (i := 1137) (by decide +kernel)⟩
theorem lw_p43 : lw_okq (⟨"TablatureModel", "bestCapoNow", "()I"⟩, 16) := ⟨⟨by decide +kernel, by decide +kernel⟩, List.mem_of_getElem? (i := 845) (by decide +kernel), List.mem_of_getElem? (i := 1144) (by decide +kernel), List.mem_of_getElem? (i := 1145) (by decide +kernel)⟩
theorem lw_p44 : lw_okq (⟨"TablatureModel", "withoutNow", "(I)I"⟩, 16) := ⟨⟨by decide +kernel, by decide +kernel⟩, List.mem_of_getElem? (i := 845) (by decide +kernel), List.mem_of_getElem? (i := 1152) (by decide +kernel), List.mem_of_getElem? (i := 1153) (by decide +kernel)⟩
def lw_privs_3 : List (MethodName × Nat) := [(⟨"TablatureModel", "moveNow", "(I[I[I)I"⟩, 16), (⟨"TablatureModel", "all", "()[[[I"⟩, 16), (⟨"TablatureModel", "planNow", "([[[I)[I"⟩, 16), (⟨"TablatureModel", "totalNow", "()I"⟩, 16), (⟨"TablatureModel", "hardestNow", "([[[I[I)I"⟩, 16), (⟨"TablatureModel", "manyNow", "(I[[[I[I)I"⟩, 16), (⟨"TablatureModel", "look", "(III)V"⟩, 16), (⟨"TablatureModel", "goOn", "(IIII[III)V"⟩, 16), (⟨"TablatureModel", "isBetter", "([I)Z"⟩, 16), (⟨"TablatureModel", "pitchOf", "(II)I"⟩, 16), (⟨"TablatureModel", "totalBy", "(II)I"⟩, 16), (⟨"TablatureModel", "bestCapoNow", "()I"⟩, 16), (⟨"TablatureModel", "withoutNow", "(I)I"⟩, 16)]
theorem lw_r3 : ∀ q ∈ lw_privs_3, lw_okq q := List.forall_mem_cons.mpr ⟨lw_p32, List.forall_mem_cons.mpr ⟨lw_p33, List.forall_mem_cons.mpr ⟨lw_p34, List.forall_mem_cons.mpr ⟨lw_p35, List.forall_mem_cons.mpr ⟨lw_p36, List.forall_mem_cons.mpr ⟨lw_p37, List.forall_mem_cons.mpr ⟨lw_p38, List.forall_mem_cons.mpr ⟨lw_p39, List.forall_mem_cons.mpr ⟨lw_p40, List.forall_mem_cons.mpr ⟨lw_p41, List.forall_mem_cons.mpr ⟨lw_p42, List.forall_mem_cons.mpr ⟨lw_p43, List.forall_mem_cons.mpr ⟨lw_p44, fun _ h => absurd h List.not_mem_nil⟩⟩⟩⟩⟩⟩⟩⟩⟩⟩⟩⟩⟩
def lw_privs : List (MethodName × Nat) := lw_privs_1 ++ (lw_privs_2 ++ (lw_privs_3))
def lw_tbl : List Cond := k2_sels lw_privs ++ tables_1
theorem lw_privs_ok : ∀ q ∈ lw_privs, lw_okq q := by
  show ∀ q ∈ lw_privs_1 ++ (lw_privs_2 ++ (lw_privs_3)), lw_okq q
  exact List.forall_mem_append.mpr ⟨lw_r1, List.forall_mem_append.mpr ⟨lw_r2, lw_r3⟩⟩
/-- the streams that the claim lets the run draw from -/
abbrev lw_cs : List Choice := [Jvm.Choice.named "NaN.bits"]
theorem lw_bits : nanBits ∈ lw_cs := by first | decide | exact List.mem_cons_self | simp [lw_cs, nanBits]

-- names, codes, decode rows: the printed ones
def RX0 : String := "Tablature$Chord"
def TX0 : u_T := fun k => match k with
  | 0 => ("Tablature$Chord", "pitches", "[I", true)
  | 1 => ("Tablature$Chord", "size", "I", false)
  | 2 => ("Tablature$Chord", "length", "I", false)
  | _ => ("Tablature$Chord", "fixedCode", "I", false)
def tyX0 : Nat → FieldType := fun k => match k with
  | 0 => .array .int
  | 1 => .int
  | 2 => .int
  | _ => .int
theorem nmX0 : ∀ a, a < 4 → ∀ b, b < 4 → a ≠ b → (TX0 a).2.1 ≠ (TX0 b).2.1 := by decide +kernel
theorem tyX0_ok : ∀ k, k < 4 → parseFieldDescriptor (TX0 k).2.2.1 = some (tyX0 k) := by decide +kernel
abbrev cX0_init : ByteArray := prog_2_method_1_code
def yX0_init : MethodName := ⟨RX0, "<init>", "()V"⟩
abbrev cX0_clear : ByteArray := prog_2_method_2_code
def yX0_clear : MethodName := ⟨RX0, "clear", "(I)V"⟩
abbrev cX0_add : ByteArray := prog_2_method_3_code
def yX0_add : MethodName := ⟨RX0, "add", "(I)V"⟩
abbrev cX0_lowest : ByteArray := prog_2_method_4_code
def yX0_lowest : MethodName := ⟨RX0, "lowest", "()I"⟩
abbrev cX0_highest : ByteArray := prog_2_method_5_code
def yX0_highest : MethodName := ⟨RX0, "highest", "()I"⟩
def RX1 : String := "Tablature$GripCode"
def TX1 : u_T := fun k => match k with
  | _ => ("", "", "", false)
def tyX1 : Nat → FieldType := fun k => match k with
  | _ => .int
theorem nmX1 : ∀ a, a < 0 → ∀ b, b < 0 → a ≠ b → (TX1 a).2.1 ≠ (TX1 b).2.1 := by decide +kernel
theorem tyX1_ok : ∀ k, k < 0 → parseFieldDescriptor (TX1 k).2.2.1 = some (tyX1 k) := by decide +kernel
abbrev cX1_fretAt : ByteArray := prog_3_method_2_code
def yX1_fretAt : MethodName := ⟨RX1, "fretAt", "(II)I"⟩
abbrev cX1_with : ByteArray := prog_3_method_3_code
def yX1_with : MethodName := ⟨RX1, "with", "(III)I"⟩
abbrev cX1_newlyPressed : ByteArray := prog_3_method_4_code
def yX1_newlyPressed : MethodName := ⟨RX1, "newlyPressed", "(II)I"⟩
def RX2 : String := "Tablature$Grips"
def TX2 : u_T := fun k => match k with
  | 0 => ("Tablature$Grips", "codes", "[I", true)
  | 1 => ("Tablature$Grips", "efforts", "[I", true)
  | 2 => ("Tablature$Grips", "lows", "[I", true)
  | _ => ("Tablature$Grips", "count", "I", false)
def tyX2 : Nat → FieldType := fun k => match k with
  | 0 => .array .int
  | 1 => .array .int
  | 2 => .array .int
  | _ => .int
theorem nmX2 : ∀ a, a < 4 → ∀ b, b < 4 → a ≠ b → (TX2 a).2.1 ≠ (TX2 b).2.1 := by decide +kernel
theorem tyX2_ok : ∀ k, k < 4 → parseFieldDescriptor (TX2 k).2.2.1 = some (tyX2 k) := by decide +kernel
abbrev cX2_init : ByteArray := prog_4_method_1_code
def yX2_init : MethodName := ⟨RX2, "<init>", "()V"⟩
abbrev cX2_has : ByteArray := prog_4_method_2_code
def yX2_has : MethodName := ⟨RX2, "has", "(I)Z"⟩
abbrev cX2_numberOf : ByteArray := prog_4_method_3_code
def yX2_numberOf : MethodName := ⟨RX2, "numberOf", "(I)I"⟩
abbrev cX2_insert : ByteArray := prog_4_method_4_code
def yX2_insert : MethodName := ⟨RX2, "insert", "(III)V"⟩
def RX3 : String := "Tablature$Hand"
def TX3 : u_T := fun k => match k with
  | 0 => ("Tablature$Hand", "low", "I", false)
  | 1 => ("Tablature$Hand", "high", "I", false)
  | 2 => ("Tablature$Hand", "sounding", "I", false)
  | 3 => ("Tablature$Hand", "barre", "Z", false)
  | 4 => ("Tablature$Hand", "frets", "[I", true)
  | 5 => ("Tablature$Hand", "pressed", "I", false)
  | 6 => ("Tablature$Hand", "pressedAtLow", "I", false)
  | _ => ("Tablature$Hand", "skipped", "I", false)
def tyX3 : Nat → FieldType := fun k => match k with
  | 0 => .int
  | 1 => .int
  | 2 => .int
  | 3 => .boolean
  | 4 => .array .int
  | 5 => .int
  | 6 => .int
  | _ => .int
theorem nmX3 : ∀ a, a < 8 → ∀ b, b < 8 → a ≠ b → (TX3 a).2.1 ≠ (TX3 b).2.1 := by decide +kernel
theorem tyX3_ok : ∀ k, k < 8 → parseFieldDescriptor (TX3 k).2.2.1 = some (tyX3 k) := by decide +kernel
abbrev cX3_init : ByteArray := prog_5_method_1_code
def yX3_init : MethodName := ⟨RX3, "<init>", "()V"⟩
abbrev cX3_hold : ByteArray := prog_5_method_2_code
def yX3_hold : MethodName := ⟨RX3, "hold", "(I)V"⟩
abbrev cX3_countSounding : ByteArray := prog_5_method_3_code
def yX3_countSounding : MethodName := ⟨RX3, "countSounding", "()V"⟩
abbrev cX3_countPressed : ByteArray := prog_5_method_4_code
def yX3_countPressed : MethodName := ⟨RX3, "countPressed", "()V"⟩
abbrev cX3_findBarre : ByteArray := prog_5_method_5_code
def yX3_findBarre : MethodName := ⟨RX3, "findBarre", "()V"⟩
abbrev cX3_fingerCount : ByteArray := prog_5_method_6_code
def yX3_fingerCount : MethodName := ⟨RX3, "fingerCount", "()I"⟩
abbrev cX3_isPlayable : ByteArray := prog_5_method_7_code
def yX3_isPlayable : MethodName := ⟨RX3, "isPlayable", "(I)Z"⟩
abbrev cX3_effort : ByteArray := prog_5_method_8_code
def yX3_effort : MethodName := ⟨RX3, "effort", "()I"⟩
abbrev cX3_fingerOn : ByteArray := prog_5_method_9_code
def yX3_fingerOn : MethodName := ⟨RX3, "fingerOn", "(I)I"⟩
def RX4 : String := "Tablature$Instrument"
def TX4 : u_T := fun k => match k with
  | 0 => ("Tablature$Instrument", "open", "[I", true)
  | 1 => ("Tablature$Instrument", "slack", "[Z", true)
  | 2 => ("Tablature$Instrument", "count", "I", false)
  | 3 => ("Tablature$Instrument", "capo", "I", false)
  | _ => ("Tablature$Instrument", "reach", "I", false)
def tyX4 : Nat → FieldType := fun k => match k with
  | 0 => .array .int
  | 1 => .array .boolean
  | 2 => .int
  | 3 => .int
  | _ => .int
theorem nmX4 : ∀ a, a < 5 → ∀ b, b < 5 → a ≠ b → (TX4 a).2.1 ≠ (TX4 b).2.1 := by decide +kernel
theorem tyX4_ok : ∀ k, k < 5 → parseFieldDescriptor (TX4 k).2.2.1 = some (tyX4 k) := by decide +kernel
abbrev cX4_init : ByteArray := prog_6_method_1_code
def yX4_init : MethodName := ⟨RX4, "<init>", "()V"⟩
abbrev cX4_draw : ByteArray := prog_6_method_2_code
def yX4_draw : MethodName := ⟨RX4, "draw", "(I)I"⟩
abbrev cX4_copy : ByteArray := prog_6_method_3_code
def yX4_copy : MethodName := ⟨RX4, "copy", "(LTablature$Instrument;)V"⟩
abbrev cX4_slackCount : ByteArray := prog_6_method_4_code
def yX4_slackCount : MethodName := ⟨RX4, "slackCount", "()I"⟩
abbrev cX4_isUsed : ByteArray := prog_6_method_5_code
def yX4_isUsed : MethodName := ⟨RX4, "isUsed", "(I)Z"⟩
abbrev cX4_lastFret : ByteArray := prog_6_method_6_code
def yX4_lastFret : MethodName := ⟨RX4, "lastFret", "()I"⟩
abbrev cX4_pitchOf : ByteArray := prog_6_method_7_code
def yX4_pitchOf : MethodName := ⟨RX4, "pitchOf", "(II)I"⟩
abbrev cX4_fretFor : ByteArray := prog_6_method_8_code
def yX4_fretFor : MethodName := ⟨RX4, "fretFor", "(II)I"⟩
def RX5 : String := "Tablature$Piece"
def TX5 : u_T := fun k => match k with
  | 0 => ("Tablature$Piece", "chords", "[LTablature$Chord;", true)
  | _ => ("Tablature$Piece", "count", "I", false)
def tyX5 : Nat → FieldType := fun k => match k with
  | 0 => .array (.object "Tablature$Chord")
  | _ => .int
theorem nmX5 : ∀ a, a < 2 → ∀ b, b < 2 → a ≠ b → (TX5 a).2.1 ≠ (TX5 b).2.1 := by decide +kernel
theorem tyX5_ok : ∀ k, k < 2 → parseFieldDescriptor (TX5 k).2.2.1 = some (tyX5 k) := by decide +kernel
abbrev cX5_init : ByteArray := prog_7_method_1_code
def yX5_init : MethodName := ⟨RX5, "<init>", "()V"⟩
abbrev cX5_append : ByteArray := prog_7_method_2_code
def yX5_append : MethodName := ⟨RX5, "append", "(I)LTablature$Chord;"⟩
abbrev cX5_remove : ByteArray := prog_7_method_3_code
def yX5_remove : MethodName := ⟨RX5, "remove", "(I)V"⟩
abbrev cX5_sumOfLengths : ByteArray := prog_7_method_4_code
def yX5_sumOfLengths : MethodName := ⟨RX5, "sumOfLengths", "()I"⟩
def RX6 : String := "Tablature$Planner"
def TX6 : u_T := fun k => match k with
  | 0 => ("Tablature$Planner", "grips", "[LTablature$Grips;", true)
  | 1 => ("Tablature$Planner", "fixed", "[I", true)
  | 2 => ("Tablature$Planner", "choice", "[I", true)
  | 3 => ("Tablature$Planner", "total", "I", false)
  | 4 => ("Tablature$Planner", "lengths", "[I", true)
  | 5 => ("Tablature$Planner", "rest", "[[I", true)
  | 6 => ("Tablature$Planner", "hand", "LTablature$Hand;", true)
  | _ => ("Tablature$Planner", "count", "I", false)
def tyX6 : Nat → FieldType := fun k => match k with
  | 0 => .array (.object "Tablature$Grips")
  | 1 => .array .int
  | 2 => .array .int
  | 3 => .int
  | 4 => .array .int
  | 5 => .array (.array .int)
  | 6 => .object "Tablature$Hand"
  | _ => .int
theorem nmX6 : ∀ a, a < 8 → ∀ b, b < 8 → a ≠ b → (TX6 a).2.1 ≠ (TX6 b).2.1 := by decide +kernel
theorem tyX6_ok : ∀ k, k < 8 → parseFieldDescriptor (TX6 k).2.2.1 = some (tyX6 k) := by decide +kernel
abbrev cX6_init : ByteArray := prog_8_method_1_code
def yX6_init : MethodName := ⟨RX6, "<init>", "()V"⟩
abbrev cX6_read : ByteArray := prog_8_method_2_code
def yX6_read : MethodName := ⟨RX6, "read", "(LTablature$Instrument;LTablature$Piece;)V"⟩
abbrev cX6_place : ByteArray := prog_8_method_3_code
def yX6_place : MethodName := ⟨RX6, "place", "(LTablature$Grips;LTablature$Hand;LTablature$Instrument;LTablature$Chord;II)V"⟩
abbrev cX6_solve : ByteArray := prog_8_method_4_code
def yX6_solve : MethodName := ⟨RX6, "solve", "()V"⟩
abbrev cX6_bestAt : ByteArray := prog_8_method_5_code
def yX6_bestAt : MethodName := ⟨RX6, "bestAt", "(II)I"⟩
abbrev cX6_moveCost : ByteArray := prog_8_method_6_code
def yX6_moveCost : MethodName := ⟨RX6, "moveCost", "(III)I"⟩
abbrev cX6_hardestMove : ByteArray := prog_8_method_7_code
def yX6_hardestMove : MethodName := ⟨RX6, "hardestMove", "()I"⟩
abbrev cX6_sumOfMoves : ByteArray := prog_8_method_8_code
def yX6_sumOfMoves : MethodName := ⟨RX6, "sumOfMoves", "()I"⟩
abbrev cX6_griplessCount : ByteArray := prog_8_method_9_code
def yX6_griplessCount : MethodName := ⟨RX6, "griplessCount", "()I"⟩
abbrev cX6_fixedCount : ByteArray := prog_8_method_10_code
def yX6_fixedCount : MethodName := ⟨RX6, "fixedCount", "()I"⟩
def RX7 : String := "Tablature$Shapes"
def TX7 : u_T := fun k => match k with
  | 0 => ("Tablature$Shapes", "count", "I", false)
  | 1 => ("Tablature$Shapes", "bestEffort", "I", false)
  | 2 => ("Tablature$Shapes", "bestSounding", "I", false)
  | 3 => ("Tablature$Shapes", "bestCode", "I", false)
  | 4 => ("Tablature$Shapes", "classes", "I", false)
  | 5 => ("Tablature$Shapes", "bass", "I", false)
  | 6 => ("Tablature$Shapes", "fromFret", "I", false)
  | _ => ("Tablature$Shapes", "hand", "LTablature$Hand;", true)
def tyX7 : Nat → FieldType := fun k => match k with
  | 0 => .int
  | 1 => .int
  | 2 => .int
  | 3 => .int
  | 4 => .int
  | 5 => .int
  | 6 => .int
  | _ => .object "Tablature$Hand"
theorem nmX7 : ∀ a, a < 8 → ∀ b, b < 8 → a ≠ b → (TX7 a).2.1 ≠ (TX7 b).2.1 := by decide +kernel
theorem tyX7_ok : ∀ k, k < 8 → parseFieldDescriptor (TX7 k).2.2.1 = some (tyX7 k) := by decide +kernel
abbrev cX7_init : ByteArray := prog_9_method_1_code
def yX7_init : MethodName := ⟨RX7, "<init>", "()V"⟩
abbrev cX7_forget : ByteArray := prog_9_method_2_code
def yX7_forget : MethodName := ⟨RX7, "forget", "()V"⟩
abbrev cX7_isOf : ByteArray := prog_9_method_3_code
def yX7_isOf : MethodName := ⟨RX7, "isOf", "(III)Z"⟩
abbrev cX7_seek : ByteArray := prog_9_method_4_code
def yX7_seek : MethodName := ⟨RX7, "seek", "(LTablature$Instrument;III)V"⟩
abbrev cX7_bestFret : ByteArray := prog_9_method_5_code
def yX7_bestFret : MethodName := ⟨RX7, "bestFret", "(I)I"⟩
abbrev cX7_place : ByteArray := prog_9_method_6_code
def yX7_place : MethodName := ⟨RX7, "place", "(LTablature$Shapes;LTablature$Instrument;IIII)V"⟩
abbrev cX7_offer : ByteArray := prog_9_method_7_code
def yX7_offer : MethodName := ⟨RX7, "offer", "(II)V"⟩
abbrev cX7_isBetter : ByteArray := prog_9_method_8_code
def yX7_isBetter : MethodName := ⟨RX7, "isBetter", "(II)Z"⟩
def RX8 : String := "Tablature"
def TX8 : u_T := fun k => match k with
  | 0 => ("Tablature", "instrument", "LTablature$Instrument;", true)
  | 1 => ("Tablature", "trialInstrument", "LTablature$Instrument;", true)
  | 2 => ("Tablature", "piece", "LTablature$Piece;", true)
  | 3 => ("Tablature", "planner", "LTablature$Planner;", true)
  | 4 => ("Tablature", "trialPlanner", "LTablature$Planner;", true)
  | 5 => ("Tablature", "voicing", "LTablature$Shapes;", true)
  | 6 => ("Tablature", "hand", "LTablature$Hand;", true)
  | _ => ("Tablature", "planIsStale", "Z", false)
def tyX8 : Nat → FieldType := fun k => match k with
  | 0 => .object "Tablature$Instrument"
  | 1 => .object "Tablature$Instrument"
  | 2 => .object "Tablature$Piece"
  | 3 => .object "Tablature$Planner"
  | 4 => .object "Tablature$Planner"
  | 5 => .object "Tablature$Shapes"
  | 6 => .object "Tablature$Hand"
  | _ => .boolean
theorem nmX8 : ∀ a, a < 8 → ∀ b, b < 8 → a ≠ b → (TX8 a).2.1 ≠ (TX8 b).2.1 := by decide +kernel
theorem tyX8_ok : ∀ k, k < 8 → parseFieldDescriptor (TX8 k).2.2.1 = some (tyX8 k) := by decide +kernel
abbrev cX8_init : ByteArray := prog_1_method_1_code
def yX8_init : MethodName := ⟨RX8, "<init>", "()V"⟩
abbrev cX8_string : ByteArray := prog_1_method_2_code
def yX8_string : MethodName := ⟨RX8, "string", "(I)I"⟩
abbrev cX8_tune : ByteArray := prog_1_method_3_code
def yX8_tune : MethodName := ⟨RX8, "tune", "(II)I"⟩
abbrev cX8_slacken : ByteArray := prog_1_method_4_code
def yX8_slacken : MethodName := ⟨RX8, "slacken", "(IZ)I"⟩
abbrev cX8_capo : ByteArray := prog_1_method_5_code
def yX8_capo : MethodName := ⟨RX8, "capo", "(I)I"⟩
abbrev cX8_reach : ByteArray := prog_1_method_6_code
def yX8_reach : MethodName := ⟨RX8, "reach", "(I)I"⟩
abbrev cX8_fretOf : ByteArray := prog_1_method_7_code
def yX8_fretOf : MethodName := ⟨RX8, "fretOf", "(II)I"⟩
abbrev cX8_chord : ByteArray := prog_1_method_8_code
def yX8_chord : MethodName := ⟨RX8, "chord", "(IIIII)I"⟩
abbrev cX8_strike : ByteArray := prog_1_method_9_code
def yX8_strike : MethodName := ⟨RX8, "strike", "(I)I"⟩
abbrev cX8_fix : ByteArray := prog_1_method_10_code
def yX8_fix : MethodName := ⟨RX8, "fix", "(II)I"⟩
abbrev cX8_ofChord : ByteArray := prog_1_method_11_code
def yX8_ofChord : MethodName := ⟨RX8, "ofChord", "(II)I"⟩
abbrev cX8_ofGrip : ByteArray := prog_1_method_12_code
def yX8_ofGrip : MethodName := ⟨RX8, "ofGrip", "(III)I"⟩
abbrev cX8_fret : ByteArray := prog_1_method_13_code
def yX8_fret : MethodName := ⟨RX8, "fret", "(III)I"⟩
abbrev cX8_finger : ByteArray := prog_1_method_14_code
def yX8_finger : MethodName := ⟨RX8, "finger", "(III)I"⟩
abbrev cX8_move : ByteArray := prog_1_method_15_code
def yX8_move : MethodName := ⟨RX8, "move", "(III)I"⟩
abbrev cX8_plan : ByteArray := prog_1_method_16_code
def yX8_plan : MethodName := ⟨RX8, "plan", "(I)I"⟩
abbrev cX8_total : ByteArray := prog_1_method_17_code
def yX8_total : MethodName := ⟨RX8, "total", "()I"⟩
abbrev cX8_hardest : ByteArray := prog_1_method_18_code
def yX8_hardest : MethodName := ⟨RX8, "hardest", "()I"⟩
abbrev cX8_many : ByteArray := prog_1_method_19_code
def yX8_many : MethodName := ⟨RX8, "many", "(I)I"⟩
abbrev cX8_meanEffort : ByteArray := prog_1_method_20_code
def yX8_meanEffort : MethodName := ⟨RX8, "meanEffort", "()D"⟩
abbrev cX8_shapes : ByteArray := prog_1_method_21_code
def yX8_shapes : MethodName := ⟨RX8, "shapes", "(III)I"⟩
abbrev cX8_shapeEffort : ByteArray := prog_1_method_22_code
def yX8_shapeEffort : MethodName := ⟨RX8, "shapeEffort", "(III)I"⟩
abbrev cX8_shapeFret : ByteArray := prog_1_method_23_code
def yX8_shapeFret : MethodName := ⟨RX8, "shapeFret", "(IIII)I"⟩
abbrev cX8_totalWith : ByteArray := prog_1_method_24_code
def yX8_totalWith : MethodName := ⟨RX8, "totalWith", "(II)I"⟩
abbrev cX8_bestCapo : ByteArray := prog_1_method_25_code
def yX8_bestCapo : MethodName := ⟨RX8, "bestCapo", "()I"⟩
abbrev cX8_totalWithout : ByteArray := prog_1_method_26_code
def yX8_totalWithout : MethodName := ⟨RX8, "totalWithout", "(I)I"⟩
abbrev cX8_totalFixed : ByteArray := prog_1_method_27_code
def yX8_totalFixed : MethodName := ⟨RX8, "totalFixed", "(II)I"⟩
abbrev cX8_digest : ByteArray := prog_1_method_28_code
def yX8_digest : MethodName := ⟨RX8, "digest", "()J"⟩
abbrev cX8_mixChord : ByteArray := prog_1_method_29_code
def yX8_mixChord : MethodName := ⟨RX8, "mixChord", "(JI)J"⟩
abbrev cX8_mixGrip : ByteArray := prog_1_method_30_code
def yX8_mixGrip : MethodName := ⟨RX8, "mixGrip", "(JI)J"⟩
abbrev cX8_mix : ByteArray := prog_1_method_31_code
def yX8_mix : MethodName := ⟨RX8, "mix", "(JI)J"⟩
abbrev cX8_askWhole : ByteArray := prog_1_method_32_code
def yX8_askWhole : MethodName := ⟨RX8, "askWhole", "(I)I"⟩
abbrev cX8_askChord : ByteArray := prog_1_method_33_code
def yX8_askChord : MethodName := ⟨RX8, "askChord", "(II)I"⟩
abbrev cX8_askHand : ByteArray := prog_1_method_34_code
def yX8_askHand : MethodName := ⟨RX8, "askHand", "(I)I"⟩
abbrev cX8_totalUnder : ByteArray := prog_1_method_35_code
def yX8_totalUnder : MethodName := ⟨RX8, "totalUnder", "(II)I"⟩
abbrev cX8_instrumentChanged : ByteArray := prog_1_method_36_code
def yX8_instrumentChanged : MethodName := ⟨RX8, "instrumentChanged", "()V"⟩
abbrev cX8_refreshPlan : ByteArray := prog_1_method_37_code
def yX8_refreshPlan : MethodName := ⟨RX8, "refreshPlan", "()V"⟩
abbrev cX8_freshVoicing : ByteArray := prog_1_method_38_code
def yX8_freshVoicing : MethodName := ⟨RX8, "freshVoicing", "(III)LTablature$Shapes;"⟩
abbrev cX8_needString : ByteArray := prog_1_method_39_code
def yX8_needString : MethodName := ⟨RX8, "needString", "(I)V"⟩
abbrev cX8_needChord : ByteArray := prog_1_method_40_code
def yX8_needChord : MethodName := ⟨RX8, "needChord", "(I)V"⟩
abbrev cX8_needGrip : ByteArray := prog_1_method_41_code
def yX8_needGrip : MethodName := ⟨RX8, "needGrip", "(II)LTablature$Grips;"⟩
abbrev cX8_needQuestion : ByteArray := prog_1_method_42_code
def yX8_needQuestion : MethodName := ⟨RX8, "needQuestion", "(II)V"⟩
abbrev cX8_needOpen : ByteArray := prog_1_method_43_code
def yX8_needOpen : MethodName := ⟨RX8, "needOpen", "(I)V"⟩
abbrev cX8_needCapo : ByteArray := prog_1_method_44_code
def yX8_needCapo : MethodName := ⟨RX8, "needCapo", "(I)V"⟩
abbrev cX8_needReach : ByteArray := prog_1_method_45_code
def yX8_needReach : MethodName := ⟨RX8, "needReach", "(I)V"⟩
abbrev cX8_needVoicing : ByteArray := prog_1_method_46_code
def yX8_needVoicing : MethodName := ⟨RX8, "needVoicing", "(III)V"⟩
abbrev cX8_isPitch : ByteArray := prog_1_method_47_code
def yX8_isPitch : MethodName := ⟨RX8, "isPitch", "(I)Z"⟩
abbrev cX8_isPitchOrNone : ByteArray := prog_1_method_48_code
def yX8_isPitchOrNone : MethodName := ⟨RX8, "isPitchOrNone", "(I)Z"⟩
abbrev cX8_hasTwice : ByteArray := prog_1_method_49_code
def yX8_hasTwice : MethodName := ⟨RX8, "hasTwice", "(IIII)Z"⟩
def RX9 : String := "TablatureModel"
def TX9 : u_T := fun k => match k with
  | 0 => ("TablatureModel", "thrown", "I", false)
  | 1 => ("TablatureModel", "strings", "I", false)
  | 2 => ("TablatureModel", "open", "[I", true)
  | 3 => ("TablatureModel", "isSlack", "[Z", true)
  | 4 => ("TablatureModel", "capo", "I", false)
  | 5 => ("TablatureModel", "reach", "I", false)
  | 6 => ("TablatureModel", "chords", "I", false)
  | 7 => ("TablatureModel", "pitches", "[[I", true)
  | 8 => ("TablatureModel", "length", "[I", true)
  | 9 => ("TablatureModel", "isFixed", "[Z", true)
  | 10 => ("TablatureModel", "fixed", "[[I", true)
  | 11 => ("TablatureModel", "found", "[[I", false)
  | 12 => ("TablatureModel", "efforts", "[I", true)
  | 13 => ("TablatureModel", "many", "I", false)
  | 14 => ("TablatureModel", "shapes", "I", false)
  | _ => ("TablatureModel", "best", "[I", false)
def tyX9 : Nat → FieldType := fun k => match k with
  | 0 => .int
  | 1 => .int
  | 2 => .array .int
  | 3 => .array .boolean
  | 4 => .int
  | 5 => .int
  | 6 => .int
  | 7 => .array (.array .int)
  | 8 => .array .int
  | 9 => .array .boolean
  | 10 => .array (.array .int)
  | 11 => .array (.array .int)
  | 12 => .array .int
  | 13 => .int
  | 14 => .int
  | _ => .array .int
theorem nmX9 : ∀ a, a < 16 → ∀ b, b < 16 → a ≠ b → (TX9 a).2.1 ≠ (TX9 b).2.1 := by decide +kernel
theorem tyX9_ok : ∀ k, k < 16 → parseFieldDescriptor (TX9 k).2.2.1 = some (tyX9 k) := by decide +kernel
abbrev cX9_init : ByteArray := prog_11_method_1_code
def yX9_init : MethodName := ⟨RX9, "<init>", "()V"⟩
abbrev cX9_thrown : ByteArray := prog_11_method_2_code
def yX9_thrown : MethodName := ⟨RX9, "thrown", "()I"⟩
abbrev cX9_no : ByteArray := prog_11_method_3_code
def yX9_no : MethodName := ⟨RX9, "no", "(I)I"⟩
abbrev cX9_isIn : ByteArray := prog_11_method_4_code
def yX9_isIn : MethodName := ⟨RX9, "isIn", "(III)Z"⟩
abbrev cX9_isString : ByteArray := prog_11_method_5_code
def yX9_isString : MethodName := ⟨RX9, "isString", "(I)Z"⟩
abbrev cX9_isChord : ByteArray := prog_11_method_6_code
def yX9_isChord : MethodName := ⟨RX9, "isChord", "(I)Z"⟩
abbrev cX9_string : ByteArray := prog_11_method_7_code
def yX9_string : MethodName := ⟨RX9, "string", "(I)I"⟩
abbrev cX9_tune : ByteArray := prog_11_method_8_code
def yX9_tune : MethodName := ⟨RX9, "tune", "(II)I"⟩
abbrev cX9_slack : ByteArray := prog_11_method_9_code
def yX9_slack : MethodName := ⟨RX9, "slack", "()I"⟩
abbrev cX9_slacken : ByteArray := prog_11_method_10_code
def yX9_slacken : MethodName := ⟨RX9, "slacken", "(IZ)I"⟩
abbrev cX9_capo : ByteArray := prog_11_method_11_code
def yX9_capo : MethodName := ⟨RX9, "capo", "(I)I"⟩
abbrev cX9_reach : ByteArray := prog_11_method_12_code
def yX9_reach : MethodName := ⟨RX9, "reach", "(I)I"⟩
abbrev cX9_fretNow : ByteArray := prog_11_method_13_code
def yX9_fretNow : MethodName := ⟨RX9, "fretNow", "(II)I"⟩
abbrev cX9_fretOf : ByteArray := prog_11_method_14_code
def yX9_fretOf : MethodName := ⟨RX9, "fretOf", "(II)I"⟩
abbrev cX9_chord : ByteArray := prog_11_method_15_code
def yX9_chord : MethodName := ⟨RX9, "chord", "(IIIII)I"⟩
abbrev cX9_strike : ByteArray := prog_11_method_16_code
def yX9_strike : MethodName := ⟨RX9, "strike", "(I)I"⟩
abbrev cX9_low : ByteArray := prog_11_method_17_code
def yX9_low : MethodName := ⟨RX9, "low", "([I)I"⟩
abbrev cX9_high : ByteArray := prog_11_method_18_code
def yX9_high : MethodName := ⟨RX9, "high", "([I)I"⟩
abbrev cX9_hasBarre : ByteArray := prog_11_method_19_code
def yX9_hasBarre : MethodName := ⟨RX9, "hasBarre", "([I)Z"⟩
abbrev cX9_fingerNow : ByteArray := prog_11_method_20_code
def yX9_fingerNow : MethodName := ⟨RX9, "fingerNow", "([II)I"⟩
abbrev cX9_fingers : ByteArray := prog_11_method_21_code
def yX9_fingers : MethodName := ⟨RX9, "fingers", "([I)I"⟩
abbrev cX9_sounding : ByteArray := prog_11_method_22_code
def yX9_sounding : MethodName := ⟨RX9, "sounding", "([I)I"⟩
abbrev cX9_gaps : ByteArray := prog_11_method_23_code
def yX9_gaps : MethodName := ⟨RX9, "gaps", "([I)I"⟩
abbrev cX9_effort : ByteArray := prog_11_method_24_code
def yX9_effort : MethodName := ⟨RX9, "effort", "([I)I"⟩
abbrev cX9_isPlayable : ByteArray := prog_11_method_25_code
def yX9_isPlayable : MethodName := ⟨RX9, "isPlayable", "([I)Z"⟩
abbrev cX9_isSmaller : ByteArray := prog_11_method_26_code
def yX9_isSmaller : MethodName := ⟨RX9, "isSmaller", "([I[I)Z"⟩
abbrev cX9_copy : ByteArray := prog_11_method_27_code
def yX9_copy : MethodName := ⟨RX9, "copy", "([I)[I"⟩
abbrev cX9_put : ByteArray := prog_11_method_28_code
def yX9_put : MethodName := ⟨RX9, "put", "([I)V"⟩
abbrev cX9_go : ByteArray := prog_11_method_29_code
def yX9_go : MethodName := ⟨RX9, "go", "([II[I)V"⟩
abbrev cX9_silent : ByteArray := prog_11_method_30_code
def yX9_silent : MethodName := ⟨RX9, "silent", "()[I"⟩
abbrev cX9_grips : ByteArray := prog_11_method_31_code
def yX9_grips : MethodName := ⟨RX9, "grips", "(I)[[I"⟩
abbrev cX9_fixedNow : ByteArray := prog_11_method_32_code
def yX9_fixedNow : MethodName := ⟨RX9, "fixedNow", "(I[[I)I"⟩
abbrev cX9_fix : ByteArray := prog_11_method_33_code
def yX9_fix : MethodName := ⟨RX9, "fix", "(II)I"⟩
abbrev cX9_ofChordNow : ByteArray := prog_11_method_34_code
def yX9_ofChordNow : MethodName := ⟨RX9, "ofChordNow", "(II)I"⟩
abbrev cX9_ofChord : ByteArray := prog_11_method_35_code
def yX9_ofChord : MethodName := ⟨RX9, "ofChord", "(II)I"⟩
abbrev cX9_ofGripNow : ByteArray := prog_11_method_36_code
def yX9_ofGripNow : MethodName := ⟨RX9, "ofGripNow", "([II)I"⟩
abbrev cX9_ofGrip : ByteArray := prog_11_method_37_code
def yX9_ofGrip : MethodName := ⟨RX9, "ofGrip", "(III)I"⟩
abbrev cX9_onString : ByteArray := prog_11_method_38_code
def yX9_onString : MethodName := ⟨RX9, "onString", "(IIIZ)I"⟩
abbrev cX9_fret : ByteArray := prog_11_method_39_code
def yX9_fret : MethodName := ⟨RX9, "fret", "(III)I"⟩
abbrev cX9_finger : ByteArray := prog_11_method_40_code
def yX9_finger : MethodName := ⟨RX9, "finger", "(III)I"⟩
abbrev cX9_moveNow : ByteArray := prog_11_method_41_code
def yX9_moveNow : MethodName := ⟨RX9, "moveNow", "(I[I[I)I"⟩
abbrev cX9_move : ByteArray := prog_11_method_42_code
def yX9_move : MethodName := ⟨RX9, "move", "(III)I"⟩
abbrev cX9_all : ByteArray := prog_11_method_43_code
def yX9_all : MethodName := ⟨RX9, "all", "()[[[I"⟩
abbrev cX9_planNow : ByteArray := prog_11_method_44_code
def yX9_planNow : MethodName := ⟨RX9, "planNow", "([[[I)[I"⟩
abbrev cX9_totalNow : ByteArray := prog_11_method_45_code
def yX9_totalNow : MethodName := ⟨RX9, "totalNow", "()I"⟩
abbrev cX9_plan : ByteArray := prog_11_method_46_code
def yX9_plan : MethodName := ⟨RX9, "plan", "(I)I"⟩
abbrev cX9_total : ByteArray := prog_11_method_47_code
def yX9_total : MethodName := ⟨RX9, "total", "()I"⟩
abbrev cX9_hardestNow : ByteArray := prog_11_method_48_code
def yX9_hardestNow : MethodName := ⟨RX9, "hardestNow", "([[[I[I)I"⟩
abbrev cX9_hardest : ByteArray := prog_11_method_49_code
def yX9_hardest : MethodName := ⟨RX9, "hardest", "()I"⟩
abbrev cX9_manyNow : ByteArray := prog_11_method_50_code
def yX9_manyNow : MethodName := ⟨RX9, "manyNow", "(I[[[I[I)I"⟩
abbrev cX9_many : ByteArray := prog_11_method_51_code
def yX9_many : MethodName := ⟨RX9, "many", "(I)I"⟩
abbrev cX9_meanEffort : ByteArray := prog_11_method_52_code
def yX9_meanEffort : MethodName := ⟨RX9, "meanEffort", "()D"⟩
abbrev cX9_isVoicing : ByteArray := prog_11_method_53_code
def yX9_isVoicing : MethodName := ⟨RX9, "isVoicing", "(III)Z"⟩
abbrev cX9_pitchOf : ByteArray := prog_11_method_54_code
def yX9_pitchOf : MethodName := ⟨RX9, "pitchOf", "(II)I"⟩
abbrev cX9_goOn : ByteArray := prog_11_method_55_code
def yX9_goOn : MethodName := ⟨RX9, "goOn", "(IIII[III)V"⟩
abbrev cX9_isBetter : ByteArray := prog_11_method_56_code
def yX9_isBetter : MethodName := ⟨RX9, "isBetter", "([I)Z"⟩
abbrev cX9_look : ByteArray := prog_11_method_57_code
def yX9_look : MethodName := ⟨RX9, "look", "(III)V"⟩
abbrev cX9_shapes : ByteArray := prog_11_method_58_code
def yX9_shapes : MethodName := ⟨RX9, "shapes", "(III)I"⟩
abbrev cX9_shapeEffort : ByteArray := prog_11_method_59_code
def yX9_shapeEffort : MethodName := ⟨RX9, "shapeEffort", "(III)I"⟩
abbrev cX9_shapeFret : ByteArray := prog_11_method_60_code
def yX9_shapeFret : MethodName := ⟨RX9, "shapeFret", "(IIII)I"⟩
abbrev cX9_totalBy : ByteArray := prog_11_method_61_code
def yX9_totalBy : MethodName := ⟨RX9, "totalBy", "(II)I"⟩
abbrev cX9_totalWith : ByteArray := prog_11_method_62_code
def yX9_totalWith : MethodName := ⟨RX9, "totalWith", "(II)I"⟩
abbrev cX9_bestCapoNow : ByteArray := prog_11_method_63_code
def yX9_bestCapoNow : MethodName := ⟨RX9, "bestCapoNow", "()I"⟩
abbrev cX9_bestCapo : ByteArray := prog_11_method_64_code
def yX9_bestCapo : MethodName := ⟨RX9, "bestCapo", "()I"⟩
abbrev cX9_withoutNow : ByteArray := prog_11_method_65_code
def yX9_withoutNow : MethodName := ⟨RX9, "withoutNow", "(I)I"⟩
abbrev cX9_totalWithout : ByteArray := prog_11_method_66_code
def yX9_totalWithout : MethodName := ⟨RX9, "totalWithout", "(I)I"⟩
abbrev cX9_totalFixed : ByteArray := prog_11_method_67_code
def yX9_totalFixed : MethodName := ⟨RX9, "totalFixed", "(II)I"⟩
abbrev cX9_digest : ByteArray := prog_11_method_68_code
def yX9_digest : MethodName := ⟨RX9, "digest", "()J"⟩
def RJ6 : String := "java/lang/Integer"
abbrev cJ6_bitCount_0f7a4 : ByteArray := prog_16_method_49_code
def yJ6_bitCount_0f7a4 : MethodName := ⟨RJ6, "bitCount", "(I)I"⟩
def RJ9 : String := "java/lang/Math"
abbrev cJ9_abs_0f7a4 : ByteArray := prog_17_method_59_code
def yJ9_abs_0f7a4 : MethodName := ⟨RJ9, "abs", "(I)I"⟩
abbrev cJ9_max_7cf53 : ByteArray := prog_17_method_65_code
def yJ9_max_7cf53 : MethodName := ⟨RJ9, "max", "(II)I"⟩
abbrev cJ9_min_7cf53 : ByteArray := prog_17_method_69_code
def yJ9_min_7cf53 : MethodName := ⟨RJ9, "min", "(II)I"⟩
def RJ0 : String := "java/lang/String"
def RJ10 : String := "java/lang/System"
def RL : String := "TablatureLaw"
abbrev cL_string : ByteArray := method_3_code
def yL_string : MethodName := ⟨RL, "string", "(LTablature;I[J)I"⟩
abbrev cL_tune : ByteArray := method_4_code
def yL_tune : MethodName := ⟨RL, "tune", "(LTablature;II[J)I"⟩
abbrev cL_slacken : ByteArray := method_5_code
def yL_slacken : MethodName := ⟨RL, "slacken", "(LTablature;IZ[J)I"⟩
abbrev cL_capo : ByteArray := method_6_code
def yL_capo : MethodName := ⟨RL, "capo", "(LTablature;I[J)I"⟩
abbrev cL_reach : ByteArray := method_7_code
def yL_reach : MethodName := ⟨RL, "reach", "(LTablature;I[J)I"⟩
abbrev cL_fretOf : ByteArray := method_8_code
def yL_fretOf : MethodName := ⟨RL, "fretOf", "(LTablature;II[J)I"⟩
abbrev cL_chord : ByteArray := method_9_code
def yL_chord : MethodName := ⟨RL, "chord", "(LTablature;IIIII[J)I"⟩
abbrev cL_strike : ByteArray := method_10_code
def yL_strike : MethodName := ⟨RL, "strike", "(LTablature;I[J)I"⟩
abbrev cL_fix : ByteArray := method_11_code
def yL_fix : MethodName := ⟨RL, "fix", "(LTablature;II[J)I"⟩
abbrev cL_ofChord : ByteArray := method_12_code
def yL_ofChord : MethodName := ⟨RL, "ofChord", "(LTablature;II[J)I"⟩
abbrev cL_ofGrip : ByteArray := method_13_code
def yL_ofGrip : MethodName := ⟨RL, "ofGrip", "(LTablature;III[J)I"⟩
abbrev cL_fret : ByteArray := method_14_code
def yL_fret : MethodName := ⟨RL, "fret", "(LTablature;III[J)I"⟩
abbrev cL_finger : ByteArray := method_15_code
def yL_finger : MethodName := ⟨RL, "finger", "(LTablature;III[J)I"⟩
abbrev cL_move : ByteArray := method_16_code
def yL_move : MethodName := ⟨RL, "move", "(LTablature;III[J)I"⟩
abbrev cL_plan : ByteArray := method_17_code
def yL_plan : MethodName := ⟨RL, "plan", "(LTablature;I[J)I"⟩
abbrev cL_many : ByteArray := method_18_code
def yL_many : MethodName := ⟨RL, "many", "(LTablature;I[J)I"⟩
abbrev cL_shapes : ByteArray := method_19_code
def yL_shapes : MethodName := ⟨RL, "shapes", "(LTablature;III[J)I"⟩
abbrev cL_shapeEffort : ByteArray := method_20_code
def yL_shapeEffort : MethodName := ⟨RL, "shapeEffort", "(LTablature;III[J)I"⟩
abbrev cL_shapeFret : ByteArray := method_21_code
def yL_shapeFret : MethodName := ⟨RL, "shapeFret", "(LTablature;IIII[J)I"⟩
abbrev cL_totalWith : ByteArray := method_22_code
def yL_totalWith : MethodName := ⟨RL, "totalWith", "(LTablature;II[J)I"⟩
abbrev cL_totalWithout : ByteArray := method_23_code
def yL_totalWithout : MethodName := ⟨RL, "totalWithout", "(LTablature;I[J)I"⟩
abbrev cL_totalFixed : ByteArray := method_24_code
def yL_totalFixed : MethodName := ⟨RL, "totalFixed", "(LTablature;II[J)I"⟩
abbrev cL_law : ByteArray := code
def yL_law : MethodName := ⟨RL, "law", "([I)Z"⟩
theorem dX0_init_0 : decode cX0_init 0 = .ok (.aload_n 0, 1) := by decide +kernel
theorem dX0_init_1 : decode cX0_init 1 = .ok (.invokespecial 3, 3) := by decide +kernel
theorem dX0_init_4 : decode cX0_init 4 = .ok (.aload_n 0, 1) := by decide +kernel
theorem dX0_init_5 : decode cX0_init 5 = .ok (.iconst 4, 1) := by decide +kernel
theorem dX0_init_6 : decode cX0_init 6 = .ok (.newarray .int, 2) := by decide +kernel
theorem dX0_init_8 : decode cX0_init 8 = .ok (.putfield 9, 3) := by decide +kernel
theorem dX0_init_11 : decode cX0_init 11 = .ok (.aload_n 0, 1) := by decide +kernel
theorem dX0_init_12 : decode cX0_init 12 = .ok (.iconst 0, 1) := by decide +kernel
theorem dX0_init_13 : decode cX0_init 13 = .ok (.putfield 15, 3) := by decide +kernel
theorem dX0_init_16 : decode cX0_init 16 = .ok (.aload_n 0, 1) := by decide +kernel
theorem dX0_init_17 : decode cX0_init 17 = .ok (.iconst 1, 1) := by decide +kernel
theorem dX0_init_18 : decode cX0_init 18 = .ok (.putfield 19, 3) := by decide +kernel
theorem dX0_init_21 : decode cX0_init 21 = .ok (.aload_n 0, 1) := by decide +kernel
theorem dX0_init_22 : decode cX0_init 22 = .ok (.iconst (-1), 1) := by decide +kernel
theorem dX0_init_23 : decode cX0_init 23 = .ok (.putfield 22, 3) := by decide +kernel
theorem dX0_init_26 : decode cX0_init 26 = .ok (.return_, 1) := by decide +kernel
theorem dX0_clear_0 : decode cX0_clear 0 = .ok (.aload_n 0, 1) := by decide +kernel
theorem dX0_clear_1 : decode cX0_clear 1 = .ok (.iconst 0, 1) := by decide +kernel
theorem dX0_clear_2 : decode cX0_clear 2 = .ok (.putfield 15, 3) := by decide +kernel
theorem dX0_clear_5 : decode cX0_clear 5 = .ok (.aload_n 0, 1) := by decide +kernel
theorem dX0_clear_6 : decode cX0_clear 6 = .ok (.iload_n 1, 1) := by decide +kernel
theorem dX0_clear_7 : decode cX0_clear 7 = .ok (.putfield 19, 3) := by decide +kernel
theorem dX0_clear_10 : decode cX0_clear 10 = .ok (.aload_n 0, 1) := by decide +kernel
theorem dX0_clear_11 : decode cX0_clear 11 = .ok (.iconst (-1), 1) := by decide +kernel
theorem dX0_clear_12 : decode cX0_clear 12 = .ok (.putfield 22, 3) := by decide +kernel
theorem dX0_clear_15 : decode cX0_clear 15 = .ok (.return_, 1) := by decide +kernel
theorem dX0_add_0 : decode cX0_add 0 = .ok (.iload_n 1, 1) := by decide +kernel
theorem dX0_add_1 : decode cX0_add 1 = .ok (.iconst (-1), 1) := by decide +kernel
theorem dX0_add_2 : decode cX0_add 2 = .ok (.if_icmp .eq 31, 3) := by decide +kernel
theorem dX0_add_5 : decode cX0_add 5 = .ok (.aload_n 0, 1) := by decide +kernel
theorem dX0_add_6 : decode cX0_add 6 = .ok (.getfield 15, 3) := by decide +kernel
theorem dX0_add_9 : decode cX0_add 9 = .ok (.iconst 4, 1) := by decide +kernel
theorem dX0_add_10 : decode cX0_add 10 = .ok (.if_icmp .ge 23, 3) := by decide +kernel
theorem dX0_add_13 : decode cX0_add 13 = .ok (.aload_n 0, 1) := by decide +kernel
theorem dX0_add_14 : decode cX0_add 14 = .ok (.getfield 9, 3) := by decide +kernel
theorem dX0_add_17 : decode cX0_add 17 = .ok (.aload_n 0, 1) := by decide +kernel
theorem dX0_add_18 : decode cX0_add 18 = .ok (.getfield 15, 3) := by decide +kernel
theorem dX0_add_21 : decode cX0_add 21 = .ok (.iload_n 1, 1) := by decide +kernel
theorem dX0_add_22 : decode cX0_add 22 = .ok (.iastore, 1) := by decide +kernel
theorem dX0_add_23 : decode cX0_add 23 = .ok (.aload_n 0, 1) := by decide +kernel
theorem dX0_add_24 : decode cX0_add 24 = .ok (.dup, 1) := by decide +kernel
theorem dX0_add_25 : decode cX0_add 25 = .ok (.getfield 15, 3) := by decide +kernel
theorem dX0_add_28 : decode cX0_add 28 = .ok (.iconst 1, 1) := by decide +kernel
theorem dX0_add_29 : decode cX0_add 29 = .ok (.iadd, 1) := by decide +kernel
theorem dX0_add_30 : decode cX0_add 30 = .ok (.putfield 15, 3) := by decide +kernel
theorem dX0_add_33 : decode cX0_add 33 = .ok (.return_, 1) := by decide +kernel
theorem dX0_lowest_0 : decode cX0_lowest 0 = .ok (.bipush 80, 2) := by decide +kernel
theorem dX0_lowest_2 : decode cX0_lowest 2 = .ok (.istore_n 1, 1) := by decide +kernel
theorem dX0_lowest_3 : decode cX0_lowest 3 = .ok (.iconst 0, 1) := by decide +kernel
theorem dX0_lowest_4 : decode cX0_lowest 4 = .ok (.istore_n 2, 1) := by decide +kernel
theorem dX0_lowest_5 : decode cX0_lowest 5 = .ok (.iload_n 2, 1) := by decide +kernel
theorem dX0_lowest_6 : decode cX0_lowest 6 = .ok (.aload_n 0, 1) := by decide +kernel
theorem dX0_lowest_7 : decode cX0_lowest 7 = .ok (.getfield 15, 3) := by decide +kernel
theorem dX0_lowest_10 : decode cX0_lowest 10 = .ok (.if_icmp .ge 20, 3) := by decide +kernel
theorem dX0_lowest_13 : decode cX0_lowest 13 = .ok (.iload_n 1, 1) := by decide +kernel
theorem dX0_lowest_14 : decode cX0_lowest 14 = .ok (.aload_n 0, 1) := by decide +kernel
theorem dX0_lowest_15 : decode cX0_lowest 15 = .ok (.getfield 9, 3) := by decide +kernel
theorem dX0_lowest_18 : decode cX0_lowest 18 = .ok (.iload_n 2, 1) := by decide +kernel
theorem dX0_lowest_19 : decode cX0_lowest 19 = .ok (.iaload, 1) := by decide +kernel
theorem dX0_lowest_20 : decode cX0_lowest 20 = .ok (.invokestatic 25, 3) := by decide +kernel
theorem dX0_lowest_23 : decode cX0_lowest 23 = .ok (.istore_n 1, 1) := by decide +kernel
theorem dX0_lowest_24 : decode cX0_lowest 24 = .ok (.iinc 2 1, 3) := by decide +kernel
theorem dX0_lowest_27 : decode cX0_lowest 27 = .ok (.goto (-22), 3) := by decide +kernel
theorem dX0_lowest_30 : decode cX0_lowest 30 = .ok (.iload_n 1, 1) := by decide +kernel
theorem dX0_lowest_31 : decode cX0_lowest 31 = .ok (.ireturn, 1) := by decide +kernel
theorem dX0_highest_0 : decode cX0_highest 0 = .ok (.iconst 0, 1) := by decide +kernel
theorem dX0_highest_1 : decode cX0_highest 1 = .ok (.istore_n 1, 1) := by decide +kernel
theorem dX0_highest_2 : decode cX0_highest 2 = .ok (.iconst 0, 1) := by decide +kernel
theorem dX0_highest_3 : decode cX0_highest 3 = .ok (.istore_n 2, 1) := by decide +kernel
theorem dX0_highest_4 : decode cX0_highest 4 = .ok (.iload_n 2, 1) := by decide +kernel
theorem dX0_highest_5 : decode cX0_highest 5 = .ok (.aload_n 0, 1) := by decide +kernel
theorem dX0_highest_6 : decode cX0_highest 6 = .ok (.getfield 15, 3) := by decide +kernel
theorem dX0_highest_9 : decode cX0_highest 9 = .ok (.if_icmp .ge 20, 3) := by decide +kernel
theorem dX0_highest_12 : decode cX0_highest 12 = .ok (.iload_n 1, 1) := by decide +kernel
theorem dX0_highest_13 : decode cX0_highest 13 = .ok (.aload_n 0, 1) := by decide +kernel
theorem dX0_highest_14 : decode cX0_highest 14 = .ok (.getfield 9, 3) := by decide +kernel
theorem dX0_highest_17 : decode cX0_highest 17 = .ok (.iload_n 2, 1) := by decide +kernel
theorem dX0_highest_18 : decode cX0_highest 18 = .ok (.iaload, 1) := by decide +kernel
theorem dX0_highest_19 : decode cX0_highest 19 = .ok (.invokestatic 31, 3) := by decide +kernel
theorem dX0_highest_22 : decode cX0_highest 22 = .ok (.istore_n 1, 1) := by decide +kernel
theorem dX0_highest_23 : decode cX0_highest 23 = .ok (.iinc 2 1, 3) := by decide +kernel
theorem dX0_highest_26 : decode cX0_highest 26 = .ok (.goto (-22), 3) := by decide +kernel
theorem dX0_highest_29 : decode cX0_highest 29 = .ok (.iload_n 1, 1) := by decide +kernel
theorem dX0_highest_30 : decode cX0_highest 30 = .ok (.ireturn, 1) := by decide +kernel
theorem dX1_fretAt_0 : decode cX1_fretAt 0 = .ok (.iload_n 0, 1) := by decide +kernel
theorem dX1_fretAt_1 : decode cX1_fretAt 1 = .ok (.iconst 4, 1) := by decide +kernel
theorem dX1_fretAt_2 : decode cX1_fretAt 2 = .ok (.iconst 5, 1) := by decide +kernel
theorem dX1_fretAt_3 : decode cX1_fretAt 3 = .ok (.iload_n 1, 1) := by decide +kernel
theorem dX1_fretAt_4 : decode cX1_fretAt 4 = .ok (.isub, 1) := by decide +kernel
theorem dX1_fretAt_5 : decode cX1_fretAt 5 = .ok (.imul, 1) := by decide +kernel
theorem dX1_fretAt_6 : decode cX1_fretAt 6 = .ok (.ishr, 1) := by decide +kernel
theorem dX1_fretAt_7 : decode cX1_fretAt 7 = .ok (.bipush 15, 2) := by decide +kernel
theorem dX1_fretAt_9 : decode cX1_fretAt 9 = .ok (.iand, 1) := by decide +kernel
theorem dX1_fretAt_10 : decode cX1_fretAt 10 = .ok (.iconst 1, 1) := by decide +kernel
theorem dX1_fretAt_11 : decode cX1_fretAt 11 = .ok (.isub, 1) := by decide +kernel
theorem dX1_fretAt_12 : decode cX1_fretAt 12 = .ok (.ireturn, 1) := by decide +kernel
theorem dX1_with_0 : decode cX1_with 0 = .ok (.iload_n 0, 1) := by decide +kernel
theorem dX1_with_1 : decode cX1_with 1 = .ok (.iload_n 2, 1) := by decide +kernel
theorem dX1_with_2 : decode cX1_with 2 = .ok (.iconst 1, 1) := by decide +kernel
theorem dX1_with_3 : decode cX1_with 3 = .ok (.iadd, 1) := by decide +kernel
theorem dX1_with_4 : decode cX1_with 4 = .ok (.iconst 4, 1) := by decide +kernel
theorem dX1_with_5 : decode cX1_with 5 = .ok (.iconst 5, 1) := by decide +kernel
theorem dX1_with_6 : decode cX1_with 6 = .ok (.iload_n 1, 1) := by decide +kernel
theorem dX1_with_7 : decode cX1_with 7 = .ok (.isub, 1) := by decide +kernel
theorem dX1_with_8 : decode cX1_with 8 = .ok (.imul, 1) := by decide +kernel
theorem dX1_with_9 : decode cX1_with 9 = .ok (.ishl, 1) := by decide +kernel
theorem dX1_with_10 : decode cX1_with 10 = .ok (.ior, 1) := by decide +kernel
theorem dX1_with_11 : decode cX1_with 11 = .ok (.ireturn, 1) := by decide +kernel
theorem dX1_newlyPressed_0 : decode cX1_newlyPressed 0 = .ok (.iload_n 0, 1) := by decide +kernel
theorem dX1_newlyPressed_1 : decode cX1_newlyPressed 1 = .ok (.iload_n 1, 1) := by decide +kernel
theorem dX1_newlyPressed_2 : decode cX1_newlyPressed 2 = .ok (.ixor, 1) := by decide +kernel
theorem dX1_newlyPressed_3 : decode cX1_newlyPressed 3 = .ok (.istore_n 2, 1) := by decide +kernel
theorem dX1_newlyPressed_4 : decode cX1_newlyPressed 4 = .ok (.iload_n 2, 1) := by decide +kernel
theorem dX1_newlyPressed_5 : decode cX1_newlyPressed 5 = .ok (.iload_n 2, 1) := by decide +kernel
theorem dX1_newlyPressed_6 : decode cX1_newlyPressed 6 = .ok (.iconst 1, 1) := by decide +kernel
theorem dX1_newlyPressed_7 : decode cX1_newlyPressed 7 = .ok (.ishr, 1) := by decide +kernel
theorem dX1_newlyPressed_8 : decode cX1_newlyPressed 8 = .ok (.ior, 1) := by decide +kernel
theorem dX1_newlyPressed_9 : decode cX1_newlyPressed 9 = .ok (.iload_n 2, 1) := by decide +kernel
theorem dX1_newlyPressed_10 : decode cX1_newlyPressed 10 = .ok (.iconst 2, 1) := by decide +kernel
theorem dX1_newlyPressed_11 : decode cX1_newlyPressed 11 = .ok (.ishr, 1) := by decide +kernel
theorem dX1_newlyPressed_12 : decode cX1_newlyPressed 12 = .ok (.ior, 1) := by decide +kernel
theorem dX1_newlyPressed_13 : decode cX1_newlyPressed 13 = .ok (.iload_n 2, 1) := by decide +kernel
theorem dX1_newlyPressed_14 : decode cX1_newlyPressed 14 = .ok (.iconst 3, 1) := by decide +kernel
theorem dX1_newlyPressed_15 : decode cX1_newlyPressed 15 = .ok (.ishr, 1) := by decide +kernel
theorem dX1_newlyPressed_16 : decode cX1_newlyPressed 16 = .ok (.ior, 1) := by decide +kernel
theorem dX1_newlyPressed_17 : decode cX1_newlyPressed 17 = .ok (.istore_n 3, 1) := by decide +kernel
theorem dX1_newlyPressed_18 : decode cX1_newlyPressed 18 = .ok (.iload_n 1, 1) := by decide +kernel
theorem dX1_newlyPressed_19 : decode cX1_newlyPressed 19 = .ok (.iconst 1, 1) := by decide +kernel
theorem dX1_newlyPressed_20 : decode cX1_newlyPressed 20 = .ok (.ishr, 1) := by decide +kernel
theorem dX1_newlyPressed_21 : decode cX1_newlyPressed 21 = .ok (.iload_n 1, 1) := by decide +kernel
theorem dX1_newlyPressed_22 : decode cX1_newlyPressed 22 = .ok (.iconst 2, 1) := by decide +kernel
theorem dX1_newlyPressed_23 : decode cX1_newlyPressed 23 = .ok (.ishr, 1) := by decide +kernel
theorem dX1_newlyPressed_24 : decode cX1_newlyPressed 24 = .ok (.ior, 1) := by decide +kernel
theorem dX1_newlyPressed_25 : decode cX1_newlyPressed 25 = .ok (.iload_n 1, 1) := by decide +kernel
theorem dX1_newlyPressed_26 : decode cX1_newlyPressed 26 = .ok (.iconst 3, 1) := by decide +kernel
theorem dX1_newlyPressed_27 : decode cX1_newlyPressed 27 = .ok (.ishr, 1) := by decide +kernel
theorem dX1_newlyPressed_28 : decode cX1_newlyPressed 28 = .ok (.ior, 1) := by decide +kernel
theorem dX1_newlyPressed_29 : decode cX1_newlyPressed 29 = .ok (.istore 4, 2) := by decide +kernel
theorem dX1_newlyPressed_31 : decode cX1_newlyPressed 31 = .ok (.iload_n 3, 1) := by decide +kernel
theorem dX1_newlyPressed_32 : decode cX1_newlyPressed 32 = .ok (.iload 4, 2) := by decide +kernel
theorem dX1_newlyPressed_34 : decode cX1_newlyPressed 34 = .ok (.iand, 1) := by decide +kernel
theorem dX1_newlyPressed_35 : decode cX1_newlyPressed 35 = .ok (.ldc 11, 2) := by decide +kernel
theorem dX1_newlyPressed_37 : decode cX1_newlyPressed 37 = .ok (.iand, 1) := by decide +kernel
theorem dX1_newlyPressed_38 : decode cX1_newlyPressed 38 = .ok (.ireturn, 1) := by decide +kernel
theorem dX2_init_0 : decode cX2_init 0 = .ok (.aload_n 0, 1) := by decide +kernel
theorem dX2_init_1 : decode cX2_init 1 = .ok (.invokespecial 3, 3) := by decide +kernel
theorem dX2_init_4 : decode cX2_init 4 = .ok (.aload_n 0, 1) := by decide +kernel
theorem dX2_init_5 : decode cX2_init 5 = .ok (.bipush 30, 2) := by decide +kernel
theorem dX2_init_7 : decode cX2_init 7 = .ok (.newarray .int, 2) := by decide +kernel
theorem dX2_init_9 : decode cX2_init 9 = .ok (.putfield 9, 3) := by decide +kernel
theorem dX2_init_12 : decode cX2_init 12 = .ok (.aload_n 0, 1) := by decide +kernel
theorem dX2_init_13 : decode cX2_init 13 = .ok (.bipush 30, 2) := by decide +kernel
theorem dX2_init_15 : decode cX2_init 15 = .ok (.newarray .int, 2) := by decide +kernel
theorem dX2_init_17 : decode cX2_init 17 = .ok (.putfield 15, 3) := by decide +kernel
theorem dX2_init_20 : decode cX2_init 20 = .ok (.aload_n 0, 1) := by decide +kernel
theorem dX2_init_21 : decode cX2_init 21 = .ok (.bipush 30, 2) := by decide +kernel
theorem dX2_init_23 : decode cX2_init 23 = .ok (.newarray .int, 2) := by decide +kernel
theorem dX2_init_25 : decode cX2_init 25 = .ok (.putfield 18, 3) := by decide +kernel
theorem dX2_init_28 : decode cX2_init 28 = .ok (.aload_n 0, 1) := by decide +kernel
theorem dX2_init_29 : decode cX2_init 29 = .ok (.iconst 0, 1) := by decide +kernel
theorem dX2_init_30 : decode cX2_init 30 = .ok (.putfield 21, 3) := by decide +kernel
theorem dX2_init_33 : decode cX2_init 33 = .ok (.return_, 1) := by decide +kernel
theorem dX2_has_0 : decode cX2_has 0 = .ok (.iload_n 1, 1) := by decide +kernel
theorem dX2_has_1 : decode cX2_has 1 = .ok (.ifCond .lt 21, 3) := by decide +kernel
theorem dX2_has_4 : decode cX2_has 4 = .ok (.iload_n 1, 1) := by decide +kernel
theorem dX2_has_5 : decode cX2_has 5 = .ok (.aload_n 0, 1) := by decide +kernel
theorem dX2_has_6 : decode cX2_has 6 = .ok (.getfield 21, 3) := by decide +kernel
theorem dX2_has_9 : decode cX2_has 9 = .ok (.if_icmp .ge 13, 3) := by decide +kernel
theorem dX2_has_12 : decode cX2_has 12 = .ok (.iload_n 1, 1) := by decide +kernel
theorem dX2_has_13 : decode cX2_has 13 = .ok (.bipush 30, 2) := by decide +kernel
theorem dX2_has_15 : decode cX2_has 15 = .ok (.if_icmp .ge 7, 3) := by decide +kernel
theorem dX2_has_18 : decode cX2_has 18 = .ok (.iconst 1, 1) := by decide +kernel
theorem dX2_has_19 : decode cX2_has 19 = .ok (.goto 4, 3) := by decide +kernel
theorem dX2_has_22 : decode cX2_has 22 = .ok (.iconst 0, 1) := by decide +kernel
theorem dX2_has_23 : decode cX2_has 23 = .ok (.ireturn, 1) := by decide +kernel
theorem dX2_numberOf_0 : decode cX2_numberOf 0 = .ok (.iconst 0, 1) := by decide +kernel
theorem dX2_numberOf_1 : decode cX2_numberOf 1 = .ok (.istore_n 2, 1) := by decide +kernel
theorem dX2_numberOf_2 : decode cX2_numberOf 2 = .ok (.iload_n 2, 1) := by decide +kernel
theorem dX2_numberOf_3 : decode cX2_numberOf 3 = .ok (.aload_n 0, 1) := by decide +kernel
theorem dX2_numberOf_4 : decode cX2_numberOf 4 = .ok (.getfield 21, 3) := by decide +kernel
theorem dX2_numberOf_7 : decode cX2_numberOf 7 = .ok (.if_icmp .ge 21, 3) := by decide +kernel
theorem dX2_numberOf_10 : decode cX2_numberOf 10 = .ok (.aload_n 0, 1) := by decide +kernel
theorem dX2_numberOf_11 : decode cX2_numberOf 11 = .ok (.getfield 9, 3) := by decide +kernel
theorem dX2_numberOf_14 : decode cX2_numberOf 14 = .ok (.iload_n 2, 1) := by decide +kernel
theorem dX2_numberOf_15 : decode cX2_numberOf 15 = .ok (.iaload, 1) := by decide +kernel
theorem dX2_numberOf_16 : decode cX2_numberOf 16 = .ok (.iload_n 1, 1) := by decide +kernel
theorem dX2_numberOf_17 : decode cX2_numberOf 17 = .ok (.if_icmp .ne 5, 3) := by decide +kernel
theorem dX2_numberOf_20 : decode cX2_numberOf 20 = .ok (.iload_n 2, 1) := by decide +kernel
theorem dX2_numberOf_21 : decode cX2_numberOf 21 = .ok (.ireturn, 1) := by decide +kernel
theorem dX2_numberOf_22 : decode cX2_numberOf 22 = .ok (.iinc 2 1, 3) := by decide +kernel
theorem dX2_numberOf_25 : decode cX2_numberOf 25 = .ok (.goto (-23), 3) := by decide +kernel
theorem dX2_numberOf_28 : decode cX2_numberOf 28 = .ok (.iconst (-1), 1) := by decide +kernel
theorem dX2_numberOf_29 : decode cX2_numberOf 29 = .ok (.ireturn, 1) := by decide +kernel
theorem dX2_insert_0 : decode cX2_insert 0 = .ok (.aload_n 0, 1) := by decide +kernel
theorem dX2_insert_1 : decode cX2_insert 1 = .ok (.getfield 21, 3) := by decide +kernel
theorem dX2_insert_4 : decode cX2_insert 4 = .ok (.istore 4, 2) := by decide +kernel
theorem dX2_insert_6 : decode cX2_insert 6 = .ok (.iload 4, 2) := by decide +kernel
theorem dX2_insert_8 : decode cX2_insert 8 = .ok (.ifCond .le 48, 3) := by decide +kernel
theorem dX2_insert_11 : decode cX2_insert 11 = .ok (.iload_n 2, 1) := by decide +kernel
theorem dX2_insert_12 : decode cX2_insert 12 = .ok (.aload_n 0, 1) := by decide +kernel
theorem dX2_insert_13 : decode cX2_insert 13 = .ok (.getfield 15, 3) := by decide +kernel
theorem dX2_insert_16 : decode cX2_insert 16 = .ok (.iload 4, 2) := by decide +kernel
theorem dX2_insert_18 : decode cX2_insert 18 = .ok (.iconst 1, 1) := by decide +kernel
theorem dX2_insert_19 : decode cX2_insert 19 = .ok (.isub, 1) := by decide +kernel
theorem dX2_insert_20 : decode cX2_insert 20 = .ok (.iaload, 1) := by decide +kernel
theorem dX2_insert_21 : decode cX2_insert 21 = .ok (.if_icmp .lt 29, 3) := by decide +kernel
theorem dX2_insert_24 : decode cX2_insert 24 = .ok (.iload_n 2, 1) := by decide +kernel
theorem dX2_insert_25 : decode cX2_insert 25 = .ok (.aload_n 0, 1) := by decide +kernel
theorem dX2_insert_26 : decode cX2_insert 26 = .ok (.getfield 15, 3) := by decide +kernel
theorem dX2_insert_29 : decode cX2_insert 29 = .ok (.iload 4, 2) := by decide +kernel
theorem dX2_insert_31 : decode cX2_insert 31 = .ok (.iconst 1, 1) := by decide +kernel
theorem dX2_insert_32 : decode cX2_insert 32 = .ok (.isub, 1) := by decide +kernel
theorem dX2_insert_33 : decode cX2_insert 33 = .ok (.iaload, 1) := by decide +kernel
theorem dX2_insert_34 : decode cX2_insert 34 = .ok (.if_icmp .ne 22, 3) := by decide +kernel
theorem dX2_insert_37 : decode cX2_insert 37 = .ok (.iload_n 1, 1) := by decide +kernel
theorem dX2_insert_38 : decode cX2_insert 38 = .ok (.aload_n 0, 1) := by decide +kernel
theorem dX2_insert_39 : decode cX2_insert 39 = .ok (.getfield 9, 3) := by decide +kernel
theorem dX2_insert_42 : decode cX2_insert 42 = .ok (.iload 4, 2) := by decide +kernel
theorem dX2_insert_44 : decode cX2_insert 44 = .ok (.iconst 1, 1) := by decide +kernel
theorem dX2_insert_45 : decode cX2_insert 45 = .ok (.isub, 1) := by decide +kernel
theorem dX2_insert_46 : decode cX2_insert 46 = .ok (.iaload, 1) := by decide +kernel
theorem dX2_insert_47 : decode cX2_insert 47 = .ok (.if_icmp .ge 9, 3) := by decide +kernel
theorem dX2_insert_50 : decode cX2_insert 50 = .ok (.iinc 4 (-1), 3) := by decide +kernel
theorem dX2_insert_53 : decode cX2_insert 53 = .ok (.goto (-47), 3) := by decide +kernel
theorem dX2_insert_56 : decode cX2_insert 56 = .ok (.iload 4, 2) := by decide +kernel
theorem dX2_insert_58 : decode cX2_insert 58 = .ok (.bipush 30, 2) := by decide +kernel
theorem dX2_insert_60 : decode cX2_insert 60 = .ok (.if_icmp .lt 4, 3) := by decide +kernel
theorem dX2_insert_63 : decode cX2_insert 63 = .ok (.return_, 1) := by decide +kernel
theorem dX2_insert_64 : decode cX2_insert 64 = .ok (.aload_n 0, 1) := by decide +kernel
theorem dX2_insert_65 : decode cX2_insert 65 = .ok (.aload_n 0, 1) := by decide +kernel
theorem dX2_insert_66 : decode cX2_insert 66 = .ok (.getfield 21, 3) := by decide +kernel
theorem dX2_insert_69 : decode cX2_insert 69 = .ok (.iconst 1, 1) := by decide +kernel
theorem dX2_insert_70 : decode cX2_insert 70 = .ok (.iadd, 1) := by decide +kernel
theorem dX2_insert_71 : decode cX2_insert 71 = .ok (.bipush 30, 2) := by decide +kernel
theorem dX2_insert_73 : decode cX2_insert 73 = .ok (.invokestatic 25, 3) := by decide +kernel
theorem dX2_insert_76 : decode cX2_insert 76 = .ok (.putfield 21, 3) := by decide +kernel
theorem dX2_insert_79 : decode cX2_insert 79 = .ok (.aload_n 0, 1) := by decide +kernel
theorem dX2_insert_80 : decode cX2_insert 80 = .ok (.getfield 21, 3) := by decide +kernel
theorem dX2_insert_83 : decode cX2_insert 83 = .ok (.iconst 1, 1) := by decide +kernel
theorem dX2_insert_84 : decode cX2_insert 84 = .ok (.isub, 1) := by decide +kernel
theorem dX2_insert_85 : decode cX2_insert 85 = .ok (.istore 5, 2) := by decide +kernel
theorem dX2_insert_87 : decode cX2_insert 87 = .ok (.iload 5, 2) := by decide +kernel
theorem dX2_insert_89 : decode cX2_insert 89 = .ok (.iload 4, 2) := by decide +kernel
theorem dX2_insert_91 : decode cX2_insert 91 = .ok (.if_icmp .le 57, 3) := by decide +kernel
theorem dX2_insert_94 : decode cX2_insert 94 = .ok (.aload_n 0, 1) := by decide +kernel
theorem dX2_insert_95 : decode cX2_insert 95 = .ok (.getfield 9, 3) := by decide +kernel
theorem dX2_insert_98 : decode cX2_insert 98 = .ok (.iload 5, 2) := by decide +kernel
theorem dX2_insert_100 : decode cX2_insert 100 = .ok (.aload_n 0, 1) := by decide +kernel
theorem dX2_insert_101 : decode cX2_insert 101 = .ok (.getfield 9, 3) := by decide +kernel
theorem dX2_insert_104 : decode cX2_insert 104 = .ok (.iload 5, 2) := by decide +kernel
theorem dX2_insert_106 : decode cX2_insert 106 = .ok (.iconst 1, 1) := by decide +kernel
theorem dX2_insert_107 : decode cX2_insert 107 = .ok (.isub, 1) := by decide +kernel
theorem dX2_insert_108 : decode cX2_insert 108 = .ok (.iaload, 1) := by decide +kernel
theorem dX2_insert_109 : decode cX2_insert 109 = .ok (.iastore, 1) := by decide +kernel
theorem dX2_insert_110 : decode cX2_insert 110 = .ok (.aload_n 0, 1) := by decide +kernel
theorem dX2_insert_111 : decode cX2_insert 111 = .ok (.getfield 15, 3) := by decide +kernel
theorem dX2_insert_114 : decode cX2_insert 114 = .ok (.iload 5, 2) := by decide +kernel
theorem dX2_insert_116 : decode cX2_insert 116 = .ok (.aload_n 0, 1) := by decide +kernel
theorem dX2_insert_117 : decode cX2_insert 117 = .ok (.getfield 15, 3) := by decide +kernel
theorem dX2_insert_120 : decode cX2_insert 120 = .ok (.iload 5, 2) := by decide +kernel
theorem dX2_insert_122 : decode cX2_insert 122 = .ok (.iconst 1, 1) := by decide +kernel
theorem dX2_insert_123 : decode cX2_insert 123 = .ok (.isub, 1) := by decide +kernel
theorem dX2_insert_124 : decode cX2_insert 124 = .ok (.iaload, 1) := by decide +kernel
theorem dX2_insert_125 : decode cX2_insert 125 = .ok (.iastore, 1) := by decide +kernel
theorem dX2_insert_126 : decode cX2_insert 126 = .ok (.aload_n 0, 1) := by decide +kernel
theorem dX2_insert_127 : decode cX2_insert 127 = .ok (.getfield 18, 3) := by decide +kernel
theorem dX2_insert_130 : decode cX2_insert 130 = .ok (.iload 5, 2) := by decide +kernel
theorem dX2_insert_132 : decode cX2_insert 132 = .ok (.aload_n 0, 1) := by decide +kernel
theorem dX2_insert_133 : decode cX2_insert 133 = .ok (.getfield 18, 3) := by decide +kernel
theorem dX2_insert_136 : decode cX2_insert 136 = .ok (.iload 5, 2) := by decide +kernel
theorem dX2_insert_138 : decode cX2_insert 138 = .ok (.iconst 1, 1) := by decide +kernel
theorem dX2_insert_139 : decode cX2_insert 139 = .ok (.isub, 1) := by decide +kernel
theorem dX2_insert_140 : decode cX2_insert 140 = .ok (.iaload, 1) := by decide +kernel
theorem dX2_insert_141 : decode cX2_insert 141 = .ok (.iastore, 1) := by decide +kernel
theorem dX2_insert_142 : decode cX2_insert 142 = .ok (.iinc 5 (-1), 3) := by decide +kernel
theorem dX2_insert_145 : decode cX2_insert 145 = .ok (.goto (-58), 3) := by decide +kernel
theorem dX2_insert_148 : decode cX2_insert 148 = .ok (.aload_n 0, 1) := by decide +kernel
theorem dX2_insert_149 : decode cX2_insert 149 = .ok (.getfield 9, 3) := by decide +kernel
theorem dX2_insert_152 : decode cX2_insert 152 = .ok (.iload 4, 2) := by decide +kernel
theorem dX2_insert_154 : decode cX2_insert 154 = .ok (.iload_n 1, 1) := by decide +kernel
theorem dX2_insert_155 : decode cX2_insert 155 = .ok (.iastore, 1) := by decide +kernel
theorem dX2_insert_156 : decode cX2_insert 156 = .ok (.aload_n 0, 1) := by decide +kernel
theorem dX2_insert_157 : decode cX2_insert 157 = .ok (.getfield 15, 3) := by decide +kernel
theorem dX2_insert_160 : decode cX2_insert 160 = .ok (.iload 4, 2) := by decide +kernel
theorem dX2_insert_162 : decode cX2_insert 162 = .ok (.iload_n 2, 1) := by decide +kernel
theorem dX2_insert_163 : decode cX2_insert 163 = .ok (.iastore, 1) := by decide +kernel
theorem dX2_insert_164 : decode cX2_insert 164 = .ok (.aload_n 0, 1) := by decide +kernel
theorem dX2_insert_165 : decode cX2_insert 165 = .ok (.getfield 18, 3) := by decide +kernel
theorem dX2_insert_168 : decode cX2_insert 168 = .ok (.iload 4, 2) := by decide +kernel
theorem dX2_insert_170 : decode cX2_insert 170 = .ok (.iload_n 3, 1) := by decide +kernel
theorem dX2_insert_171 : decode cX2_insert 171 = .ok (.iastore, 1) := by decide +kernel
theorem dX2_insert_172 : decode cX2_insert 172 = .ok (.return_, 1) := by decide +kernel
theorem dX3_init_0 : decode cX3_init 0 = .ok (.aload_n 0, 1) := by decide +kernel
theorem dX3_init_1 : decode cX3_init 1 = .ok (.invokespecial 3, 3) := by decide +kernel
theorem dX3_init_4 : decode cX3_init 4 = .ok (.aload_n 0, 1) := by decide +kernel
theorem dX3_init_5 : decode cX3_init 5 = .ok (.iconst 0, 1) := by decide +kernel
theorem dX3_init_6 : decode cX3_init 6 = .ok (.putfield 9, 3) := by decide +kernel
theorem dX3_init_9 : decode cX3_init 9 = .ok (.aload_n 0, 1) := by decide +kernel
theorem dX3_init_10 : decode cX3_init 10 = .ok (.iconst 0, 1) := by decide +kernel
theorem dX3_init_11 : decode cX3_init 11 = .ok (.putfield 15, 3) := by decide +kernel
theorem dX3_init_14 : decode cX3_init 14 = .ok (.aload_n 0, 1) := by decide +kernel
theorem dX3_init_15 : decode cX3_init 15 = .ok (.iconst 0, 1) := by decide +kernel
theorem dX3_init_16 : decode cX3_init 16 = .ok (.putfield 18, 3) := by decide +kernel
theorem dX3_init_19 : decode cX3_init 19 = .ok (.aload_n 0, 1) := by decide +kernel
theorem dX3_init_20 : decode cX3_init 20 = .ok (.iconst 0, 1) := by decide +kernel
theorem dX3_init_21 : decode cX3_init 21 = .ok (.putfield 21, 3) := by decide +kernel
theorem dX3_init_24 : decode cX3_init 24 = .ok (.aload_n 0, 1) := by decide +kernel
theorem dX3_init_25 : decode cX3_init 25 = .ok (.bipush 6, 2) := by decide +kernel
theorem dX3_init_27 : decode cX3_init 27 = .ok (.newarray .int, 2) := by decide +kernel
theorem dX3_init_29 : decode cX3_init 29 = .ok (.putfield 25, 3) := by decide +kernel
theorem dX3_init_32 : decode cX3_init 32 = .ok (.aload_n 0, 1) := by decide +kernel
theorem dX3_init_33 : decode cX3_init 33 = .ok (.iconst 0, 1) := by decide +kernel
theorem dX3_init_34 : decode cX3_init 34 = .ok (.putfield 29, 3) := by decide +kernel
theorem dX3_init_37 : decode cX3_init 37 = .ok (.aload_n 0, 1) := by decide +kernel
theorem dX3_init_38 : decode cX3_init 38 = .ok (.iconst 0, 1) := by decide +kernel
theorem dX3_init_39 : decode cX3_init 39 = .ok (.putfield 32, 3) := by decide +kernel
theorem dX3_init_42 : decode cX3_init 42 = .ok (.aload_n 0, 1) := by decide +kernel
theorem dX3_init_43 : decode cX3_init 43 = .ok (.iconst 0, 1) := by decide +kernel
theorem dX3_init_44 : decode cX3_init 44 = .ok (.putfield 35, 3) := by decide +kernel
theorem dX3_init_47 : decode cX3_init 47 = .ok (.return_, 1) := by decide +kernel
theorem dX3_hold_0 : decode cX3_hold 0 = .ok (.iconst 0, 1) := by decide +kernel
theorem dX3_hold_1 : decode cX3_hold 1 = .ok (.istore_n 2, 1) := by decide +kernel
theorem dX3_hold_2 : decode cX3_hold 2 = .ok (.iload_n 2, 1) := by decide +kernel
theorem dX3_hold_3 : decode cX3_hold 3 = .ok (.bipush 6, 2) := by decide +kernel
theorem dX3_hold_5 : decode cX3_hold 5 = .ok (.if_icmp .ge 20, 3) := by decide +kernel
theorem dX3_hold_8 : decode cX3_hold 8 = .ok (.aload_n 0, 1) := by decide +kernel
theorem dX3_hold_9 : decode cX3_hold 9 = .ok (.getfield 25, 3) := by decide +kernel
theorem dX3_hold_12 : decode cX3_hold 12 = .ok (.iload_n 2, 1) := by decide +kernel
theorem dX3_hold_13 : decode cX3_hold 13 = .ok (.iload_n 1, 1) := by decide +kernel
theorem dX3_hold_14 : decode cX3_hold 14 = .ok (.iload_n 2, 1) := by decide +kernel
theorem dX3_hold_15 : decode cX3_hold 15 = .ok (.invokestatic 38, 3) := by decide +kernel
theorem dX3_hold_18 : decode cX3_hold 18 = .ok (.iastore, 1) := by decide +kernel
theorem dX3_hold_19 : decode cX3_hold 19 = .ok (.iinc 2 1, 3) := by decide +kernel
theorem dX3_hold_22 : decode cX3_hold 22 = .ok (.goto (-20), 3) := by decide +kernel
theorem dX3_hold_25 : decode cX3_hold 25 = .ok (.aload_n 0, 1) := by decide +kernel
theorem dX3_hold_26 : decode cX3_hold 26 = .ok (.invokevirtual 44, 3) := by decide +kernel
theorem dX3_hold_29 : decode cX3_hold 29 = .ok (.aload_n 0, 1) := by decide +kernel
theorem dX3_hold_30 : decode cX3_hold 30 = .ok (.invokevirtual 47, 3) := by decide +kernel
theorem dX3_hold_33 : decode cX3_hold 33 = .ok (.aload_n 0, 1) := by decide +kernel
theorem dX3_hold_34 : decode cX3_hold 34 = .ok (.invokevirtual 50, 3) := by decide +kernel
theorem dX3_hold_37 : decode cX3_hold 37 = .ok (.return_, 1) := by decide +kernel
theorem dX3_countSounding_0 : decode cX3_countSounding 0 = .ok (.aload_n 0, 1) := by decide +kernel
theorem dX3_countSounding_1 : decode cX3_countSounding 1 = .ok (.iconst 0, 1) := by decide +kernel
theorem dX3_countSounding_2 : decode cX3_countSounding 2 = .ok (.putfield 18, 3) := by decide +kernel
theorem dX3_countSounding_5 : decode cX3_countSounding 5 = .ok (.aload_n 0, 1) := by decide +kernel
theorem dX3_countSounding_6 : decode cX3_countSounding 6 = .ok (.iconst 0, 1) := by decide +kernel
theorem dX3_countSounding_7 : decode cX3_countSounding 7 = .ok (.putfield 35, 3) := by decide +kernel
theorem dX3_countSounding_10 : decode cX3_countSounding 10 = .ok (.iconst 0, 1) := by decide +kernel
theorem dX3_countSounding_11 : decode cX3_countSounding 11 = .ok (.istore_n 1, 1) := by decide +kernel
theorem dX3_countSounding_12 : decode cX3_countSounding 12 = .ok (.iconst 0, 1) := by decide +kernel
theorem dX3_countSounding_13 : decode cX3_countSounding 13 = .ok (.istore_n 2, 1) := by decide +kernel
theorem dX3_countSounding_14 : decode cX3_countSounding 14 = .ok (.iload_n 2, 1) := by decide +kernel
theorem dX3_countSounding_15 : decode cX3_countSounding 15 = .ok (.bipush 6, 2) := by decide +kernel
theorem dX3_countSounding_17 : decode cX3_countSounding 17 = .ok (.if_icmp .ge 58, 3) := by decide +kernel
theorem dX3_countSounding_20 : decode cX3_countSounding 20 = .ok (.aload_n 0, 1) := by decide +kernel
theorem dX3_countSounding_21 : decode cX3_countSounding 21 = .ok (.getfield 25, 3) := by decide +kernel
theorem dX3_countSounding_24 : decode cX3_countSounding 24 = .ok (.iload_n 2, 1) := by decide +kernel
theorem dX3_countSounding_25 : decode cX3_countSounding 25 = .ok (.iaload, 1) := by decide +kernel
theorem dX3_countSounding_26 : decode cX3_countSounding 26 = .ok (.iconst (-1), 1) := by decide +kernel
theorem dX3_countSounding_27 : decode cX3_countSounding 27 = .ok (.if_icmp .ne 9, 3) := by decide +kernel
theorem dX3_countSounding_30 : decode cX3_countSounding 30 = .ok (.iinc 1 1, 3) := by decide +kernel
theorem dX3_countSounding_33 : decode cX3_countSounding 33 = .ok (.goto 36, 3) := by decide +kernel
theorem dX3_countSounding_36 : decode cX3_countSounding 36 = .ok (.aload_n 0, 1) := by decide +kernel
theorem dX3_countSounding_37 : decode cX3_countSounding 37 = .ok (.dup, 1) := by decide +kernel
theorem dX3_countSounding_38 : decode cX3_countSounding 38 = .ok (.getfield 35, 3) := by decide +kernel
theorem dX3_countSounding_41 : decode cX3_countSounding 41 = .ok (.aload_n 0, 1) := by decide +kernel
theorem dX3_countSounding_42 : decode cX3_countSounding 42 = .ok (.getfield 18, 3) := by decide +kernel
theorem dX3_countSounding_45 : decode cX3_countSounding 45 = .ok (.ifCond .ne 7, 3) := by decide +kernel
theorem dX3_countSounding_48 : decode cX3_countSounding 48 = .ok (.iconst 0, 1) := by decide +kernel
theorem dX3_countSounding_49 : decode cX3_countSounding 49 = .ok (.goto 4, 3) := by decide +kernel
theorem dX3_countSounding_52 : decode cX3_countSounding 52 = .ok (.iload_n 1, 1) := by decide +kernel
theorem dX3_countSounding_53 : decode cX3_countSounding 53 = .ok (.iadd, 1) := by decide +kernel
theorem dX3_countSounding_54 : decode cX3_countSounding 54 = .ok (.putfield 35, 3) := by decide +kernel
theorem dX3_countSounding_57 : decode cX3_countSounding 57 = .ok (.iconst 0, 1) := by decide +kernel
theorem dX3_countSounding_58 : decode cX3_countSounding 58 = .ok (.istore_n 1, 1) := by decide +kernel
theorem dX3_countSounding_59 : decode cX3_countSounding 59 = .ok (.aload_n 0, 1) := by decide +kernel
theorem dX3_countSounding_60 : decode cX3_countSounding 60 = .ok (.dup, 1) := by decide +kernel
theorem dX3_countSounding_61 : decode cX3_countSounding 61 = .ok (.getfield 18, 3) := by decide +kernel
theorem dX3_countSounding_64 : decode cX3_countSounding 64 = .ok (.iconst 1, 1) := by decide +kernel
theorem dX3_countSounding_65 : decode cX3_countSounding 65 = .ok (.iadd, 1) := by decide +kernel
theorem dX3_countSounding_66 : decode cX3_countSounding 66 = .ok (.putfield 18, 3) := by decide +kernel
theorem dX3_countSounding_69 : decode cX3_countSounding 69 = .ok (.iinc 2 1, 3) := by decide +kernel
theorem dX3_countSounding_72 : decode cX3_countSounding 72 = .ok (.goto (-58), 3) := by decide +kernel
theorem dX3_countSounding_75 : decode cX3_countSounding 75 = .ok (.return_, 1) := by decide +kernel
theorem dX3_countPressed_0 : decode cX3_countPressed 0 = .ok (.aload_n 0, 1) := by decide +kernel
theorem dX3_countPressed_1 : decode cX3_countPressed 1 = .ok (.iconst 0, 1) := by decide +kernel
theorem dX3_countPressed_2 : decode cX3_countPressed 2 = .ok (.putfield 9, 3) := by decide +kernel
theorem dX3_countPressed_5 : decode cX3_countPressed 5 = .ok (.aload_n 0, 1) := by decide +kernel
theorem dX3_countPressed_6 : decode cX3_countPressed 6 = .ok (.iconst 0, 1) := by decide +kernel
theorem dX3_countPressed_7 : decode cX3_countPressed 7 = .ok (.putfield 15, 3) := by decide +kernel
theorem dX3_countPressed_10 : decode cX3_countPressed 10 = .ok (.aload_n 0, 1) := by decide +kernel
theorem dX3_countPressed_11 : decode cX3_countPressed 11 = .ok (.iconst 0, 1) := by decide +kernel
theorem dX3_countPressed_12 : decode cX3_countPressed 12 = .ok (.putfield 29, 3) := by decide +kernel
theorem dX3_countPressed_15 : decode cX3_countPressed 15 = .ok (.iconst 0, 1) := by decide +kernel
theorem dX3_countPressed_16 : decode cX3_countPressed 16 = .ok (.istore_n 1, 1) := by decide +kernel
theorem dX3_countPressed_17 : decode cX3_countPressed 17 = .ok (.iload_n 1, 1) := by decide +kernel
theorem dX3_countPressed_18 : decode cX3_countPressed 18 = .ok (.bipush 6, 2) := by decide +kernel
theorem dX3_countPressed_20 : decode cX3_countPressed 20 = .ok (.if_icmp .ge 77, 3) := by decide +kernel
theorem dX3_countPressed_23 : decode cX3_countPressed 23 = .ok (.aload_n 0, 1) := by decide +kernel
theorem dX3_countPressed_24 : decode cX3_countPressed 24 = .ok (.getfield 25, 3) := by decide +kernel
theorem dX3_countPressed_27 : decode cX3_countPressed 27 = .ok (.iload_n 1, 1) := by decide +kernel
theorem dX3_countPressed_28 : decode cX3_countPressed 28 = .ok (.iaload, 1) := by decide +kernel
theorem dX3_countPressed_29 : decode cX3_countPressed 29 = .ok (.istore_n 2, 1) := by decide +kernel
theorem dX3_countPressed_30 : decode cX3_countPressed 30 = .ok (.iload_n 2, 1) := by decide +kernel
theorem dX3_countPressed_31 : decode cX3_countPressed 31 = .ok (.ifCond .le 60, 3) := by decide +kernel
theorem dX3_countPressed_34 : decode cX3_countPressed 34 = .ok (.aload_n 0, 1) := by decide +kernel
theorem dX3_countPressed_35 : decode cX3_countPressed 35 = .ok (.dup, 1) := by decide +kernel
theorem dX3_countPressed_36 : decode cX3_countPressed 36 = .ok (.getfield 29, 3) := by decide +kernel
theorem dX3_countPressed_39 : decode cX3_countPressed 39 = .ok (.iconst 1, 1) := by decide +kernel
theorem dX3_countPressed_40 : decode cX3_countPressed 40 = .ok (.iadd, 1) := by decide +kernel
theorem dX3_countPressed_41 : decode cX3_countPressed 41 = .ok (.putfield 29, 3) := by decide +kernel
theorem dX3_countPressed_44 : decode cX3_countPressed 44 = .ok (.aload_n 0, 1) := by decide +kernel
theorem dX3_countPressed_45 : decode cX3_countPressed 45 = .ok (.aload_n 0, 1) := by decide +kernel
theorem dX3_countPressed_46 : decode cX3_countPressed 46 = .ok (.getfield 9, 3) := by decide +kernel
theorem dX3_countPressed_49 : decode cX3_countPressed 49 = .ok (.ifCond .eq 11, 3) := by decide +kernel
theorem dX3_countPressed_52 : decode cX3_countPressed 52 = .ok (.iload_n 2, 1) := by decide +kernel
theorem dX3_countPressed_53 : decode cX3_countPressed 53 = .ok (.aload_n 0, 1) := by decide +kernel
theorem dX3_countPressed_54 : decode cX3_countPressed 54 = .ok (.getfield 9, 3) := by decide +kernel
theorem dX3_countPressed_57 : decode cX3_countPressed 57 = .ok (.if_icmp .ge 7, 3) := by decide +kernel
theorem dX3_countPressed_60 : decode cX3_countPressed 60 = .ok (.iload_n 2, 1) := by decide +kernel
theorem dX3_countPressed_61 : decode cX3_countPressed 61 = .ok (.goto 7, 3) := by decide +kernel
theorem dX3_countPressed_64 : decode cX3_countPressed 64 = .ok (.aload_n 0, 1) := by decide +kernel
theorem dX3_countPressed_65 : decode cX3_countPressed 65 = .ok (.getfield 9, 3) := by decide +kernel
theorem dX3_countPressed_68 : decode cX3_countPressed 68 = .ok (.putfield 9, 3) := by decide +kernel
theorem dX3_countPressed_71 : decode cX3_countPressed 71 = .ok (.aload_n 0, 1) := by decide +kernel
theorem dX3_countPressed_72 : decode cX3_countPressed 72 = .ok (.iload_n 2, 1) := by decide +kernel
theorem dX3_countPressed_73 : decode cX3_countPressed 73 = .ok (.aload_n 0, 1) := by decide +kernel
theorem dX3_countPressed_74 : decode cX3_countPressed 74 = .ok (.getfield 15, 3) := by decide +kernel
theorem dX3_countPressed_77 : decode cX3_countPressed 77 = .ok (.if_icmp .le 7, 3) := by decide +kernel
theorem dX3_countPressed_80 : decode cX3_countPressed 80 = .ok (.iload_n 2, 1) := by decide +kernel
theorem dX3_countPressed_81 : decode cX3_countPressed 81 = .ok (.goto 7, 3) := by decide +kernel
theorem dX3_countPressed_84 : decode cX3_countPressed 84 = .ok (.aload_n 0, 1) := by decide +kernel
theorem dX3_countPressed_85 : decode cX3_countPressed 85 = .ok (.getfield 15, 3) := by decide +kernel
theorem dX3_countPressed_88 : decode cX3_countPressed 88 = .ok (.putfield 15, 3) := by decide +kernel
theorem dX3_countPressed_91 : decode cX3_countPressed 91 = .ok (.iinc 1 1, 3) := by decide +kernel
theorem dX3_countPressed_94 : decode cX3_countPressed 94 = .ok (.goto (-77), 3) := by decide +kernel
theorem dX3_countPressed_97 : decode cX3_countPressed 97 = .ok (.return_, 1) := by decide +kernel
theorem dX3_findBarre_0 : decode cX3_findBarre 0 = .ok (.aload_n 0, 1) := by decide +kernel
theorem dX3_findBarre_1 : decode cX3_findBarre 1 = .ok (.iconst 0, 1) := by decide +kernel
theorem dX3_findBarre_2 : decode cX3_findBarre 2 = .ok (.putfield 32, 3) := by decide +kernel
theorem dX3_findBarre_5 : decode cX3_findBarre 5 = .ok (.iconst 0, 1) := by decide +kernel
theorem dX3_findBarre_6 : decode cX3_findBarre 6 = .ok (.istore_n 1, 1) := by decide +kernel
theorem dX3_findBarre_7 : decode cX3_findBarre 7 = .ok (.iconst 0, 1) := by decide +kernel
theorem dX3_findBarre_8 : decode cX3_findBarre 8 = .ok (.istore_n 2, 1) := by decide +kernel
theorem dX3_findBarre_9 : decode cX3_findBarre 9 = .ok (.iconst 0, 1) := by decide +kernel
theorem dX3_findBarre_10 : decode cX3_findBarre 10 = .ok (.istore_n 3, 1) := by decide +kernel
theorem dX3_findBarre_11 : decode cX3_findBarre 11 = .ok (.iload_n 3, 1) := by decide +kernel
theorem dX3_findBarre_12 : decode cX3_findBarre 12 = .ok (.bipush 6, 2) := by decide +kernel
theorem dX3_findBarre_14 : decode cX3_findBarre 14 = .ok (.if_icmp .ge 57, 3) := by decide +kernel
theorem dX3_findBarre_17 : decode cX3_findBarre 17 = .ok (.aload_n 0, 1) := by decide +kernel
theorem dX3_findBarre_18 : decode cX3_findBarre 18 = .ok (.getfield 25, 3) := by decide +kernel
theorem dX3_findBarre_21 : decode cX3_findBarre 21 = .ok (.iload_n 3, 1) := by decide +kernel
theorem dX3_findBarre_22 : decode cX3_findBarre 22 = .ok (.iaload, 1) := by decide +kernel
theorem dX3_findBarre_23 : decode cX3_findBarre 23 = .ok (.istore 4, 2) := by decide +kernel
theorem dX3_findBarre_25 : decode cX3_findBarre 25 = .ok (.iload 4, 2) := by decide +kernel
theorem dX3_findBarre_27 : decode cX3_findBarre 27 = .ok (.ifCond .ne 12, 3) := by decide +kernel
theorem dX3_findBarre_30 : decode cX3_findBarre 30 = .ok (.aload_n 0, 1) := by decide +kernel
theorem dX3_findBarre_31 : decode cX3_findBarre 31 = .ok (.getfield 32, 3) := by decide +kernel
theorem dX3_findBarre_34 : decode cX3_findBarre 34 = .ok (.ifCond .le 5, 3) := by decide +kernel
theorem dX3_findBarre_37 : decode cX3_findBarre 37 = .ok (.iconst 1, 1) := by decide +kernel
theorem dX3_findBarre_38 : decode cX3_findBarre 38 = .ok (.istore_n 1, 1) := by decide +kernel
theorem dX3_findBarre_39 : decode cX3_findBarre 39 = .ok (.iload 4, 2) := by decide +kernel
theorem dX3_findBarre_41 : decode cX3_findBarre 41 = .ok (.ifCond .le 24, 3) := by decide +kernel
theorem dX3_findBarre_44 : decode cX3_findBarre 44 = .ok (.iload 4, 2) := by decide +kernel
theorem dX3_findBarre_46 : decode cX3_findBarre 46 = .ok (.aload_n 0, 1) := by decide +kernel
theorem dX3_findBarre_47 : decode cX3_findBarre 47 = .ok (.getfield 9, 3) := by decide +kernel
theorem dX3_findBarre_50 : decode cX3_findBarre 50 = .ok (.if_icmp .ne 15, 3) := by decide +kernel
theorem dX3_findBarre_53 : decode cX3_findBarre 53 = .ok (.aload_n 0, 1) := by decide +kernel
theorem dX3_findBarre_54 : decode cX3_findBarre 54 = .ok (.dup, 1) := by decide +kernel
theorem dX3_findBarre_55 : decode cX3_findBarre 55 = .ok (.getfield 32, 3) := by decide +kernel
theorem dX3_findBarre_58 : decode cX3_findBarre 58 = .ok (.iconst 1, 1) := by decide +kernel
theorem dX3_findBarre_59 : decode cX3_findBarre 59 = .ok (.iadd, 1) := by decide +kernel
theorem dX3_findBarre_60 : decode cX3_findBarre 60 = .ok (.putfield 32, 3) := by decide +kernel
theorem dX3_findBarre_63 : decode cX3_findBarre 63 = .ok (.iload_n 1, 1) := by decide +kernel
theorem dX3_findBarre_64 : decode cX3_findBarre 64 = .ok (.istore_n 2, 1) := by decide +kernel
theorem dX3_findBarre_65 : decode cX3_findBarre 65 = .ok (.iinc 3 1, 3) := by decide +kernel
theorem dX3_findBarre_68 : decode cX3_findBarre 68 = .ok (.goto (-57), 3) := by decide +kernel
theorem dX3_findBarre_71 : decode cX3_findBarre 71 = .ok (.aload_n 0, 1) := by decide +kernel
theorem dX3_findBarre_72 : decode cX3_findBarre 72 = .ok (.aload_n 0, 1) := by decide +kernel
theorem dX3_findBarre_73 : decode cX3_findBarre 73 = .ok (.getfield 32, 3) := by decide +kernel
theorem dX3_findBarre_76 : decode cX3_findBarre 76 = .ok (.iconst 2, 1) := by decide +kernel
theorem dX3_findBarre_77 : decode cX3_findBarre 77 = .ok (.if_icmp .lt 11, 3) := by decide +kernel
theorem dX3_findBarre_80 : decode cX3_findBarre 80 = .ok (.iload_n 2, 1) := by decide +kernel
theorem dX3_findBarre_81 : decode cX3_findBarre 81 = .ok (.ifCond .ne 7, 3) := by decide +kernel
theorem dX3_findBarre_84 : decode cX3_findBarre 84 = .ok (.iconst 1, 1) := by decide +kernel
theorem dX3_findBarre_85 : decode cX3_findBarre 85 = .ok (.goto 4, 3) := by decide +kernel
theorem dX3_findBarre_88 : decode cX3_findBarre 88 = .ok (.iconst 0, 1) := by decide +kernel
theorem dX3_findBarre_89 : decode cX3_findBarre 89 = .ok (.putfield 21, 3) := by decide +kernel
theorem dX3_findBarre_92 : decode cX3_findBarre 92 = .ok (.return_, 1) := by decide +kernel
theorem dX3_fingerCount_0 : decode cX3_fingerCount 0 = .ok (.aload_n 0, 1) := by decide +kernel
theorem dX3_fingerCount_1 : decode cX3_fingerCount 1 = .ok (.getfield 21, 3) := by decide +kernel
theorem dX3_fingerCount_4 : decode cX3_fingerCount 4 = .ok (.ifCond .eq 17, 3) := by decide +kernel
theorem dX3_fingerCount_7 : decode cX3_fingerCount 7 = .ok (.aload_n 0, 1) := by decide +kernel
theorem dX3_fingerCount_8 : decode cX3_fingerCount 8 = .ok (.getfield 29, 3) := by decide +kernel
theorem dX3_fingerCount_11 : decode cX3_fingerCount 11 = .ok (.aload_n 0, 1) := by decide +kernel
theorem dX3_fingerCount_12 : decode cX3_fingerCount 12 = .ok (.getfield 32, 3) := by decide +kernel
theorem dX3_fingerCount_15 : decode cX3_fingerCount 15 = .ok (.isub, 1) := by decide +kernel
theorem dX3_fingerCount_16 : decode cX3_fingerCount 16 = .ok (.iconst 1, 1) := by decide +kernel
theorem dX3_fingerCount_17 : decode cX3_fingerCount 17 = .ok (.iadd, 1) := by decide +kernel
theorem dX3_fingerCount_18 : decode cX3_fingerCount 18 = .ok (.goto 7, 3) := by decide +kernel
theorem dX3_fingerCount_21 : decode cX3_fingerCount 21 = .ok (.aload_n 0, 1) := by decide +kernel
theorem dX3_fingerCount_22 : decode cX3_fingerCount 22 = .ok (.getfield 29, 3) := by decide +kernel
theorem dX3_fingerCount_25 : decode cX3_fingerCount 25 = .ok (.ireturn, 1) := by decide +kernel
theorem dX3_isPlayable_0 : decode cX3_isPlayable 0 = .ok (.aload_n 0, 1) := by decide +kernel
theorem dX3_isPlayable_1 : decode cX3_isPlayable 1 = .ok (.getfield 15, 3) := by decide +kernel
theorem dX3_isPlayable_4 : decode cX3_isPlayable 4 = .ok (.aload_n 0, 1) := by decide +kernel
theorem dX3_isPlayable_5 : decode cX3_isPlayable 5 = .ok (.getfield 9, 3) := by decide +kernel
theorem dX3_isPlayable_8 : decode cX3_isPlayable 8 = .ok (.isub, 1) := by decide +kernel
theorem dX3_isPlayable_9 : decode cX3_isPlayable 9 = .ok (.iload_n 1, 1) := by decide +kernel
theorem dX3_isPlayable_10 : decode cX3_isPlayable 10 = .ok (.if_icmp .gt 15, 3) := by decide +kernel
theorem dX3_isPlayable_13 : decode cX3_isPlayable 13 = .ok (.aload_n 0, 1) := by decide +kernel
theorem dX3_isPlayable_14 : decode cX3_isPlayable 14 = .ok (.invokevirtual 53, 3) := by decide +kernel
theorem dX3_isPlayable_17 : decode cX3_isPlayable 17 = .ok (.iconst 4, 1) := by decide +kernel
theorem dX3_isPlayable_18 : decode cX3_isPlayable 18 = .ok (.if_icmp .gt 7, 3) := by decide +kernel
theorem dX3_isPlayable_21 : decode cX3_isPlayable 21 = .ok (.iconst 1, 1) := by decide +kernel
theorem dX3_isPlayable_22 : decode cX3_isPlayable 22 = .ok (.goto 4, 3) := by decide +kernel
theorem dX3_isPlayable_25 : decode cX3_isPlayable 25 = .ok (.iconst 0, 1) := by decide +kernel
theorem dX3_isPlayable_26 : decode cX3_isPlayable 26 = .ok (.ireturn, 1) := by decide +kernel
theorem dX3_effort_0 : decode cX3_effort 0 = .ok (.iconst 2, 1) := by decide +kernel
theorem dX3_effort_1 : decode cX3_effort 1 = .ok (.aload_n 0, 1) := by decide +kernel
theorem dX3_effort_2 : decode cX3_effort 2 = .ok (.getfield 15, 3) := by decide +kernel
theorem dX3_effort_5 : decode cX3_effort 5 = .ok (.aload_n 0, 1) := by decide +kernel
theorem dX3_effort_6 : decode cX3_effort 6 = .ok (.getfield 9, 3) := by decide +kernel
theorem dX3_effort_9 : decode cX3_effort 9 = .ok (.isub, 1) := by decide +kernel
theorem dX3_effort_10 : decode cX3_effort 10 = .ok (.imul, 1) := by decide +kernel
theorem dX3_effort_11 : decode cX3_effort 11 = .ok (.aload_n 0, 1) := by decide +kernel
theorem dX3_effort_12 : decode cX3_effort 12 = .ok (.invokevirtual 53, 3) := by decide +kernel
theorem dX3_effort_15 : decode cX3_effort 15 = .ok (.iadd, 1) := by decide +kernel
theorem dX3_effort_16 : decode cX3_effort 16 = .ok (.aload_n 0, 1) := by decide +kernel
theorem dX3_effort_17 : decode cX3_effort 17 = .ok (.getfield 21, 3) := by decide +kernel
theorem dX3_effort_20 : decode cX3_effort 20 = .ok (.ifCond .eq 7, 3) := by decide +kernel
theorem dX3_effort_23 : decode cX3_effort 23 = .ok (.iconst 3, 1) := by decide +kernel
theorem dX3_effort_24 : decode cX3_effort 24 = .ok (.goto 4, 3) := by decide +kernel
theorem dX3_effort_27 : decode cX3_effort 27 = .ok (.iconst 0, 1) := by decide +kernel
theorem dX3_effort_28 : decode cX3_effort 28 = .ok (.iadd, 1) := by decide +kernel
theorem dX3_effort_29 : decode cX3_effort 29 = .ok (.aload_n 0, 1) := by decide +kernel
theorem dX3_effort_30 : decode cX3_effort 30 = .ok (.getfield 35, 3) := by decide +kernel
theorem dX3_effort_33 : decode cX3_effort 33 = .ok (.iadd, 1) := by decide +kernel
theorem dX3_effort_34 : decode cX3_effort 34 = .ok (.ireturn, 1) := by decide +kernel
theorem dX3_fingerOn_0 : decode cX3_fingerOn 0 = .ok (.iload_n 1, 1) := by decide +kernel
theorem dX3_fingerOn_1 : decode cX3_fingerOn 1 = .ok (.ifCond .lt 18, 3) := by decide +kernel
theorem dX3_fingerOn_4 : decode cX3_fingerOn 4 = .ok (.iload_n 1, 1) := by decide +kernel
theorem dX3_fingerOn_5 : decode cX3_fingerOn 5 = .ok (.bipush 6, 2) := by decide +kernel
theorem dX3_fingerOn_7 : decode cX3_fingerOn 7 = .ok (.if_icmp .ge 12, 3) := by decide +kernel
theorem dX3_fingerOn_10 : decode cX3_fingerOn 10 = .ok (.aload_n 0, 1) := by decide +kernel
theorem dX3_fingerOn_11 : decode cX3_fingerOn 11 = .ok (.getfield 25, 3) := by decide +kernel
theorem dX3_fingerOn_14 : decode cX3_fingerOn 14 = .ok (.iload_n 1, 1) := by decide +kernel
theorem dX3_fingerOn_15 : decode cX3_fingerOn 15 = .ok (.iaload, 1) := by decide +kernel
theorem dX3_fingerOn_16 : decode cX3_fingerOn 16 = .ok (.ifCond .gt 5, 3) := by decide +kernel
theorem dX3_fingerOn_19 : decode cX3_fingerOn 19 = .ok (.iconst 0, 1) := by decide +kernel
theorem dX3_fingerOn_20 : decode cX3_fingerOn 20 = .ok (.ireturn, 1) := by decide +kernel
theorem dX3_fingerOn_21 : decode cX3_fingerOn 21 = .ok (.aload_n 0, 1) := by decide +kernel
theorem dX3_fingerOn_22 : decode cX3_fingerOn 22 = .ok (.getfield 25, 3) := by decide +kernel
theorem dX3_fingerOn_25 : decode cX3_fingerOn 25 = .ok (.iload_n 1, 1) := by decide +kernel
theorem dX3_fingerOn_26 : decode cX3_fingerOn 26 = .ok (.iaload, 1) := by decide +kernel
theorem dX3_fingerOn_27 : decode cX3_fingerOn 27 = .ok (.istore_n 2, 1) := by decide +kernel
theorem dX3_fingerOn_28 : decode cX3_fingerOn 28 = .ok (.aload_n 0, 1) := by decide +kernel
theorem dX3_fingerOn_29 : decode cX3_fingerOn 29 = .ok (.getfield 21, 3) := by decide +kernel
theorem dX3_fingerOn_32 : decode cX3_fingerOn 32 = .ok (.ifCond .eq 13, 3) := by decide +kernel
theorem dX3_fingerOn_35 : decode cX3_fingerOn 35 = .ok (.iload_n 2, 1) := by decide +kernel
theorem dX3_fingerOn_36 : decode cX3_fingerOn 36 = .ok (.aload_n 0, 1) := by decide +kernel
theorem dX3_fingerOn_37 : decode cX3_fingerOn 37 = .ok (.getfield 9, 3) := by decide +kernel
theorem dX3_fingerOn_40 : decode cX3_fingerOn 40 = .ok (.if_icmp .ne 5, 3) := by decide +kernel
theorem dX3_fingerOn_43 : decode cX3_fingerOn 43 = .ok (.iconst 1, 1) := by decide +kernel
theorem dX3_fingerOn_44 : decode cX3_fingerOn 44 = .ok (.ireturn, 1) := by decide +kernel
theorem dX3_fingerOn_45 : decode cX3_fingerOn 45 = .ok (.iconst 0, 1) := by decide +kernel
theorem dX3_fingerOn_46 : decode cX3_fingerOn 46 = .ok (.istore_n 3, 1) := by decide +kernel
theorem dX3_fingerOn_47 : decode cX3_fingerOn 47 = .ok (.iconst 0, 1) := by decide +kernel
theorem dX3_fingerOn_48 : decode cX3_fingerOn 48 = .ok (.istore 4, 2) := by decide +kernel
theorem dX3_fingerOn_50 : decode cX3_fingerOn 50 = .ok (.iload 4, 2) := by decide +kernel
theorem dX3_fingerOn_52 : decode cX3_fingerOn 52 = .ok (.bipush 6, 2) := by decide +kernel
theorem dX3_fingerOn_54 : decode cX3_fingerOn 54 = .ok (.if_icmp .ge 44, 3) := by decide +kernel
theorem dX3_fingerOn_57 : decode cX3_fingerOn 57 = .ok (.aload_n 0, 1) := by decide +kernel
theorem dX3_fingerOn_58 : decode cX3_fingerOn 58 = .ok (.getfield 25, 3) := by decide +kernel
theorem dX3_fingerOn_61 : decode cX3_fingerOn 61 = .ok (.iload 4, 2) := by decide +kernel
theorem dX3_fingerOn_63 : decode cX3_fingerOn 63 = .ok (.iaload, 1) := by decide +kernel
theorem dX3_fingerOn_64 : decode cX3_fingerOn 64 = .ok (.istore 5, 2) := by decide +kernel
theorem dX3_fingerOn_66 : decode cX3_fingerOn 66 = .ok (.iload 5, 2) := by decide +kernel
theorem dX3_fingerOn_68 : decode cX3_fingerOn 68 = .ok (.ifCond .le 24, 3) := by decide +kernel
theorem dX3_fingerOn_71 : decode cX3_fingerOn 71 = .ok (.iload 5, 2) := by decide +kernel
theorem dX3_fingerOn_73 : decode cX3_fingerOn 73 = .ok (.iload_n 2, 1) := by decide +kernel
theorem dX3_fingerOn_74 : decode cX3_fingerOn 74 = .ok (.if_icmp .lt 15, 3) := by decide +kernel
theorem dX3_fingerOn_77 : decode cX3_fingerOn 77 = .ok (.iload 5, 2) := by decide +kernel
theorem dX3_fingerOn_79 : decode cX3_fingerOn 79 = .ok (.iload_n 2, 1) := by decide +kernel
theorem dX3_fingerOn_80 : decode cX3_fingerOn 80 = .ok (.if_icmp .ne 12, 3) := by decide +kernel
theorem dX3_fingerOn_83 : decode cX3_fingerOn 83 = .ok (.iload 4, 2) := by decide +kernel
theorem dX3_fingerOn_85 : decode cX3_fingerOn 85 = .ok (.iload_n 1, 1) := by decide +kernel
theorem dX3_fingerOn_86 : decode cX3_fingerOn 86 = .ok (.if_icmp .ge 6, 3) := by decide +kernel
theorem dX3_fingerOn_89 : decode cX3_fingerOn 89 = .ok (.iinc 3 1, 3) := by decide +kernel
theorem dX3_fingerOn_92 : decode cX3_fingerOn 92 = .ok (.iinc 4 1, 3) := by decide +kernel
theorem dX3_fingerOn_95 : decode cX3_fingerOn 95 = .ok (.goto (-45), 3) := by decide +kernel
theorem dX3_fingerOn_98 : decode cX3_fingerOn 98 = .ok (.aload_n 0, 1) := by decide +kernel
theorem dX3_fingerOn_99 : decode cX3_fingerOn 99 = .ok (.getfield 21, 3) := by decide +kernel
theorem dX3_fingerOn_102 : decode cX3_fingerOn 102 = .ok (.ifCond .eq 14, 3) := by decide +kernel
theorem dX3_fingerOn_105 : decode cX3_fingerOn 105 = .ok (.iload_n 3, 1) := by decide +kernel
theorem dX3_fingerOn_106 : decode cX3_fingerOn 106 = .ok (.aload_n 0, 1) := by decide +kernel
theorem dX3_fingerOn_107 : decode cX3_fingerOn 107 = .ok (.getfield 32, 3) := by decide +kernel
theorem dX3_fingerOn_110 : decode cX3_fingerOn 110 = .ok (.isub, 1) := by decide +kernel
theorem dX3_fingerOn_111 : decode cX3_fingerOn 111 = .ok (.iconst 2, 1) := by decide +kernel
theorem dX3_fingerOn_112 : decode cX3_fingerOn 112 = .ok (.iadd, 1) := by decide +kernel
theorem dX3_fingerOn_113 : decode cX3_fingerOn 113 = .ok (.goto 6, 3) := by decide +kernel
theorem dX3_fingerOn_116 : decode cX3_fingerOn 116 = .ok (.iload_n 3, 1) := by decide +kernel
theorem dX3_fingerOn_117 : decode cX3_fingerOn 117 = .ok (.iconst 1, 1) := by decide +kernel
theorem dX3_fingerOn_118 : decode cX3_fingerOn 118 = .ok (.iadd, 1) := by decide +kernel
theorem dX3_fingerOn_119 : decode cX3_fingerOn 119 = .ok (.ireturn, 1) := by decide +kernel
theorem dX4_init_0 : decode cX4_init 0 = .ok (.aload_n 0, 1) := by decide +kernel
theorem dX4_init_1 : decode cX4_init 1 = .ok (.invokespecial 3, 3) := by decide +kernel
theorem dX4_init_4 : decode cX4_init 4 = .ok (.aload_n 0, 1) := by decide +kernel
theorem dX4_init_5 : decode cX4_init 5 = .ok (.bipush 6, 2) := by decide +kernel
theorem dX4_init_7 : decode cX4_init 7 = .ok (.newarray .int, 2) := by decide +kernel
theorem dX4_init_9 : decode cX4_init 9 = .ok (.putfield 9, 3) := by decide +kernel
theorem dX4_init_12 : decode cX4_init 12 = .ok (.aload_n 0, 1) := by decide +kernel
theorem dX4_init_13 : decode cX4_init 13 = .ok (.bipush 6, 2) := by decide +kernel
theorem dX4_init_15 : decode cX4_init 15 = .ok (.newarray .boolean, 2) := by decide +kernel
theorem dX4_init_17 : decode cX4_init 17 = .ok (.putfield 15, 3) := by decide +kernel
theorem dX4_init_20 : decode cX4_init 20 = .ok (.aload_n 0, 1) := by decide +kernel
theorem dX4_init_21 : decode cX4_init 21 = .ok (.iconst 0, 1) := by decide +kernel
theorem dX4_init_22 : decode cX4_init 22 = .ok (.putfield 19, 3) := by decide +kernel
theorem dX4_init_25 : decode cX4_init 25 = .ok (.aload_n 0, 1) := by decide +kernel
theorem dX4_init_26 : decode cX4_init 26 = .ok (.iconst 0, 1) := by decide +kernel
theorem dX4_init_27 : decode cX4_init 27 = .ok (.putfield 23, 3) := by decide +kernel
theorem dX4_init_30 : decode cX4_init 30 = .ok (.aload_n 0, 1) := by decide +kernel
theorem dX4_init_31 : decode cX4_init 31 = .ok (.iconst 3, 1) := by decide +kernel
theorem dX4_init_32 : decode cX4_init 32 = .ok (.putfield 26, 3) := by decide +kernel
theorem dX4_init_35 : decode cX4_init 35 = .ok (.return_, 1) := by decide +kernel
theorem dX4_draw_0 : decode cX4_draw 0 = .ok (.aload_n 0, 1) := by decide +kernel
theorem dX4_draw_1 : decode cX4_draw 1 = .ok (.getfield 19, 3) := by decide +kernel
theorem dX4_draw_4 : decode cX4_draw 4 = .ok (.bipush 6, 2) := by decide +kernel
theorem dX4_draw_6 : decode cX4_draw 6 = .ok (.if_icmp .lt 5, 3) := by decide +kernel
theorem dX4_draw_9 : decode cX4_draw 9 = .ok (.iconst (-1), 1) := by decide +kernel
theorem dX4_draw_10 : decode cX4_draw 10 = .ok (.ireturn, 1) := by decide +kernel
theorem dX4_draw_11 : decode cX4_draw 11 = .ok (.aload_n 0, 1) := by decide +kernel
theorem dX4_draw_12 : decode cX4_draw 12 = .ok (.getfield 9, 3) := by decide +kernel
theorem dX4_draw_15 : decode cX4_draw 15 = .ok (.aload_n 0, 1) := by decide +kernel
theorem dX4_draw_16 : decode cX4_draw 16 = .ok (.getfield 19, 3) := by decide +kernel
theorem dX4_draw_19 : decode cX4_draw 19 = .ok (.iload_n 1, 1) := by decide +kernel
theorem dX4_draw_20 : decode cX4_draw 20 = .ok (.iastore, 1) := by decide +kernel
theorem dX4_draw_21 : decode cX4_draw 21 = .ok (.aload_n 0, 1) := by decide +kernel
theorem dX4_draw_22 : decode cX4_draw 22 = .ok (.getfield 15, 3) := by decide +kernel
theorem dX4_draw_25 : decode cX4_draw 25 = .ok (.aload_n 0, 1) := by decide +kernel
theorem dX4_draw_26 : decode cX4_draw 26 = .ok (.getfield 19, 3) := by decide +kernel
theorem dX4_draw_29 : decode cX4_draw 29 = .ok (.iconst 0, 1) := by decide +kernel
theorem dX4_draw_30 : decode cX4_draw 30 = .ok (.bastore, 1) := by decide +kernel
theorem dX4_draw_31 : decode cX4_draw 31 = .ok (.aload_n 0, 1) := by decide +kernel
theorem dX4_draw_32 : decode cX4_draw 32 = .ok (.dup, 1) := by decide +kernel
theorem dX4_draw_33 : decode cX4_draw 33 = .ok (.getfield 19, 3) := by decide +kernel
theorem dX4_draw_36 : decode cX4_draw 36 = .ok (.iconst 1, 1) := by decide +kernel
theorem dX4_draw_37 : decode cX4_draw 37 = .ok (.iadd, 1) := by decide +kernel
theorem dX4_draw_38 : decode cX4_draw 38 = .ok (.putfield 19, 3) := by decide +kernel
theorem dX4_draw_41 : decode cX4_draw 41 = .ok (.aload_n 0, 1) := by decide +kernel
theorem dX4_draw_42 : decode cX4_draw 42 = .ok (.getfield 19, 3) := by decide +kernel
theorem dX4_draw_45 : decode cX4_draw 45 = .ok (.iconst 1, 1) := by decide +kernel
theorem dX4_draw_46 : decode cX4_draw 46 = .ok (.isub, 1) := by decide +kernel
theorem dX4_draw_47 : decode cX4_draw 47 = .ok (.ireturn, 1) := by decide +kernel
theorem dX4_copy_0 : decode cX4_copy 0 = .ok (.iconst 0, 1) := by decide +kernel
theorem dX4_copy_1 : decode cX4_copy 1 = .ok (.istore_n 2, 1) := by decide +kernel
theorem dX4_copy_2 : decode cX4_copy 2 = .ok (.iload_n 2, 1) := by decide +kernel
theorem dX4_copy_3 : decode cX4_copy 3 = .ok (.bipush 6, 2) := by decide +kernel
theorem dX4_copy_5 : decode cX4_copy 5 = .ok (.if_icmp .ge 33, 3) := by decide +kernel
theorem dX4_copy_8 : decode cX4_copy 8 = .ok (.aload_n 0, 1) := by decide +kernel
theorem dX4_copy_9 : decode cX4_copy 9 = .ok (.getfield 9, 3) := by decide +kernel
theorem dX4_copy_12 : decode cX4_copy 12 = .ok (.iload_n 2, 1) := by decide +kernel
theorem dX4_copy_13 : decode cX4_copy 13 = .ok (.aload_n 1, 1) := by decide +kernel
theorem dX4_copy_14 : decode cX4_copy 14 = .ok (.getfield 9, 3) := by decide +kernel
theorem dX4_copy_17 : decode cX4_copy 17 = .ok (.iload_n 2, 1) := by decide +kernel
theorem dX4_copy_18 : decode cX4_copy 18 = .ok (.iaload, 1) := by decide +kernel
theorem dX4_copy_19 : decode cX4_copy 19 = .ok (.iastore, 1) := by decide +kernel
theorem dX4_copy_20 : decode cX4_copy 20 = .ok (.aload_n 0, 1) := by decide +kernel
theorem dX4_copy_21 : decode cX4_copy 21 = .ok (.getfield 15, 3) := by decide +kernel
theorem dX4_copy_24 : decode cX4_copy 24 = .ok (.iload_n 2, 1) := by decide +kernel
theorem dX4_copy_25 : decode cX4_copy 25 = .ok (.aload_n 1, 1) := by decide +kernel
theorem dX4_copy_26 : decode cX4_copy 26 = .ok (.getfield 15, 3) := by decide +kernel
theorem dX4_copy_29 : decode cX4_copy 29 = .ok (.iload_n 2, 1) := by decide +kernel
theorem dX4_copy_30 : decode cX4_copy 30 = .ok (.baload, 1) := by decide +kernel
theorem dX4_copy_31 : decode cX4_copy 31 = .ok (.bastore, 1) := by decide +kernel
theorem dX4_copy_32 : decode cX4_copy 32 = .ok (.iinc 2 1, 3) := by decide +kernel
theorem dX4_copy_35 : decode cX4_copy 35 = .ok (.goto (-33), 3) := by decide +kernel
theorem dX4_copy_38 : decode cX4_copy 38 = .ok (.aload_n 0, 1) := by decide +kernel
theorem dX4_copy_39 : decode cX4_copy 39 = .ok (.aload_n 1, 1) := by decide +kernel
theorem dX4_copy_40 : decode cX4_copy 40 = .ok (.getfield 19, 3) := by decide +kernel
theorem dX4_copy_43 : decode cX4_copy 43 = .ok (.putfield 19, 3) := by decide +kernel
theorem dX4_copy_46 : decode cX4_copy 46 = .ok (.aload_n 0, 1) := by decide +kernel
theorem dX4_copy_47 : decode cX4_copy 47 = .ok (.aload_n 1, 1) := by decide +kernel
theorem dX4_copy_48 : decode cX4_copy 48 = .ok (.getfield 23, 3) := by decide +kernel
theorem dX4_copy_51 : decode cX4_copy 51 = .ok (.putfield 23, 3) := by decide +kernel
theorem dX4_copy_54 : decode cX4_copy 54 = .ok (.aload_n 0, 1) := by decide +kernel
theorem dX4_copy_55 : decode cX4_copy 55 = .ok (.aload_n 1, 1) := by decide +kernel
theorem dX4_copy_56 : decode cX4_copy 56 = .ok (.getfield 26, 3) := by decide +kernel
theorem dX4_copy_59 : decode cX4_copy 59 = .ok (.putfield 26, 3) := by decide +kernel
theorem dX4_copy_62 : decode cX4_copy 62 = .ok (.return_, 1) := by decide +kernel
theorem dX4_slackCount_0 : decode cX4_slackCount 0 = .ok (.iconst 0, 1) := by decide +kernel
theorem dX4_slackCount_1 : decode cX4_slackCount 1 = .ok (.istore_n 1, 1) := by decide +kernel
theorem dX4_slackCount_2 : decode cX4_slackCount 2 = .ok (.iconst 0, 1) := by decide +kernel
theorem dX4_slackCount_3 : decode cX4_slackCount 3 = .ok (.istore_n 2, 1) := by decide +kernel
theorem dX4_slackCount_4 : decode cX4_slackCount 4 = .ok (.iload_n 2, 1) := by decide +kernel
theorem dX4_slackCount_5 : decode cX4_slackCount 5 = .ok (.bipush 6, 2) := by decide +kernel
theorem dX4_slackCount_7 : decode cX4_slackCount 7 = .ok (.if_icmp .ge 21, 3) := by decide +kernel
theorem dX4_slackCount_10 : decode cX4_slackCount 10 = .ok (.aload_n 0, 1) := by decide +kernel
theorem dX4_slackCount_11 : decode cX4_slackCount 11 = .ok (.getfield 15, 3) := by decide +kernel
theorem dX4_slackCount_14 : decode cX4_slackCount 14 = .ok (.iload_n 2, 1) := by decide +kernel
theorem dX4_slackCount_15 : decode cX4_slackCount 15 = .ok (.baload, 1) := by decide +kernel
theorem dX4_slackCount_16 : decode cX4_slackCount 16 = .ok (.ifCond .eq 6, 3) := by decide +kernel
theorem dX4_slackCount_19 : decode cX4_slackCount 19 = .ok (.iinc 1 1, 3) := by decide +kernel
theorem dX4_slackCount_22 : decode cX4_slackCount 22 = .ok (.iinc 2 1, 3) := by decide +kernel
theorem dX4_slackCount_25 : decode cX4_slackCount 25 = .ok (.goto (-21), 3) := by decide +kernel
theorem dX4_slackCount_28 : decode cX4_slackCount 28 = .ok (.iload_n 1, 1) := by decide +kernel
theorem dX4_slackCount_29 : decode cX4_slackCount 29 = .ok (.ireturn, 1) := by decide +kernel
theorem dX4_isUsed_0 : decode cX4_isUsed 0 = .ok (.iload_n 1, 1) := by decide +kernel
theorem dX4_isUsed_1 : decode cX4_isUsed 1 = .ok (.ifCond .lt 30, 3) := by decide +kernel
theorem dX4_isUsed_4 : decode cX4_isUsed 4 = .ok (.iload_n 1, 1) := by decide +kernel
theorem dX4_isUsed_5 : decode cX4_isUsed 5 = .ok (.aload_n 0, 1) := by decide +kernel
theorem dX4_isUsed_6 : decode cX4_isUsed 6 = .ok (.getfield 19, 3) := by decide +kernel
theorem dX4_isUsed_9 : decode cX4_isUsed 9 = .ok (.if_icmp .ge 22, 3) := by decide +kernel
theorem dX4_isUsed_12 : decode cX4_isUsed 12 = .ok (.iload_n 1, 1) := by decide +kernel
theorem dX4_isUsed_13 : decode cX4_isUsed 13 = .ok (.bipush 6, 2) := by decide +kernel
theorem dX4_isUsed_15 : decode cX4_isUsed 15 = .ok (.if_icmp .ge 16, 3) := by decide +kernel
theorem dX4_isUsed_18 : decode cX4_isUsed 18 = .ok (.aload_n 0, 1) := by decide +kernel
theorem dX4_isUsed_19 : decode cX4_isUsed 19 = .ok (.getfield 15, 3) := by decide +kernel
theorem dX4_isUsed_22 : decode cX4_isUsed 22 = .ok (.iload_n 1, 1) := by decide +kernel
theorem dX4_isUsed_23 : decode cX4_isUsed 23 = .ok (.baload, 1) := by decide +kernel
theorem dX4_isUsed_24 : decode cX4_isUsed 24 = .ok (.ifCond .ne 7, 3) := by decide +kernel
theorem dX4_isUsed_27 : decode cX4_isUsed 27 = .ok (.iconst 1, 1) := by decide +kernel
theorem dX4_isUsed_28 : decode cX4_isUsed 28 = .ok (.goto 4, 3) := by decide +kernel
theorem dX4_isUsed_31 : decode cX4_isUsed 31 = .ok (.iconst 0, 1) := by decide +kernel
theorem dX4_isUsed_32 : decode cX4_isUsed 32 = .ok (.ireturn, 1) := by decide +kernel
theorem dX4_lastFret_0 : decode cX4_lastFret 0 = .ok (.bipush 12, 2) := by decide +kernel
theorem dX4_lastFret_2 : decode cX4_lastFret 2 = .ok (.aload_n 0, 1) := by decide +kernel
theorem dX4_lastFret_3 : decode cX4_lastFret 3 = .ok (.getfield 23, 3) := by decide +kernel
theorem dX4_lastFret_6 : decode cX4_lastFret 6 = .ok (.isub, 1) := by decide +kernel
theorem dX4_lastFret_7 : decode cX4_lastFret 7 = .ok (.ireturn, 1) := by decide +kernel
theorem dX4_pitchOf_0 : decode cX4_pitchOf 0 = .ok (.aload_n 0, 1) := by decide +kernel
theorem dX4_pitchOf_1 : decode cX4_pitchOf 1 = .ok (.iload_n 1, 1) := by decide +kernel
theorem dX4_pitchOf_2 : decode cX4_pitchOf 2 = .ok (.invokevirtual 29, 3) := by decide +kernel
theorem dX4_pitchOf_5 : decode cX4_pitchOf 5 = .ok (.ifCond .eq 19, 3) := by decide +kernel
theorem dX4_pitchOf_8 : decode cX4_pitchOf 8 = .ok (.aload_n 0, 1) := by decide +kernel
theorem dX4_pitchOf_9 : decode cX4_pitchOf 9 = .ok (.getfield 9, 3) := by decide +kernel
theorem dX4_pitchOf_12 : decode cX4_pitchOf 12 = .ok (.iload_n 1, 1) := by decide +kernel
theorem dX4_pitchOf_13 : decode cX4_pitchOf 13 = .ok (.iaload, 1) := by decide +kernel
theorem dX4_pitchOf_14 : decode cX4_pitchOf 14 = .ok (.aload_n 0, 1) := by decide +kernel
theorem dX4_pitchOf_15 : decode cX4_pitchOf 15 = .ok (.getfield 23, 3) := by decide +kernel
theorem dX4_pitchOf_18 : decode cX4_pitchOf 18 = .ok (.iadd, 1) := by decide +kernel
theorem dX4_pitchOf_19 : decode cX4_pitchOf 19 = .ok (.iload_n 2, 1) := by decide +kernel
theorem dX4_pitchOf_20 : decode cX4_pitchOf 20 = .ok (.iadd, 1) := by decide +kernel
theorem dX4_pitchOf_21 : decode cX4_pitchOf 21 = .ok (.goto 4, 3) := by decide +kernel
theorem dX4_pitchOf_24 : decode cX4_pitchOf 24 = .ok (.iconst (-1), 1) := by decide +kernel
theorem dX4_pitchOf_25 : decode cX4_pitchOf 25 = .ok (.ireturn, 1) := by decide +kernel
theorem dX4_fretFor_0 : decode cX4_fretFor 0 = .ok (.aload_n 0, 1) := by decide +kernel
theorem dX4_fretFor_1 : decode cX4_fretFor 1 = .ok (.iload_n 1, 1) := by decide +kernel
theorem dX4_fretFor_2 : decode cX4_fretFor 2 = .ok (.invokevirtual 29, 3) := by decide +kernel
theorem dX4_fretFor_5 : decode cX4_fretFor 5 = .ok (.ifCond .ne 5, 3) := by decide +kernel
theorem dX4_fretFor_8 : decode cX4_fretFor 8 = .ok (.iconst (-1), 1) := by decide +kernel
theorem dX4_fretFor_9 : decode cX4_fretFor 9 = .ok (.ireturn, 1) := by decide +kernel
theorem dX4_fretFor_10 : decode cX4_fretFor 10 = .ok (.iload_n 2, 1) := by decide +kernel
theorem dX4_fretFor_11 : decode cX4_fretFor 11 = .ok (.aload_n 0, 1) := by decide +kernel
theorem dX4_fretFor_12 : decode cX4_fretFor 12 = .ok (.getfield 9, 3) := by decide +kernel
theorem dX4_fretFor_15 : decode cX4_fretFor 15 = .ok (.iload_n 1, 1) := by decide +kernel
theorem dX4_fretFor_16 : decode cX4_fretFor 16 = .ok (.iaload, 1) := by decide +kernel
theorem dX4_fretFor_17 : decode cX4_fretFor 17 = .ok (.isub, 1) := by decide +kernel
theorem dX4_fretFor_18 : decode cX4_fretFor 18 = .ok (.aload_n 0, 1) := by decide +kernel
theorem dX4_fretFor_19 : decode cX4_fretFor 19 = .ok (.getfield 23, 3) := by decide +kernel
theorem dX4_fretFor_22 : decode cX4_fretFor 22 = .ok (.isub, 1) := by decide +kernel
theorem dX4_fretFor_23 : decode cX4_fretFor 23 = .ok (.istore_n 3, 1) := by decide +kernel
theorem dX4_fretFor_24 : decode cX4_fretFor 24 = .ok (.iload_n 3, 1) := by decide +kernel
theorem dX4_fretFor_25 : decode cX4_fretFor 25 = .ok (.ifCond .lt 15, 3) := by decide +kernel
theorem dX4_fretFor_28 : decode cX4_fretFor 28 = .ok (.iload_n 3, 1) := by decide +kernel
theorem dX4_fretFor_29 : decode cX4_fretFor 29 = .ok (.aload_n 0, 1) := by decide +kernel
theorem dX4_fretFor_30 : decode cX4_fretFor 30 = .ok (.invokevirtual 33, 3) := by decide +kernel
theorem dX4_fretFor_33 : decode cX4_fretFor 33 = .ok (.if_icmp .gt 7, 3) := by decide +kernel
theorem dX4_fretFor_36 : decode cX4_fretFor 36 = .ok (.iload_n 3, 1) := by decide +kernel
theorem dX4_fretFor_37 : decode cX4_fretFor 37 = .ok (.goto 4, 3) := by decide +kernel
theorem dX4_fretFor_40 : decode cX4_fretFor 40 = .ok (.iconst (-1), 1) := by decide +kernel
theorem dX4_fretFor_41 : decode cX4_fretFor 41 = .ok (.ireturn, 1) := by decide +kernel
theorem dX5_init_0 : decode cX5_init 0 = .ok (.aload_n 0, 1) := by decide +kernel
theorem dX5_init_1 : decode cX5_init 1 = .ok (.invokespecial 3, 3) := by decide +kernel
theorem dX5_init_4 : decode cX5_init 4 = .ok (.aload_n 0, 1) := by decide +kernel
theorem dX5_init_5 : decode cX5_init 5 = .ok (.bipush 12, 2) := by decide +kernel
theorem dX5_init_7 : decode cX5_init 7 = .ok (.anewarray 9, 3) := by decide +kernel
theorem dX5_init_10 : decode cX5_init 10 = .ok (.putfield 11, 3) := by decide +kernel
theorem dX5_init_13 : decode cX5_init 13 = .ok (.aload_n 0, 1) := by decide +kernel
theorem dX5_init_14 : decode cX5_init 14 = .ok (.iconst 0, 1) := by decide +kernel
theorem dX5_init_15 : decode cX5_init 15 = .ok (.putfield 17, 3) := by decide +kernel
theorem dX5_init_18 : decode cX5_init 18 = .ok (.iconst 0, 1) := by decide +kernel
theorem dX5_init_19 : decode cX5_init 19 = .ok (.istore_n 1, 1) := by decide +kernel
theorem dX5_init_20 : decode cX5_init 20 = .ok (.iload_n 1, 1) := by decide +kernel
theorem dX5_init_21 : decode cX5_init 21 = .ok (.bipush 12, 2) := by decide +kernel
theorem dX5_init_23 : decode cX5_init 23 = .ok (.if_icmp .ge 22, 3) := by decide +kernel
theorem dX5_init_26 : decode cX5_init 26 = .ok (.aload_n 0, 1) := by decide +kernel
theorem dX5_init_27 : decode cX5_init 27 = .ok (.getfield 11, 3) := by decide +kernel
theorem dX5_init_30 : decode cX5_init 30 = .ok (.iload_n 1, 1) := by decide +kernel
theorem dX5_init_31 : decode cX5_init 31 = .ok (.new 9, 3) := by decide +kernel
theorem dX5_init_34 : decode cX5_init 34 = .ok (.dup, 1) := by decide +kernel
theorem dX5_init_35 : decode cX5_init 35 = .ok (.invokespecial 21, 3) := by decide +kernel
theorem dX5_init_38 : decode cX5_init 38 = .ok (.aastore, 1) := by decide +kernel
theorem dX5_init_39 : decode cX5_init 39 = .ok (.iinc 1 1, 3) := by decide +kernel
theorem dX5_init_42 : decode cX5_init 42 = .ok (.goto (-22), 3) := by decide +kernel
theorem dX5_init_45 : decode cX5_init 45 = .ok (.return_, 1) := by decide +kernel
theorem dX5_append_0 : decode cX5_append 0 = .ok (.aload_n 0, 1) := by decide +kernel
theorem dX5_append_1 : decode cX5_append 1 = .ok (.getfield 17, 3) := by decide +kernel
theorem dX5_append_4 : decode cX5_append 4 = .ok (.bipush 11, 2) := by decide +kernel
theorem dX5_append_6 : decode cX5_append 6 = .ok (.invokestatic 22, 3) := by decide +kernel
theorem dX5_append_9 : decode cX5_append 9 = .ok (.istore_n 2, 1) := by decide +kernel
theorem dX5_append_10 : decode cX5_append 10 = .ok (.aload_n 0, 1) := by decide +kernel
theorem dX5_append_11 : decode cX5_append 11 = .ok (.getfield 11, 3) := by decide +kernel
theorem dX5_append_14 : decode cX5_append 14 = .ok (.iload_n 2, 1) := by decide +kernel
theorem dX5_append_15 : decode cX5_append 15 = .ok (.aaload, 1) := by decide +kernel
theorem dX5_append_16 : decode cX5_append 16 = .ok (.iload_n 1, 1) := by decide +kernel
theorem dX5_append_17 : decode cX5_append 17 = .ok (.invokevirtual 28, 3) := by decide +kernel
theorem dX5_append_20 : decode cX5_append 20 = .ok (.aload_n 0, 1) := by decide +kernel
theorem dX5_append_21 : decode cX5_append 21 = .ok (.iload_n 2, 1) := by decide +kernel
theorem dX5_append_22 : decode cX5_append 22 = .ok (.iconst 1, 1) := by decide +kernel
theorem dX5_append_23 : decode cX5_append 23 = .ok (.iadd, 1) := by decide +kernel
theorem dX5_append_24 : decode cX5_append 24 = .ok (.putfield 17, 3) := by decide +kernel
theorem dX5_append_27 : decode cX5_append 27 = .ok (.aload_n 0, 1) := by decide +kernel
theorem dX5_append_28 : decode cX5_append 28 = .ok (.getfield 11, 3) := by decide +kernel
theorem dX5_append_31 : decode cX5_append 31 = .ok (.iload_n 2, 1) := by decide +kernel
theorem dX5_append_32 : decode cX5_append 32 = .ok (.aaload, 1) := by decide +kernel
theorem dX5_append_33 : decode cX5_append 33 = .ok (.areturn, 1) := by decide +kernel
theorem dX5_remove_0 : decode cX5_remove 0 = .ok (.iload_n 1, 1) := by decide +kernel
theorem dX5_remove_1 : decode cX5_remove 1 = .ok (.ifCond .lt 11, 3) := by decide +kernel
theorem dX5_remove_4 : decode cX5_remove 4 = .ok (.iload_n 1, 1) := by decide +kernel
theorem dX5_remove_5 : decode cX5_remove 5 = .ok (.aload_n 0, 1) := by decide +kernel
theorem dX5_remove_6 : decode cX5_remove 6 = .ok (.getfield 17, 3) := by decide +kernel
theorem dX5_remove_9 : decode cX5_remove 9 = .ok (.if_icmp .lt 4, 3) := by decide +kernel
theorem dX5_remove_12 : decode cX5_remove 12 = .ok (.return_, 1) := by decide +kernel
theorem dX5_remove_13 : decode cX5_remove 13 = .ok (.aload_n 0, 1) := by decide +kernel
theorem dX5_remove_14 : decode cX5_remove 14 = .ok (.getfield 11, 3) := by decide +kernel
theorem dX5_remove_17 : decode cX5_remove 17 = .ok (.iload_n 1, 1) := by decide +kernel
theorem dX5_remove_18 : decode cX5_remove 18 = .ok (.aaload, 1) := by decide +kernel
theorem dX5_remove_19 : decode cX5_remove 19 = .ok (.astore_n 2, 1) := by decide +kernel
theorem dX5_remove_20 : decode cX5_remove 20 = .ok (.iload_n 1, 1) := by decide +kernel
theorem dX5_remove_21 : decode cX5_remove 21 = .ok (.istore_n 3, 1) := by decide +kernel
theorem dX5_remove_22 : decode cX5_remove 22 = .ok (.iload_n 3, 1) := by decide +kernel
theorem dX5_remove_23 : decode cX5_remove 23 = .ok (.aload_n 0, 1) := by decide +kernel
theorem dX5_remove_24 : decode cX5_remove 24 = .ok (.getfield 17, 3) := by decide +kernel
theorem dX5_remove_27 : decode cX5_remove 27 = .ok (.iconst 1, 1) := by decide +kernel
theorem dX5_remove_28 : decode cX5_remove 28 = .ok (.isub, 1) := by decide +kernel
theorem dX5_remove_29 : decode cX5_remove 29 = .ok (.if_icmp .ge 23, 3) := by decide +kernel
theorem dX5_remove_32 : decode cX5_remove 32 = .ok (.aload_n 0, 1) := by decide +kernel
theorem dX5_remove_33 : decode cX5_remove 33 = .ok (.getfield 11, 3) := by decide +kernel
theorem dX5_remove_36 : decode cX5_remove 36 = .ok (.iload_n 3, 1) := by decide +kernel
theorem dX5_remove_37 : decode cX5_remove 37 = .ok (.aload_n 0, 1) := by decide +kernel
theorem dX5_remove_38 : decode cX5_remove 38 = .ok (.getfield 11, 3) := by decide +kernel
theorem dX5_remove_41 : decode cX5_remove 41 = .ok (.iload_n 3, 1) := by decide +kernel
theorem dX5_remove_42 : decode cX5_remove 42 = .ok (.iconst 1, 1) := by decide +kernel
theorem dX5_remove_43 : decode cX5_remove 43 = .ok (.iadd, 1) := by decide +kernel
theorem dX5_remove_44 : decode cX5_remove 44 = .ok (.aaload, 1) := by decide +kernel
theorem dX5_remove_45 : decode cX5_remove 45 = .ok (.aastore, 1) := by decide +kernel
theorem dX5_remove_46 : decode cX5_remove 46 = .ok (.iinc 3 1, 3) := by decide +kernel
theorem dX5_remove_49 : decode cX5_remove 49 = .ok (.goto (-27), 3) := by decide +kernel
theorem dX5_remove_52 : decode cX5_remove 52 = .ok (.aload_n 0, 1) := by decide +kernel
theorem dX5_remove_53 : decode cX5_remove 53 = .ok (.getfield 11, 3) := by decide +kernel
theorem dX5_remove_56 : decode cX5_remove 56 = .ok (.aload_n 0, 1) := by decide +kernel
theorem dX5_remove_57 : decode cX5_remove 57 = .ok (.getfield 17, 3) := by decide +kernel
theorem dX5_remove_60 : decode cX5_remove 60 = .ok (.iconst 1, 1) := by decide +kernel
theorem dX5_remove_61 : decode cX5_remove 61 = .ok (.isub, 1) := by decide +kernel
theorem dX5_remove_62 : decode cX5_remove 62 = .ok (.aload_n 2, 1) := by decide +kernel
theorem dX5_remove_63 : decode cX5_remove 63 = .ok (.aastore, 1) := by decide +kernel
theorem dX5_remove_64 : decode cX5_remove 64 = .ok (.aload_n 0, 1) := by decide +kernel
theorem dX5_remove_65 : decode cX5_remove 65 = .ok (.dup, 1) := by decide +kernel
theorem dX5_remove_66 : decode cX5_remove 66 = .ok (.getfield 17, 3) := by decide +kernel
theorem dX5_remove_69 : decode cX5_remove 69 = .ok (.iconst 1, 1) := by decide +kernel
theorem dX5_remove_70 : decode cX5_remove 70 = .ok (.isub, 1) := by decide +kernel
theorem dX5_remove_71 : decode cX5_remove 71 = .ok (.putfield 17, 3) := by decide +kernel
theorem dX5_remove_74 : decode cX5_remove 74 = .ok (.return_, 1) := by decide +kernel
theorem dX5_sumOfLengths_0 : decode cX5_sumOfLengths 0 = .ok (.iconst 0, 1) := by decide +kernel
theorem dX5_sumOfLengths_1 : decode cX5_sumOfLengths 1 = .ok (.istore_n 1, 1) := by decide +kernel
theorem dX5_sumOfLengths_2 : decode cX5_sumOfLengths 2 = .ok (.iconst 0, 1) := by decide +kernel
theorem dX5_sumOfLengths_3 : decode cX5_sumOfLengths 3 = .ok (.istore_n 2, 1) := by decide +kernel
theorem dX5_sumOfLengths_4 : decode cX5_sumOfLengths 4 = .ok (.iload_n 2, 1) := by decide +kernel
theorem dX5_sumOfLengths_5 : decode cX5_sumOfLengths 5 = .ok (.aload_n 0, 1) := by decide +kernel
theorem dX5_sumOfLengths_6 : decode cX5_sumOfLengths 6 = .ok (.getfield 17, 3) := by decide +kernel
theorem dX5_sumOfLengths_9 : decode cX5_sumOfLengths 9 = .ok (.if_icmp .ge 21, 3) := by decide +kernel
theorem dX5_sumOfLengths_12 : decode cX5_sumOfLengths 12 = .ok (.iload_n 1, 1) := by decide +kernel
theorem dX5_sumOfLengths_13 : decode cX5_sumOfLengths 13 = .ok (.aload_n 0, 1) := by decide +kernel
theorem dX5_sumOfLengths_14 : decode cX5_sumOfLengths 14 = .ok (.getfield 11, 3) := by decide +kernel
theorem dX5_sumOfLengths_17 : decode cX5_sumOfLengths 17 = .ok (.iload_n 2, 1) := by decide +kernel
theorem dX5_sumOfLengths_18 : decode cX5_sumOfLengths 18 = .ok (.aaload, 1) := by decide +kernel
theorem dX5_sumOfLengths_19 : decode cX5_sumOfLengths 19 = .ok (.getfield 32, 3) := by decide +kernel
theorem dX5_sumOfLengths_22 : decode cX5_sumOfLengths 22 = .ok (.iadd, 1) := by decide +kernel
theorem dX5_sumOfLengths_23 : decode cX5_sumOfLengths 23 = .ok (.istore_n 1, 1) := by decide +kernel
theorem dX5_sumOfLengths_24 : decode cX5_sumOfLengths 24 = .ok (.iinc 2 1, 3) := by decide +kernel
theorem dX5_sumOfLengths_27 : decode cX5_sumOfLengths 27 = .ok (.goto (-23), 3) := by decide +kernel
theorem dX5_sumOfLengths_30 : decode cX5_sumOfLengths 30 = .ok (.iload_n 1, 1) := by decide +kernel
theorem dX5_sumOfLengths_31 : decode cX5_sumOfLengths 31 = .ok (.ireturn, 1) := by decide +kernel
theorem dX6_init_0 : decode cX6_init 0 = .ok (.aload_n 0, 1) := by decide +kernel
theorem dX6_init_1 : decode cX6_init 1 = .ok (.invokespecial 3, 3) := by decide +kernel
theorem dX6_init_4 : decode cX6_init 4 = .ok (.aload_n 0, 1) := by decide +kernel
theorem dX6_init_5 : decode cX6_init 5 = .ok (.bipush 12, 2) := by decide +kernel
theorem dX6_init_7 : decode cX6_init 7 = .ok (.anewarray 9, 3) := by decide +kernel
theorem dX6_init_10 : decode cX6_init 10 = .ok (.putfield 11, 3) := by decide +kernel
theorem dX6_init_13 : decode cX6_init 13 = .ok (.aload_n 0, 1) := by decide +kernel
theorem dX6_init_14 : decode cX6_init 14 = .ok (.bipush 12, 2) := by decide +kernel
theorem dX6_init_16 : decode cX6_init 16 = .ok (.newarray .int, 2) := by decide +kernel
theorem dX6_init_18 : decode cX6_init 18 = .ok (.putfield 17, 3) := by decide +kernel
theorem dX6_init_21 : decode cX6_init 21 = .ok (.aload_n 0, 1) := by decide +kernel
theorem dX6_init_22 : decode cX6_init 22 = .ok (.bipush 12, 2) := by decide +kernel
theorem dX6_init_24 : decode cX6_init 24 = .ok (.newarray .int, 2) := by decide +kernel
theorem dX6_init_26 : decode cX6_init 26 = .ok (.putfield 21, 3) := by decide +kernel
theorem dX6_init_29 : decode cX6_init 29 = .ok (.aload_n 0, 1) := by decide +kernel
theorem dX6_init_30 : decode cX6_init 30 = .ok (.iconst (-1), 1) := by decide +kernel
theorem dX6_init_31 : decode cX6_init 31 = .ok (.putfield 24, 3) := by decide +kernel
theorem dX6_init_34 : decode cX6_init 34 = .ok (.aload_n 0, 1) := by decide +kernel
theorem dX6_init_35 : decode cX6_init 35 = .ok (.bipush 12, 2) := by decide +kernel
theorem dX6_init_37 : decode cX6_init 37 = .ok (.newarray .int, 2) := by decide +kernel
theorem dX6_init_39 : decode cX6_init 39 = .ok (.putfield 28, 3) := by decide +kernel
theorem dX6_init_42 : decode cX6_init 42 = .ok (.aload_n 0, 1) := by decide +kernel
theorem dX6_init_43 : decode cX6_init 43 = .ok (.bipush 12, 2) := by decide +kernel
theorem dX6_init_45 : decode cX6_init 45 = .ok (.bipush 30, 2) := by decide +kernel
theorem dX6_init_47 : decode cX6_init 47 = .ok (.multianewarray 31 2, 4) := by decide +kernel
theorem dX6_init_51 : decode cX6_init 51 = .ok (.putfield 33, 3) := by decide +kernel
theorem dX6_init_54 : decode cX6_init 54 = .ok (.aload_n 0, 1) := by decide +kernel
theorem dX6_init_55 : decode cX6_init 55 = .ok (.new 36, 3) := by decide +kernel
theorem dX6_init_58 : decode cX6_init 58 = .ok (.dup, 1) := by decide +kernel
theorem dX6_init_59 : decode cX6_init 59 = .ok (.invokespecial 38, 3) := by decide +kernel
theorem dX6_init_62 : decode cX6_init 62 = .ok (.putfield 39, 3) := by decide +kernel
theorem dX6_init_65 : decode cX6_init 65 = .ok (.aload_n 0, 1) := by decide +kernel
theorem dX6_init_66 : decode cX6_init 66 = .ok (.iconst 0, 1) := by decide +kernel
theorem dX6_init_67 : decode cX6_init 67 = .ok (.putfield 43, 3) := by decide +kernel
theorem dX6_init_70 : decode cX6_init 70 = .ok (.iconst 0, 1) := by decide +kernel
theorem dX6_init_71 : decode cX6_init 71 = .ok (.istore_n 1, 1) := by decide +kernel
theorem dX6_init_72 : decode cX6_init 72 = .ok (.iload_n 1, 1) := by decide +kernel
theorem dX6_init_73 : decode cX6_init 73 = .ok (.bipush 12, 2) := by decide +kernel
theorem dX6_init_75 : decode cX6_init 75 = .ok (.if_icmp .ge 22, 3) := by decide +kernel
theorem dX6_init_78 : decode cX6_init 78 = .ok (.aload_n 0, 1) := by decide +kernel
theorem dX6_init_79 : decode cX6_init 79 = .ok (.getfield 11, 3) := by decide +kernel
theorem dX6_init_82 : decode cX6_init 82 = .ok (.iload_n 1, 1) := by decide +kernel
theorem dX6_init_83 : decode cX6_init 83 = .ok (.new 9, 3) := by decide +kernel
theorem dX6_init_86 : decode cX6_init 86 = .ok (.dup, 1) := by decide +kernel
theorem dX6_init_87 : decode cX6_init 87 = .ok (.invokespecial 46, 3) := by decide +kernel
theorem dX6_init_90 : decode cX6_init 90 = .ok (.aastore, 1) := by decide +kernel
theorem dX6_init_91 : decode cX6_init 91 = .ok (.iinc 1 1, 3) := by decide +kernel
theorem dX6_init_94 : decode cX6_init 94 = .ok (.goto (-22), 3) := by decide +kernel
theorem dX6_init_97 : decode cX6_init 97 = .ok (.return_, 1) := by decide +kernel
theorem dX6_read_0 : decode cX6_read 0 = .ok (.aload_n 0, 1) := by decide +kernel
theorem dX6_read_1 : decode cX6_read 1 = .ok (.aload_n 2, 1) := by decide +kernel
theorem dX6_read_2 : decode cX6_read 2 = .ok (.getfield 47, 3) := by decide +kernel
theorem dX6_read_5 : decode cX6_read 5 = .ok (.bipush 12, 2) := by decide +kernel
theorem dX6_read_7 : decode cX6_read 7 = .ok (.invokestatic 50, 3) := by decide +kernel
theorem dX6_read_10 : decode cX6_read 10 = .ok (.putfield 43, 3) := by decide +kernel
theorem dX6_read_13 : decode cX6_read 13 = .ok (.iconst 0, 1) := by decide +kernel
theorem dX6_read_14 : decode cX6_read 14 = .ok (.istore_n 3, 1) := by decide +kernel
theorem dX6_read_15 : decode cX6_read 15 = .ok (.iload_n 3, 1) := by decide +kernel
theorem dX6_read_16 : decode cX6_read 16 = .ok (.aload_n 0, 1) := by decide +kernel
theorem dX6_read_17 : decode cX6_read 17 = .ok (.getfield 43, 3) := by decide +kernel
theorem dX6_read_20 : decode cX6_read 20 = .ok (.if_icmp .ge 76, 3) := by decide +kernel
theorem dX6_read_23 : decode cX6_read 23 = .ok (.aload_n 2, 1) := by decide +kernel
theorem dX6_read_24 : decode cX6_read 24 = .ok (.getfield 56, 3) := by decide +kernel
theorem dX6_read_27 : decode cX6_read 27 = .ok (.iload_n 3, 1) := by decide +kernel
theorem dX6_read_28 : decode cX6_read 28 = .ok (.aaload, 1) := by decide +kernel
theorem dX6_read_29 : decode cX6_read 29 = .ok (.astore 4, 2) := by decide +kernel
theorem dX6_read_31 : decode cX6_read 31 = .ok (.aload_n 0, 1) := by decide +kernel
theorem dX6_read_32 : decode cX6_read 32 = .ok (.getfield 11, 3) := by decide +kernel
theorem dX6_read_35 : decode cX6_read 35 = .ok (.iload_n 3, 1) := by decide +kernel
theorem dX6_read_36 : decode cX6_read 36 = .ok (.aaload, 1) := by decide +kernel
theorem dX6_read_37 : decode cX6_read 37 = .ok (.iconst 0, 1) := by decide +kernel
theorem dX6_read_38 : decode cX6_read 38 = .ok (.putfield 60, 3) := by decide +kernel
theorem dX6_read_41 : decode cX6_read 41 = .ok (.aload_n 0, 1) := by decide +kernel
theorem dX6_read_42 : decode cX6_read 42 = .ok (.getfield 11, 3) := by decide +kernel
theorem dX6_read_45 : decode cX6_read 45 = .ok (.iload_n 3, 1) := by decide +kernel
theorem dX6_read_46 : decode cX6_read 46 = .ok (.aaload, 1) := by decide +kernel
theorem dX6_read_47 : decode cX6_read 47 = .ok (.aload_n 0, 1) := by decide +kernel
theorem dX6_read_48 : decode cX6_read 48 = .ok (.getfield 39, 3) := by decide +kernel
theorem dX6_read_51 : decode cX6_read 51 = .ok (.aload_n 1, 1) := by decide +kernel
theorem dX6_read_52 : decode cX6_read 52 = .ok (.aload 4, 2) := by decide +kernel
theorem dX6_read_54 : decode cX6_read 54 = .ok (.iconst 0, 1) := by decide +kernel
theorem dX6_read_55 : decode cX6_read 55 = .ok (.iconst 0, 1) := by decide +kernel
theorem dX6_read_56 : decode cX6_read 56 = .ok (.invokestatic 63, 3) := by decide +kernel
theorem dX6_read_59 : decode cX6_read 59 = .ok (.aload_n 0, 1) := by decide +kernel
theorem dX6_read_60 : decode cX6_read 60 = .ok (.getfield 17, 3) := by decide +kernel
theorem dX6_read_63 : decode cX6_read 63 = .ok (.iload_n 3, 1) := by decide +kernel
theorem dX6_read_64 : decode cX6_read 64 = .ok (.aload_n 0, 1) := by decide +kernel
theorem dX6_read_65 : decode cX6_read 65 = .ok (.getfield 11, 3) := by decide +kernel
theorem dX6_read_68 : decode cX6_read 68 = .ok (.iload_n 3, 1) := by decide +kernel
theorem dX6_read_69 : decode cX6_read 69 = .ok (.aaload, 1) := by decide +kernel
theorem dX6_read_70 : decode cX6_read 70 = .ok (.aload 4, 2) := by decide +kernel
theorem dX6_read_72 : decode cX6_read 72 = .ok (.getfield 67, 3) := by decide +kernel
theorem dX6_read_75 : decode cX6_read 75 = .ok (.invokevirtual 72, 3) := by decide +kernel
theorem dX6_read_78 : decode cX6_read 78 = .ok (.iastore, 1) := by decide +kernel
theorem dX6_read_79 : decode cX6_read 79 = .ok (.aload_n 0, 1) := by decide +kernel
theorem dX6_read_80 : decode cX6_read 80 = .ok (.getfield 28, 3) := by decide +kernel
theorem dX6_read_83 : decode cX6_read 83 = .ok (.iload_n 3, 1) := by decide +kernel
theorem dX6_read_84 : decode cX6_read 84 = .ok (.aload 4, 2) := by decide +kernel
theorem dX6_read_86 : decode cX6_read 86 = .ok (.getfield 76, 3) := by decide +kernel
theorem dX6_read_89 : decode cX6_read 89 = .ok (.iastore, 1) := by decide +kernel
theorem dX6_read_90 : decode cX6_read 90 = .ok (.iinc 3 1, 3) := by decide +kernel
theorem dX6_read_93 : decode cX6_read 93 = .ok (.goto (-78), 3) := by decide +kernel
theorem dX6_read_96 : decode cX6_read 96 = .ok (.return_, 1) := by decide +kernel
theorem dX6_place_0 : decode cX6_place 0 = .ok (.iload 4, 2) := by decide +kernel
theorem dX6_place_2 : decode cX6_place 2 = .ok (.aload_n 3, 1) := by decide +kernel
theorem dX6_place_3 : decode cX6_place 3 = .ok (.getfield 79, 3) := by decide +kernel
theorem dX6_place_6 : decode cX6_place 6 = .ok (.if_icmp .ge 9, 3) := by decide +kernel
theorem dX6_place_9 : decode cX6_place 9 = .ok (.iload 4, 2) := by decide +kernel
theorem dX6_place_11 : decode cX6_place 11 = .ok (.iconst 4, 1) := by decide +kernel
theorem dX6_place_12 : decode cX6_place 12 = .ok (.if_icmp .lt 35, 3) := by decide +kernel
theorem dX6_place_15 : decode cX6_place 15 = .ok (.aload_n 1, 1) := by decide +kernel
theorem dX6_place_16 : decode cX6_place 16 = .ok (.iload 5, 2) := by decide +kernel
theorem dX6_place_18 : decode cX6_place 18 = .ok (.invokevirtual 82, 3) := by decide +kernel
theorem dX6_place_21 : decode cX6_place 21 = .ok (.aload_n 1, 1) := by decide +kernel
theorem dX6_place_22 : decode cX6_place 22 = .ok (.aload_n 2, 1) := by decide +kernel
theorem dX6_place_23 : decode cX6_place 23 = .ok (.getfield 86, 3) := by decide +kernel
theorem dX6_place_26 : decode cX6_place 26 = .ok (.invokevirtual 91, 3) := by decide +kernel
theorem dX6_place_29 : decode cX6_place 29 = .ok (.ifCond .eq 17, 3) := by decide +kernel
theorem dX6_place_32 : decode cX6_place 32 = .ok (.aload_n 0, 1) := by decide +kernel
theorem dX6_place_33 : decode cX6_place 33 = .ok (.iload 5, 2) := by decide +kernel
theorem dX6_place_35 : decode cX6_place 35 = .ok (.aload_n 1, 1) := by decide +kernel
theorem dX6_place_36 : decode cX6_place 36 = .ok (.invokevirtual 95, 3) := by decide +kernel
theorem dX6_place_39 : decode cX6_place 39 = .ok (.aload_n 1, 1) := by decide +kernel
theorem dX6_place_40 : decode cX6_place 40 = .ok (.getfield 99, 3) := by decide +kernel
theorem dX6_place_43 : decode cX6_place 43 = .ok (.invokevirtual 102, 3) := by decide +kernel
theorem dX6_place_46 : decode cX6_place 46 = .ok (.return_, 1) := by decide +kernel
theorem dX6_place_47 : decode cX6_place 47 = .ok (.iconst 0, 1) := by decide +kernel
theorem dX6_place_48 : decode cX6_place 48 = .ok (.istore 6, 2) := by decide +kernel
theorem dX6_place_50 : decode cX6_place 50 = .ok (.iload 6, 2) := by decide +kernel
theorem dX6_place_52 : decode cX6_place 52 = .ok (.aload_n 2, 1) := by decide +kernel
theorem dX6_place_53 : decode cX6_place 53 = .ok (.getfield 106, 3) := by decide +kernel
theorem dX6_place_56 : decode cX6_place 56 = .ok (.if_icmp .ge 61, 3) := by decide +kernel
theorem dX6_place_59 : decode cX6_place 59 = .ok (.aload_n 2, 1) := by decide +kernel
theorem dX6_place_60 : decode cX6_place 60 = .ok (.iload 6, 2) := by decide +kernel
theorem dX6_place_62 : decode cX6_place 62 = .ok (.aload_n 3, 1) := by decide +kernel
theorem dX6_place_63 : decode cX6_place 63 = .ok (.getfield 107, 3) := by decide +kernel
theorem dX6_place_66 : decode cX6_place 66 = .ok (.iload 4, 2) := by decide +kernel
theorem dX6_place_68 : decode cX6_place 68 = .ok (.iaload, 1) := by decide +kernel
theorem dX6_place_69 : decode cX6_place 69 = .ok (.invokevirtual 110, 3) := by decide +kernel
theorem dX6_place_72 : decode cX6_place 72 = .ok (.istore 7, 2) := by decide +kernel
theorem dX6_place_74 : decode cX6_place 74 = .ok (.iload 7, 2) := by decide +kernel
theorem dX6_place_76 : decode cX6_place 76 = .ok (.iconst (-1), 1) := by decide +kernel
theorem dX6_place_77 : decode cX6_place 77 = .ok (.if_icmp .eq 34, 3) := by decide +kernel
theorem dX6_place_80 : decode cX6_place 80 = .ok (.iload 5, 2) := by decide +kernel
theorem dX6_place_82 : decode cX6_place 82 = .ok (.iload 6, 2) := by decide +kernel
theorem dX6_place_84 : decode cX6_place 84 = .ok (.invokestatic 113, 3) := by decide +kernel
theorem dX6_place_87 : decode cX6_place 87 = .ok (.iconst (-1), 1) := by decide +kernel
theorem dX6_place_88 : decode cX6_place 88 = .ok (.if_icmp .ne 23, 3) := by decide +kernel
theorem dX6_place_91 : decode cX6_place 91 = .ok (.aload_n 0, 1) := by decide +kernel
theorem dX6_place_92 : decode cX6_place 92 = .ok (.aload_n 1, 1) := by decide +kernel
theorem dX6_place_93 : decode cX6_place 93 = .ok (.aload_n 2, 1) := by decide +kernel
theorem dX6_place_94 : decode cX6_place 94 = .ok (.aload_n 3, 1) := by decide +kernel
theorem dX6_place_95 : decode cX6_place 95 = .ok (.iload 4, 2) := by decide +kernel
theorem dX6_place_97 : decode cX6_place 97 = .ok (.iconst 1, 1) := by decide +kernel
theorem dX6_place_98 : decode cX6_place 98 = .ok (.iadd, 1) := by decide +kernel
theorem dX6_place_99 : decode cX6_place 99 = .ok (.iload 5, 2) := by decide +kernel
theorem dX6_place_101 : decode cX6_place 101 = .ok (.iload 6, 2) := by decide +kernel
theorem dX6_place_103 : decode cX6_place 103 = .ok (.iload 7, 2) := by decide +kernel
theorem dX6_place_105 : decode cX6_place 105 = .ok (.invokestatic 116, 3) := by decide +kernel
theorem dX6_place_108 : decode cX6_place 108 = .ok (.invokestatic 63, 3) := by decide +kernel
theorem dX6_place_111 : decode cX6_place 111 = .ok (.iinc 6 1, 3) := by decide +kernel
theorem dX6_place_114 : decode cX6_place 114 = .ok (.goto (-64), 3) := by decide +kernel
theorem dX6_place_117 : decode cX6_place 117 = .ok (.return_, 1) := by decide +kernel
theorem dX6_solve_0 : decode cX6_solve 0 = .ok (.aload_n 0, 1) := by decide +kernel
theorem dX6_solve_1 : decode cX6_solve 1 = .ok (.iconst (-1), 1) := by decide +kernel
theorem dX6_solve_2 : decode cX6_solve 2 = .ok (.putfield 24, 3) := by decide +kernel
theorem dX6_solve_5 : decode cX6_solve 5 = .ok (.iconst 0, 1) := by decide +kernel
theorem dX6_solve_6 : decode cX6_solve 6 = .ok (.istore_n 1, 1) := by decide +kernel
theorem dX6_solve_7 : decode cX6_solve 7 = .ok (.iload_n 1, 1) := by decide +kernel
theorem dX6_solve_8 : decode cX6_solve 8 = .ok (.aload_n 0, 1) := by decide +kernel
theorem dX6_solve_9 : decode cX6_solve 9 = .ok (.getfield 43, 3) := by decide +kernel
theorem dX6_solve_12 : decode cX6_solve 12 = .ok (.if_icmp .ge 16, 3) := by decide +kernel
theorem dX6_solve_15 : decode cX6_solve 15 = .ok (.aload_n 0, 1) := by decide +kernel
theorem dX6_solve_16 : decode cX6_solve 16 = .ok (.getfield 21, 3) := by decide +kernel
theorem dX6_solve_19 : decode cX6_solve 19 = .ok (.iload_n 1, 1) := by decide +kernel
theorem dX6_solve_20 : decode cX6_solve 20 = .ok (.iconst (-1), 1) := by decide +kernel
theorem dX6_solve_21 : decode cX6_solve 21 = .ok (.iastore, 1) := by decide +kernel
theorem dX6_solve_22 : decode cX6_solve 22 = .ok (.iinc 1 1, 3) := by decide +kernel
theorem dX6_solve_25 : decode cX6_solve 25 = .ok (.goto (-18), 3) := by decide +kernel
theorem dX6_solve_28 : decode cX6_solve 28 = .ok (.aload_n 0, 1) := by decide +kernel
theorem dX6_solve_29 : decode cX6_solve 29 = .ok (.getfield 43, 3) := by decide +kernel
theorem dX6_solve_32 : decode cX6_solve 32 = .ok (.ifCond .eq 10, 3) := by decide +kernel
theorem dX6_solve_35 : decode cX6_solve 35 = .ok (.aload_n 0, 1) := by decide +kernel
theorem dX6_solve_36 : decode cX6_solve 36 = .ok (.invokevirtual 120, 3) := by decide +kernel
theorem dX6_solve_39 : decode cX6_solve 39 = .ok (.ifCond .le 4, 3) := by decide +kernel
theorem dX6_solve_42 : decode cX6_solve 42 = .ok (.return_, 1) := by decide +kernel
theorem dX6_solve_43 : decode cX6_solve 43 = .ok (.aload_n 0, 1) := by decide +kernel
theorem dX6_solve_44 : decode cX6_solve 44 = .ok (.getfield 43, 3) := by decide +kernel
theorem dX6_solve_47 : decode cX6_solve 47 = .ok (.iconst 1, 1) := by decide +kernel
theorem dX6_solve_48 : decode cX6_solve 48 = .ok (.isub, 1) := by decide +kernel
theorem dX6_solve_49 : decode cX6_solve 49 = .ok (.istore_n 1, 1) := by decide +kernel
theorem dX6_solve_50 : decode cX6_solve 50 = .ok (.iload_n 1, 1) := by decide +kernel
theorem dX6_solve_51 : decode cX6_solve 51 = .ok (.ifCond .lt 90, 3) := by decide +kernel
theorem dX6_solve_54 : decode cX6_solve 54 = .ok (.iconst 0, 1) := by decide +kernel
theorem dX6_solve_55 : decode cX6_solve 55 = .ok (.istore_n 2, 1) := by decide +kernel
theorem dX6_solve_56 : decode cX6_solve 56 = .ok (.iload_n 2, 1) := by decide +kernel
theorem dX6_solve_57 : decode cX6_solve 57 = .ok (.aload_n 0, 1) := by decide +kernel
theorem dX6_solve_58 : decode cX6_solve 58 = .ok (.getfield 11, 3) := by decide +kernel
theorem dX6_solve_61 : decode cX6_solve 61 = .ok (.iload_n 1, 1) := by decide +kernel
theorem dX6_solve_62 : decode cX6_solve 62 = .ok (.aaload, 1) := by decide +kernel
theorem dX6_solve_63 : decode cX6_solve 63 = .ok (.getfield 60, 3) := by decide +kernel
theorem dX6_solve_66 : decode cX6_solve 66 = .ok (.if_icmp .ge 69, 3) := by decide +kernel
theorem dX6_solve_69 : decode cX6_solve 69 = .ok (.aload_n 0, 1) := by decide +kernel
theorem dX6_solve_70 : decode cX6_solve 70 = .ok (.iload_n 1, 1) := by decide +kernel
theorem dX6_solve_71 : decode cX6_solve 71 = .ok (.iconst 1, 1) := by decide +kernel
theorem dX6_solve_72 : decode cX6_solve 72 = .ok (.iadd, 1) := by decide +kernel
theorem dX6_solve_73 : decode cX6_solve 73 = .ok (.iload_n 2, 1) := by decide +kernel
theorem dX6_solve_74 : decode cX6_solve 74 = .ok (.invokevirtual 123, 3) := by decide +kernel
theorem dX6_solve_77 : decode cX6_solve 77 = .ok (.istore_n 3, 1) := by decide +kernel
theorem dX6_solve_78 : decode cX6_solve 78 = .ok (.iload_n 3, 1) := by decide +kernel
theorem dX6_solve_79 : decode cX6_solve 79 = .ok (.iconst (-1), 1) := by decide +kernel
theorem dX6_solve_80 : decode cX6_solve 80 = .ok (.if_icmp .ne 7, 3) := by decide +kernel
theorem dX6_solve_83 : decode cX6_solve 83 = .ok (.iconst 0, 1) := by decide +kernel
theorem dX6_solve_84 : decode cX6_solve 84 = .ok (.goto 21, 3) := by decide +kernel
theorem dX6_solve_87 : decode cX6_solve 87 = .ok (.aload_n 0, 1) := by decide +kernel
theorem dX6_solve_88 : decode cX6_solve 88 = .ok (.getfield 33, 3) := by decide +kernel
theorem dX6_solve_91 : decode cX6_solve 91 = .ok (.iload_n 1, 1) := by decide +kernel
theorem dX6_solve_92 : decode cX6_solve 92 = .ok (.iconst 1, 1) := by decide +kernel
theorem dX6_solve_93 : decode cX6_solve 93 = .ok (.iadd, 1) := by decide +kernel
theorem dX6_solve_94 : decode cX6_solve 94 = .ok (.aaload, 1) := by decide +kernel
theorem dX6_solve_95 : decode cX6_solve 95 = .ok (.iload_n 3, 1) := by decide +kernel
theorem dX6_solve_96 : decode cX6_solve 96 = .ok (.iaload, 1) := by decide +kernel
theorem dX6_solve_97 : decode cX6_solve 97 = .ok (.aload_n 0, 1) := by decide +kernel
theorem dX6_solve_98 : decode cX6_solve 98 = .ok (.iload_n 1, 1) := by decide +kernel
theorem dX6_solve_99 : decode cX6_solve 99 = .ok (.iload_n 2, 1) := by decide +kernel
theorem dX6_solve_100 : decode cX6_solve 100 = .ok (.iload_n 3, 1) := by decide +kernel
theorem dX6_solve_101 : decode cX6_solve 101 = .ok (.invokevirtual 126, 3) := by decide +kernel
theorem dX6_solve_104 : decode cX6_solve 104 = .ok (.iadd, 1) := by decide +kernel
theorem dX6_solve_105 : decode cX6_solve 105 = .ok (.istore 4, 2) := by decide +kernel
theorem dX6_solve_107 : decode cX6_solve 107 = .ok (.aload_n 0, 1) := by decide +kernel
theorem dX6_solve_108 : decode cX6_solve 108 = .ok (.getfield 33, 3) := by decide +kernel
theorem dX6_solve_111 : decode cX6_solve 111 = .ok (.iload_n 1, 1) := by decide +kernel
theorem dX6_solve_112 : decode cX6_solve 112 = .ok (.aaload, 1) := by decide +kernel
theorem dX6_solve_113 : decode cX6_solve 113 = .ok (.iload_n 2, 1) := by decide +kernel
theorem dX6_solve_114 : decode cX6_solve 114 = .ok (.aload_n 0, 1) := by decide +kernel
theorem dX6_solve_115 : decode cX6_solve 115 = .ok (.getfield 11, 3) := by decide +kernel
theorem dX6_solve_118 : decode cX6_solve 118 = .ok (.iload_n 1, 1) := by decide +kernel
theorem dX6_solve_119 : decode cX6_solve 119 = .ok (.aaload, 1) := by decide +kernel
theorem dX6_solve_120 : decode cX6_solve 120 = .ok (.getfield 129, 3) := by decide +kernel
theorem dX6_solve_123 : decode cX6_solve 123 = .ok (.iload_n 2, 1) := by decide +kernel
theorem dX6_solve_124 : decode cX6_solve 124 = .ok (.iaload, 1) := by decide +kernel
theorem dX6_solve_125 : decode cX6_solve 125 = .ok (.iload 4, 2) := by decide +kernel
theorem dX6_solve_127 : decode cX6_solve 127 = .ok (.iadd, 1) := by decide +kernel
theorem dX6_solve_128 : decode cX6_solve 128 = .ok (.iastore, 1) := by decide +kernel
theorem dX6_solve_129 : decode cX6_solve 129 = .ok (.iinc 2 1, 3) := by decide +kernel
theorem dX6_solve_132 : decode cX6_solve 132 = .ok (.goto (-76), 3) := by decide +kernel
theorem dX6_solve_135 : decode cX6_solve 135 = .ok (.iinc 1 (-1), 3) := by decide +kernel
theorem dX6_solve_138 : decode cX6_solve 138 = .ok (.goto (-88), 3) := by decide +kernel
theorem dX6_solve_141 : decode cX6_solve 141 = .ok (.iconst (-1), 1) := by decide +kernel
theorem dX6_solve_142 : decode cX6_solve 142 = .ok (.istore_n 1, 1) := by decide +kernel
theorem dX6_solve_143 : decode cX6_solve 143 = .ok (.iconst 0, 1) := by decide +kernel
theorem dX6_solve_144 : decode cX6_solve 144 = .ok (.istore_n 2, 1) := by decide +kernel
theorem dX6_solve_145 : decode cX6_solve 145 = .ok (.iload_n 2, 1) := by decide +kernel
theorem dX6_solve_146 : decode cX6_solve 146 = .ok (.aload_n 0, 1) := by decide +kernel
theorem dX6_solve_147 : decode cX6_solve 147 = .ok (.getfield 43, 3) := by decide +kernel
theorem dX6_solve_150 : decode cX6_solve 150 = .ok (.if_icmp .ge 28, 3) := by decide +kernel
theorem dX6_solve_153 : decode cX6_solve 153 = .ok (.aload_n 0, 1) := by decide +kernel
theorem dX6_solve_154 : decode cX6_solve 154 = .ok (.getfield 21, 3) := by decide +kernel
theorem dX6_solve_157 : decode cX6_solve 157 = .ok (.iload_n 2, 1) := by decide +kernel
theorem dX6_solve_158 : decode cX6_solve 158 = .ok (.aload_n 0, 1) := by decide +kernel
theorem dX6_solve_159 : decode cX6_solve 159 = .ok (.iload_n 2, 1) := by decide +kernel
theorem dX6_solve_160 : decode cX6_solve 160 = .ok (.iload_n 1, 1) := by decide +kernel
theorem dX6_solve_161 : decode cX6_solve 161 = .ok (.invokevirtual 123, 3) := by decide +kernel
theorem dX6_solve_164 : decode cX6_solve 164 = .ok (.iastore, 1) := by decide +kernel
theorem dX6_solve_165 : decode cX6_solve 165 = .ok (.aload_n 0, 1) := by decide +kernel
theorem dX6_solve_166 : decode cX6_solve 166 = .ok (.getfield 21, 3) := by decide +kernel
theorem dX6_solve_169 : decode cX6_solve 169 = .ok (.iload_n 2, 1) := by decide +kernel
theorem dX6_solve_170 : decode cX6_solve 170 = .ok (.iaload, 1) := by decide +kernel
theorem dX6_solve_171 : decode cX6_solve 171 = .ok (.istore_n 1, 1) := by decide +kernel
theorem dX6_solve_172 : decode cX6_solve 172 = .ok (.iinc 2 1, 3) := by decide +kernel
theorem dX6_solve_175 : decode cX6_solve 175 = .ok (.goto (-30), 3) := by decide +kernel
theorem dX6_solve_178 : decode cX6_solve 178 = .ok (.aload_n 0, 1) := by decide +kernel
theorem dX6_solve_179 : decode cX6_solve 179 = .ok (.aload_n 0, 1) := by decide +kernel
theorem dX6_solve_180 : decode cX6_solve 180 = .ok (.getfield 11, 3) := by decide +kernel
theorem dX6_solve_183 : decode cX6_solve 183 = .ok (.iconst 0, 1) := by decide +kernel
theorem dX6_solve_184 : decode cX6_solve 184 = .ok (.aaload, 1) := by decide +kernel
theorem dX6_solve_185 : decode cX6_solve 185 = .ok (.aload_n 0, 1) := by decide +kernel
theorem dX6_solve_186 : decode cX6_solve 186 = .ok (.getfield 21, 3) := by decide +kernel
theorem dX6_solve_189 : decode cX6_solve 189 = .ok (.iconst 0, 1) := by decide +kernel
theorem dX6_solve_190 : decode cX6_solve 190 = .ok (.iaload, 1) := by decide +kernel
theorem dX6_solve_191 : decode cX6_solve 191 = .ok (.invokevirtual 132, 3) := by decide +kernel
theorem dX6_solve_194 : decode cX6_solve 194 = .ok (.ifCond .eq 19, 3) := by decide +kernel
theorem dX6_solve_197 : decode cX6_solve 197 = .ok (.aload_n 0, 1) := by decide +kernel
theorem dX6_solve_198 : decode cX6_solve 198 = .ok (.getfield 33, 3) := by decide +kernel
theorem dX6_solve_201 : decode cX6_solve 201 = .ok (.iconst 0, 1) := by decide +kernel
theorem dX6_solve_202 : decode cX6_solve 202 = .ok (.aaload, 1) := by decide +kernel
theorem dX6_solve_203 : decode cX6_solve 203 = .ok (.aload_n 0, 1) := by decide +kernel
theorem dX6_solve_204 : decode cX6_solve 204 = .ok (.getfield 21, 3) := by decide +kernel
theorem dX6_solve_207 : decode cX6_solve 207 = .ok (.iconst 0, 1) := by decide +kernel
theorem dX6_solve_208 : decode cX6_solve 208 = .ok (.iaload, 1) := by decide +kernel
theorem dX6_solve_209 : decode cX6_solve 209 = .ok (.iaload, 1) := by decide +kernel
theorem dX6_solve_210 : decode cX6_solve 210 = .ok (.goto 4, 3) := by decide +kernel
theorem dX6_solve_213 : decode cX6_solve 213 = .ok (.iconst (-1), 1) := by decide +kernel
theorem dX6_solve_214 : decode cX6_solve 214 = .ok (.putfield 24, 3) := by decide +kernel
theorem dX6_solve_217 : decode cX6_solve 217 = .ok (.return_, 1) := by decide +kernel
theorem dX6_bestAt_0 : decode cX6_bestAt 0 = .ok (.iload_n 1, 1) := by decide +kernel
theorem dX6_bestAt_1 : decode cX6_bestAt 1 = .ok (.aload_n 0, 1) := by decide +kernel
theorem dX6_bestAt_2 : decode cX6_bestAt 2 = .ok (.getfield 43, 3) := by decide +kernel
theorem dX6_bestAt_5 : decode cX6_bestAt 5 = .ok (.if_icmp .lt 5, 3) := by decide +kernel
theorem dX6_bestAt_8 : decode cX6_bestAt 8 = .ok (.iconst (-1), 1) := by decide +kernel
theorem dX6_bestAt_9 : decode cX6_bestAt 9 = .ok (.ireturn, 1) := by decide +kernel
theorem dX6_bestAt_10 : decode cX6_bestAt 10 = .ok (.iconst (-1), 1) := by decide +kernel
theorem dX6_bestAt_11 : decode cX6_bestAt 11 = .ok (.istore_n 3, 1) := by decide +kernel
theorem dX6_bestAt_12 : decode cX6_bestAt 12 = .ok (.iconst 0, 1) := by decide +kernel
theorem dX6_bestAt_13 : decode cX6_bestAt 13 = .ok (.istore 4, 2) := by decide +kernel
theorem dX6_bestAt_15 : decode cX6_bestAt 15 = .ok (.iconst 0, 1) := by decide +kernel
theorem dX6_bestAt_16 : decode cX6_bestAt 16 = .ok (.istore 5, 2) := by decide +kernel
theorem dX6_bestAt_18 : decode cX6_bestAt 18 = .ok (.iload 5, 2) := by decide +kernel
theorem dX6_bestAt_20 : decode cX6_bestAt 20 = .ok (.aload_n 0, 1) := by decide +kernel
theorem dX6_bestAt_21 : decode cX6_bestAt 21 = .ok (.getfield 11, 3) := by decide +kernel
theorem dX6_bestAt_24 : decode cX6_bestAt 24 = .ok (.iload_n 1, 1) := by decide +kernel
theorem dX6_bestAt_25 : decode cX6_bestAt 25 = .ok (.aaload, 1) := by decide +kernel
theorem dX6_bestAt_26 : decode cX6_bestAt 26 = .ok (.getfield 60, 3) := by decide +kernel
theorem dX6_bestAt_29 : decode cX6_bestAt 29 = .ok (.if_icmp .ge 74, 3) := by decide +kernel
theorem dX6_bestAt_32 : decode cX6_bestAt 32 = .ok (.aload_n 0, 1) := by decide +kernel
theorem dX6_bestAt_33 : decode cX6_bestAt 33 = .ok (.getfield 17, 3) := by decide +kernel
theorem dX6_bestAt_36 : decode cX6_bestAt 36 = .ok (.iload_n 1, 1) := by decide +kernel
theorem dX6_bestAt_37 : decode cX6_bestAt 37 = .ok (.iaload, 1) := by decide +kernel
theorem dX6_bestAt_38 : decode cX6_bestAt 38 = .ok (.iconst (-1), 1) := by decide +kernel
theorem dX6_bestAt_39 : decode cX6_bestAt 39 = .ok (.if_icmp .eq 17, 3) := by decide +kernel
theorem dX6_bestAt_42 : decode cX6_bestAt 42 = .ok (.aload_n 0, 1) := by decide +kernel
theorem dX6_bestAt_43 : decode cX6_bestAt 43 = .ok (.getfield 17, 3) := by decide +kernel
theorem dX6_bestAt_46 : decode cX6_bestAt 46 = .ok (.iload_n 1, 1) := by decide +kernel
theorem dX6_bestAt_47 : decode cX6_bestAt 47 = .ok (.iaload, 1) := by decide +kernel
theorem dX6_bestAt_48 : decode cX6_bestAt 48 = .ok (.iload 5, 2) := by decide +kernel
theorem dX6_bestAt_50 : decode cX6_bestAt 50 = .ok (.if_icmp .eq 6, 3) := by decide +kernel
theorem dX6_bestAt_53 : decode cX6_bestAt 53 = .ok (.goto 44, 3) := by decide +kernel
theorem dX6_bestAt_56 : decode cX6_bestAt 56 = .ok (.aload_n 0, 1) := by decide +kernel
theorem dX6_bestAt_57 : decode cX6_bestAt 57 = .ok (.getfield 33, 3) := by decide +kernel
theorem dX6_bestAt_60 : decode cX6_bestAt 60 = .ok (.iload_n 1, 1) := by decide +kernel
theorem dX6_bestAt_61 : decode cX6_bestAt 61 = .ok (.aaload, 1) := by decide +kernel
theorem dX6_bestAt_62 : decode cX6_bestAt 62 = .ok (.iload 5, 2) := by decide +kernel
theorem dX6_bestAt_64 : decode cX6_bestAt 64 = .ok (.iaload, 1) := by decide +kernel
theorem dX6_bestAt_65 : decode cX6_bestAt 65 = .ok (.aload_n 0, 1) := by decide +kernel
theorem dX6_bestAt_66 : decode cX6_bestAt 66 = .ok (.iload_n 1, 1) := by decide +kernel
theorem dX6_bestAt_67 : decode cX6_bestAt 67 = .ok (.iconst 1, 1) := by decide +kernel
theorem dX6_bestAt_68 : decode cX6_bestAt 68 = .ok (.isub, 1) := by decide +kernel
theorem dX6_bestAt_69 : decode cX6_bestAt 69 = .ok (.iload_n 2, 1) := by decide +kernel
theorem dX6_bestAt_70 : decode cX6_bestAt 70 = .ok (.iload 5, 2) := by decide +kernel
theorem dX6_bestAt_72 : decode cX6_bestAt 72 = .ok (.invokevirtual 126, 3) := by decide +kernel
theorem dX6_bestAt_75 : decode cX6_bestAt 75 = .ok (.iadd, 1) := by decide +kernel
theorem dX6_bestAt_76 : decode cX6_bestAt 76 = .ok (.istore 6, 2) := by decide +kernel
theorem dX6_bestAt_78 : decode cX6_bestAt 78 = .ok (.iload_n 3, 1) := by decide +kernel
theorem dX6_bestAt_79 : decode cX6_bestAt 79 = .ok (.iconst (-1), 1) := by decide +kernel
theorem dX6_bestAt_80 : decode cX6_bestAt 80 = .ok (.if_icmp .eq 10, 3) := by decide +kernel
theorem dX6_bestAt_83 : decode cX6_bestAt 83 = .ok (.iload 6, 2) := by decide +kernel
theorem dX6_bestAt_85 : decode cX6_bestAt 85 = .ok (.iload 4, 2) := by decide +kernel
theorem dX6_bestAt_87 : decode cX6_bestAt 87 = .ok (.if_icmp .ge 10, 3) := by decide +kernel
theorem dX6_bestAt_90 : decode cX6_bestAt 90 = .ok (.iload 5, 2) := by decide +kernel
theorem dX6_bestAt_92 : decode cX6_bestAt 92 = .ok (.istore_n 3, 1) := by decide +kernel
theorem dX6_bestAt_93 : decode cX6_bestAt 93 = .ok (.iload 6, 2) := by decide +kernel
theorem dX6_bestAt_95 : decode cX6_bestAt 95 = .ok (.istore 4, 2) := by decide +kernel
theorem dX6_bestAt_97 : decode cX6_bestAt 97 = .ok (.iinc 5 1, 3) := by decide +kernel
theorem dX6_bestAt_100 : decode cX6_bestAt 100 = .ok (.goto (-82), 3) := by decide +kernel
theorem dX6_bestAt_103 : decode cX6_bestAt 103 = .ok (.iload_n 3, 1) := by decide +kernel
theorem dX6_bestAt_104 : decode cX6_bestAt 104 = .ok (.ireturn, 1) := by decide +kernel
theorem dX6_moveCost_0 : decode cX6_moveCost 0 = .ok (.iload_n 1, 1) := by decide +kernel
theorem dX6_moveCost_1 : decode cX6_moveCost 1 = .ok (.ifCond .lt 41, 3) := by decide +kernel
theorem dX6_moveCost_4 : decode cX6_moveCost 4 = .ok (.iload_n 1, 1) := by decide +kernel
theorem dX6_moveCost_5 : decode cX6_moveCost 5 = .ok (.iconst 1, 1) := by decide +kernel
theorem dX6_moveCost_6 : decode cX6_moveCost 6 = .ok (.iadd, 1) := by decide +kernel
theorem dX6_moveCost_7 : decode cX6_moveCost 7 = .ok (.aload_n 0, 1) := by decide +kernel
theorem dX6_moveCost_8 : decode cX6_moveCost 8 = .ok (.getfield 43, 3) := by decide +kernel
theorem dX6_moveCost_11 : decode cX6_moveCost 11 = .ok (.if_icmp .ge 31, 3) := by decide +kernel
theorem dX6_moveCost_14 : decode cX6_moveCost 14 = .ok (.aload_n 0, 1) := by decide +kernel
theorem dX6_moveCost_15 : decode cX6_moveCost 15 = .ok (.getfield 11, 3) := by decide +kernel
theorem dX6_moveCost_18 : decode cX6_moveCost 18 = .ok (.iload_n 1, 1) := by decide +kernel
theorem dX6_moveCost_19 : decode cX6_moveCost 19 = .ok (.aaload, 1) := by decide +kernel
theorem dX6_moveCost_20 : decode cX6_moveCost 20 = .ok (.iload_n 2, 1) := by decide +kernel
theorem dX6_moveCost_21 : decode cX6_moveCost 21 = .ok (.invokevirtual 132, 3) := by decide +kernel
theorem dX6_moveCost_24 : decode cX6_moveCost 24 = .ok (.ifCond .eq 18, 3) := by decide +kernel
theorem dX6_moveCost_27 : decode cX6_moveCost 27 = .ok (.aload_n 0, 1) := by decide +kernel
theorem dX6_moveCost_28 : decode cX6_moveCost 28 = .ok (.getfield 11, 3) := by decide +kernel
theorem dX6_moveCost_31 : decode cX6_moveCost 31 = .ok (.iload_n 1, 1) := by decide +kernel
theorem dX6_moveCost_32 : decode cX6_moveCost 32 = .ok (.iconst 1, 1) := by decide +kernel
theorem dX6_moveCost_33 : decode cX6_moveCost 33 = .ok (.iadd, 1) := by decide +kernel
theorem dX6_moveCost_34 : decode cX6_moveCost 34 = .ok (.aaload, 1) := by decide +kernel
theorem dX6_moveCost_35 : decode cX6_moveCost 35 = .ok (.iload_n 3, 1) := by decide +kernel
theorem dX6_moveCost_36 : decode cX6_moveCost 36 = .ok (.invokevirtual 132, 3) := by decide +kernel
theorem dX6_moveCost_39 : decode cX6_moveCost 39 = .ok (.ifCond .ne 5, 3) := by decide +kernel
theorem dX6_moveCost_42 : decode cX6_moveCost 42 = .ok (.iconst 0, 1) := by decide +kernel
theorem dX6_moveCost_43 : decode cX6_moveCost 43 = .ok (.ireturn, 1) := by decide +kernel
theorem dX6_moveCost_44 : decode cX6_moveCost 44 = .ok (.aload_n 0, 1) := by decide +kernel
theorem dX6_moveCost_45 : decode cX6_moveCost 45 = .ok (.getfield 11, 3) := by decide +kernel
theorem dX6_moveCost_48 : decode cX6_moveCost 48 = .ok (.iload_n 1, 1) := by decide +kernel
theorem dX6_moveCost_49 : decode cX6_moveCost 49 = .ok (.aaload, 1) := by decide +kernel
theorem dX6_moveCost_50 : decode cX6_moveCost 50 = .ok (.getfield 135, 3) := by decide +kernel
theorem dX6_moveCost_53 : decode cX6_moveCost 53 = .ok (.iload_n 2, 1) := by decide +kernel
theorem dX6_moveCost_54 : decode cX6_moveCost 54 = .ok (.iaload, 1) := by decide +kernel
theorem dX6_moveCost_55 : decode cX6_moveCost 55 = .ok (.istore 4, 2) := by decide +kernel
theorem dX6_moveCost_57 : decode cX6_moveCost 57 = .ok (.aload_n 0, 1) := by decide +kernel
theorem dX6_moveCost_58 : decode cX6_moveCost 58 = .ok (.getfield 11, 3) := by decide +kernel
theorem dX6_moveCost_61 : decode cX6_moveCost 61 = .ok (.iload_n 1, 1) := by decide +kernel
theorem dX6_moveCost_62 : decode cX6_moveCost 62 = .ok (.iconst 1, 1) := by decide +kernel
theorem dX6_moveCost_63 : decode cX6_moveCost 63 = .ok (.iadd, 1) := by decide +kernel
theorem dX6_moveCost_64 : decode cX6_moveCost 64 = .ok (.aaload, 1) := by decide +kernel
theorem dX6_moveCost_65 : decode cX6_moveCost 65 = .ok (.getfield 135, 3) := by decide +kernel
theorem dX6_moveCost_68 : decode cX6_moveCost 68 = .ok (.iload_n 3, 1) := by decide +kernel
theorem dX6_moveCost_69 : decode cX6_moveCost 69 = .ok (.iaload, 1) := by decide +kernel
theorem dX6_moveCost_70 : decode cX6_moveCost 70 = .ok (.istore 5, 2) := by decide +kernel
theorem dX6_moveCost_72 : decode cX6_moveCost 72 = .ok (.iload 4, 2) := by decide +kernel
theorem dX6_moveCost_74 : decode cX6_moveCost 74 = .ok (.ifCond .eq 8, 3) := by decide +kernel
theorem dX6_moveCost_77 : decode cX6_moveCost 77 = .ok (.iload 5, 2) := by decide +kernel
theorem dX6_moveCost_79 : decode cX6_moveCost 79 = .ok (.ifCond .ne 5, 3) := by decide +kernel
theorem dX6_moveCost_82 : decode cX6_moveCost 82 = .ok (.iconst 0, 1) := by decide +kernel
theorem dX6_moveCost_83 : decode cX6_moveCost 83 = .ok (.ireturn, 1) := by decide +kernel
theorem dX6_moveCost_84 : decode cX6_moveCost 84 = .ok (.aload_n 0, 1) := by decide +kernel
theorem dX6_moveCost_85 : decode cX6_moveCost 85 = .ok (.getfield 28, 3) := by decide +kernel
theorem dX6_moveCost_88 : decode cX6_moveCost 88 = .ok (.iload_n 1, 1) := by decide +kernel
theorem dX6_moveCost_89 : decode cX6_moveCost 89 = .ok (.iaload, 1) := by decide +kernel
theorem dX6_moveCost_90 : decode cX6_moveCost 90 = .ok (.iconst 1, 1) := by decide +kernel
theorem dX6_moveCost_91 : decode cX6_moveCost 91 = .ok (.if_icmp .ne 8, 3) := by decide +kernel
theorem dX6_moveCost_94 : decode cX6_moveCost 94 = .ok (.bipush 6, 2) := by decide +kernel
theorem dX6_moveCost_96 : decode cX6_moveCost 96 = .ok (.goto 4, 3) := by decide +kernel
theorem dX6_moveCost_99 : decode cX6_moveCost 99 = .ok (.iconst 3, 1) := by decide +kernel
theorem dX6_moveCost_100 : decode cX6_moveCost 100 = .ok (.istore 6, 2) := by decide +kernel
theorem dX6_moveCost_102 : decode cX6_moveCost 102 = .ok (.aload_n 0, 1) := by decide +kernel
theorem dX6_moveCost_103 : decode cX6_moveCost 103 = .ok (.getfield 11, 3) := by decide +kernel
theorem dX6_moveCost_106 : decode cX6_moveCost 106 = .ok (.iload_n 1, 1) := by decide +kernel
theorem dX6_moveCost_107 : decode cX6_moveCost 107 = .ok (.aaload, 1) := by decide +kernel
theorem dX6_moveCost_108 : decode cX6_moveCost 108 = .ok (.getfield 138, 3) := by decide +kernel
theorem dX6_moveCost_111 : decode cX6_moveCost 111 = .ok (.iload_n 2, 1) := by decide +kernel
theorem dX6_moveCost_112 : decode cX6_moveCost 112 = .ok (.iaload, 1) := by decide +kernel
theorem dX6_moveCost_113 : decode cX6_moveCost 113 = .ok (.aload_n 0, 1) := by decide +kernel
theorem dX6_moveCost_114 : decode cX6_moveCost 114 = .ok (.getfield 11, 3) := by decide +kernel
theorem dX6_moveCost_117 : decode cX6_moveCost 117 = .ok (.iload_n 1, 1) := by decide +kernel
theorem dX6_moveCost_118 : decode cX6_moveCost 118 = .ok (.iconst 1, 1) := by decide +kernel
theorem dX6_moveCost_119 : decode cX6_moveCost 119 = .ok (.iadd, 1) := by decide +kernel
theorem dX6_moveCost_120 : decode cX6_moveCost 120 = .ok (.aaload, 1) := by decide +kernel
theorem dX6_moveCost_121 : decode cX6_moveCost 121 = .ok (.getfield 138, 3) := by decide +kernel
theorem dX6_moveCost_124 : decode cX6_moveCost 124 = .ok (.iload_n 3, 1) := by decide +kernel
theorem dX6_moveCost_125 : decode cX6_moveCost 125 = .ok (.iaload, 1) := by decide +kernel
theorem dX6_moveCost_126 : decode cX6_moveCost 126 = .ok (.invokestatic 141, 3) := by decide +kernel
theorem dX6_moveCost_129 : decode cX6_moveCost 129 = .ok (.istore 7, 2) := by decide +kernel
theorem dX6_moveCost_131 : decode cX6_moveCost 131 = .ok (.iload 6, 2) := by decide +kernel
theorem dX6_moveCost_133 : decode cX6_moveCost 133 = .ok (.iload 5, 2) := by decide +kernel
theorem dX6_moveCost_135 : decode cX6_moveCost 135 = .ok (.iload 4, 2) := by decide +kernel
theorem dX6_moveCost_137 : decode cX6_moveCost 137 = .ok (.isub, 1) := by decide +kernel
theorem dX6_moveCost_138 : decode cX6_moveCost 138 = .ok (.invokestatic 144, 3) := by decide +kernel
theorem dX6_moveCost_141 : decode cX6_moveCost 141 = .ok (.imul, 1) := by decide +kernel
theorem dX6_moveCost_142 : decode cX6_moveCost 142 = .ok (.iload 7, 2) := by decide +kernel
theorem dX6_moveCost_144 : decode cX6_moveCost 144 = .ok (.invokestatic 147, 3) := by decide +kernel
theorem dX6_moveCost_147 : decode cX6_moveCost 147 = .ok (.iadd, 1) := by decide +kernel
theorem dX6_moveCost_148 : decode cX6_moveCost 148 = .ok (.ireturn, 1) := by decide +kernel
theorem dX6_hardestMove_0 : decode cX6_hardestMove 0 = .ok (.aload_n 0, 1) := by decide +kernel
theorem dX6_hardestMove_1 : decode cX6_hardestMove 1 = .ok (.getfield 24, 3) := by decide +kernel
theorem dX6_hardestMove_4 : decode cX6_hardestMove 4 = .ok (.iconst (-1), 1) := by decide +kernel
theorem dX6_hardestMove_5 : decode cX6_hardestMove 5 = .ok (.if_icmp .ne 5, 3) := by decide +kernel
theorem dX6_hardestMove_8 : decode cX6_hardestMove 8 = .ok (.iconst (-1), 1) := by decide +kernel
theorem dX6_hardestMove_9 : decode cX6_hardestMove 9 = .ok (.ireturn, 1) := by decide +kernel
theorem dX6_hardestMove_10 : decode cX6_hardestMove 10 = .ok (.iconst (-1), 1) := by decide +kernel
theorem dX6_hardestMove_11 : decode cX6_hardestMove 11 = .ok (.istore_n 1, 1) := by decide +kernel
theorem dX6_hardestMove_12 : decode cX6_hardestMove 12 = .ok (.iconst (-1), 1) := by decide +kernel
theorem dX6_hardestMove_13 : decode cX6_hardestMove 13 = .ok (.istore_n 2, 1) := by decide +kernel
theorem dX6_hardestMove_14 : decode cX6_hardestMove 14 = .ok (.iconst 0, 1) := by decide +kernel
theorem dX6_hardestMove_15 : decode cX6_hardestMove 15 = .ok (.istore_n 3, 1) := by decide +kernel
theorem dX6_hardestMove_16 : decode cX6_hardestMove 16 = .ok (.iload_n 3, 1) := by decide +kernel
theorem dX6_hardestMove_17 : decode cX6_hardestMove 17 = .ok (.iconst 1, 1) := by decide +kernel
theorem dX6_hardestMove_18 : decode cX6_hardestMove 18 = .ok (.iadd, 1) := by decide +kernel
theorem dX6_hardestMove_19 : decode cX6_hardestMove 19 = .ok (.aload_n 0, 1) := by decide +kernel
theorem dX6_hardestMove_20 : decode cX6_hardestMove 20 = .ok (.getfield 43, 3) := by decide +kernel
theorem dX6_hardestMove_23 : decode cX6_hardestMove 23 = .ok (.if_icmp .ge 41, 3) := by decide +kernel
theorem dX6_hardestMove_26 : decode cX6_hardestMove 26 = .ok (.aload_n 0, 1) := by decide +kernel
theorem dX6_hardestMove_27 : decode cX6_hardestMove 27 = .ok (.iload_n 3, 1) := by decide +kernel
theorem dX6_hardestMove_28 : decode cX6_hardestMove 28 = .ok (.aload_n 0, 1) := by decide +kernel
theorem dX6_hardestMove_29 : decode cX6_hardestMove 29 = .ok (.getfield 21, 3) := by decide +kernel
theorem dX6_hardestMove_32 : decode cX6_hardestMove 32 = .ok (.iload_n 3, 1) := by decide +kernel
theorem dX6_hardestMove_33 : decode cX6_hardestMove 33 = .ok (.iaload, 1) := by decide +kernel
theorem dX6_hardestMove_34 : decode cX6_hardestMove 34 = .ok (.aload_n 0, 1) := by decide +kernel
theorem dX6_hardestMove_35 : decode cX6_hardestMove 35 = .ok (.getfield 21, 3) := by decide +kernel
theorem dX6_hardestMove_38 : decode cX6_hardestMove 38 = .ok (.iload_n 3, 1) := by decide +kernel
theorem dX6_hardestMove_39 : decode cX6_hardestMove 39 = .ok (.iconst 1, 1) := by decide +kernel
theorem dX6_hardestMove_40 : decode cX6_hardestMove 40 = .ok (.iadd, 1) := by decide +kernel
theorem dX6_hardestMove_41 : decode cX6_hardestMove 41 = .ok (.iaload, 1) := by decide +kernel
theorem dX6_hardestMove_42 : decode cX6_hardestMove 42 = .ok (.invokevirtual 126, 3) := by decide +kernel
theorem dX6_hardestMove_45 : decode cX6_hardestMove 45 = .ok (.istore 4, 2) := by decide +kernel
theorem dX6_hardestMove_47 : decode cX6_hardestMove 47 = .ok (.iload 4, 2) := by decide +kernel
theorem dX6_hardestMove_49 : decode cX6_hardestMove 49 = .ok (.iload_n 2, 1) := by decide +kernel
theorem dX6_hardestMove_50 : decode cX6_hardestMove 50 = .ok (.if_icmp .le 8, 3) := by decide +kernel
theorem dX6_hardestMove_53 : decode cX6_hardestMove 53 = .ok (.iload_n 3, 1) := by decide +kernel
theorem dX6_hardestMove_54 : decode cX6_hardestMove 54 = .ok (.istore_n 1, 1) := by decide +kernel
theorem dX6_hardestMove_55 : decode cX6_hardestMove 55 = .ok (.iload 4, 2) := by decide +kernel
theorem dX6_hardestMove_57 : decode cX6_hardestMove 57 = .ok (.istore_n 2, 1) := by decide +kernel
theorem dX6_hardestMove_58 : decode cX6_hardestMove 58 = .ok (.iinc 3 1, 3) := by decide +kernel
theorem dX6_hardestMove_61 : decode cX6_hardestMove 61 = .ok (.goto (-45), 3) := by decide +kernel
theorem dX6_hardestMove_64 : decode cX6_hardestMove 64 = .ok (.iload_n 1, 1) := by decide +kernel
theorem dX6_hardestMove_65 : decode cX6_hardestMove 65 = .ok (.ireturn, 1) := by decide +kernel
theorem dX6_sumOfMoves_0 : decode cX6_sumOfMoves 0 = .ok (.aload_n 0, 1) := by decide +kernel
theorem dX6_sumOfMoves_1 : decode cX6_sumOfMoves 1 = .ok (.getfield 24, 3) := by decide +kernel
theorem dX6_sumOfMoves_4 : decode cX6_sumOfMoves 4 = .ok (.iconst (-1), 1) := by decide +kernel
theorem dX6_sumOfMoves_5 : decode cX6_sumOfMoves 5 = .ok (.if_icmp .ne 5, 3) := by decide +kernel
theorem dX6_sumOfMoves_8 : decode cX6_sumOfMoves 8 = .ok (.iconst (-1), 1) := by decide +kernel
theorem dX6_sumOfMoves_9 : decode cX6_sumOfMoves 9 = .ok (.ireturn, 1) := by decide +kernel
theorem dX6_sumOfMoves_10 : decode cX6_sumOfMoves 10 = .ok (.iconst 0, 1) := by decide +kernel
theorem dX6_sumOfMoves_11 : decode cX6_sumOfMoves 11 = .ok (.istore_n 1, 1) := by decide +kernel
theorem dX6_sumOfMoves_12 : decode cX6_sumOfMoves 12 = .ok (.iconst 0, 1) := by decide +kernel
theorem dX6_sumOfMoves_13 : decode cX6_sumOfMoves 13 = .ok (.istore_n 2, 1) := by decide +kernel
theorem dX6_sumOfMoves_14 : decode cX6_sumOfMoves 14 = .ok (.iload_n 2, 1) := by decide +kernel
theorem dX6_sumOfMoves_15 : decode cX6_sumOfMoves 15 = .ok (.iconst 1, 1) := by decide +kernel
theorem dX6_sumOfMoves_16 : decode cX6_sumOfMoves 16 = .ok (.iadd, 1) := by decide +kernel
theorem dX6_sumOfMoves_17 : decode cX6_sumOfMoves 17 = .ok (.aload_n 0, 1) := by decide +kernel
theorem dX6_sumOfMoves_18 : decode cX6_sumOfMoves 18 = .ok (.getfield 43, 3) := by decide +kernel
theorem dX6_sumOfMoves_21 : decode cX6_sumOfMoves 21 = .ok (.if_icmp .ge 31, 3) := by decide +kernel
theorem dX6_sumOfMoves_24 : decode cX6_sumOfMoves 24 = .ok (.iload_n 1, 1) := by decide +kernel
theorem dX6_sumOfMoves_25 : decode cX6_sumOfMoves 25 = .ok (.aload_n 0, 1) := by decide +kernel
theorem dX6_sumOfMoves_26 : decode cX6_sumOfMoves 26 = .ok (.iload_n 2, 1) := by decide +kernel
theorem dX6_sumOfMoves_27 : decode cX6_sumOfMoves 27 = .ok (.aload_n 0, 1) := by decide +kernel
theorem dX6_sumOfMoves_28 : decode cX6_sumOfMoves 28 = .ok (.getfield 21, 3) := by decide +kernel
theorem dX6_sumOfMoves_31 : decode cX6_sumOfMoves 31 = .ok (.iload_n 2, 1) := by decide +kernel
theorem dX6_sumOfMoves_32 : decode cX6_sumOfMoves 32 = .ok (.iaload, 1) := by decide +kernel
theorem dX6_sumOfMoves_33 : decode cX6_sumOfMoves 33 = .ok (.aload_n 0, 1) := by decide +kernel
theorem dX6_sumOfMoves_34 : decode cX6_sumOfMoves 34 = .ok (.getfield 21, 3) := by decide +kernel
theorem dX6_sumOfMoves_37 : decode cX6_sumOfMoves 37 = .ok (.iload_n 2, 1) := by decide +kernel
theorem dX6_sumOfMoves_38 : decode cX6_sumOfMoves 38 = .ok (.iconst 1, 1) := by decide +kernel
theorem dX6_sumOfMoves_39 : decode cX6_sumOfMoves 39 = .ok (.iadd, 1) := by decide +kernel
theorem dX6_sumOfMoves_40 : decode cX6_sumOfMoves 40 = .ok (.iaload, 1) := by decide +kernel
theorem dX6_sumOfMoves_41 : decode cX6_sumOfMoves 41 = .ok (.invokevirtual 126, 3) := by decide +kernel
theorem dX6_sumOfMoves_44 : decode cX6_sumOfMoves 44 = .ok (.iadd, 1) := by decide +kernel
theorem dX6_sumOfMoves_45 : decode cX6_sumOfMoves 45 = .ok (.istore_n 1, 1) := by decide +kernel
theorem dX6_sumOfMoves_46 : decode cX6_sumOfMoves 46 = .ok (.iinc 2 1, 3) := by decide +kernel
theorem dX6_sumOfMoves_49 : decode cX6_sumOfMoves 49 = .ok (.goto (-35), 3) := by decide +kernel
theorem dX6_sumOfMoves_52 : decode cX6_sumOfMoves 52 = .ok (.iload_n 1, 1) := by decide +kernel
theorem dX6_sumOfMoves_53 : decode cX6_sumOfMoves 53 = .ok (.ireturn, 1) := by decide +kernel
theorem dX6_griplessCount_0 : decode cX6_griplessCount 0 = .ok (.iconst 0, 1) := by decide +kernel
theorem dX6_griplessCount_1 : decode cX6_griplessCount 1 = .ok (.istore_n 1, 1) := by decide +kernel
theorem dX6_griplessCount_2 : decode cX6_griplessCount 2 = .ok (.iconst 0, 1) := by decide +kernel
theorem dX6_griplessCount_3 : decode cX6_griplessCount 3 = .ok (.istore_n 2, 1) := by decide +kernel
theorem dX6_griplessCount_4 : decode cX6_griplessCount 4 = .ok (.iload_n 2, 1) := by decide +kernel
theorem dX6_griplessCount_5 : decode cX6_griplessCount 5 = .ok (.aload_n 0, 1) := by decide +kernel
theorem dX6_griplessCount_6 : decode cX6_griplessCount 6 = .ok (.getfield 43, 3) := by decide +kernel
theorem dX6_griplessCount_9 : decode cX6_griplessCount 9 = .ok (.if_icmp .ge 24, 3) := by decide +kernel
theorem dX6_griplessCount_12 : decode cX6_griplessCount 12 = .ok (.aload_n 0, 1) := by decide +kernel
theorem dX6_griplessCount_13 : decode cX6_griplessCount 13 = .ok (.getfield 11, 3) := by decide +kernel
theorem dX6_griplessCount_16 : decode cX6_griplessCount 16 = .ok (.iload_n 2, 1) := by decide +kernel
theorem dX6_griplessCount_17 : decode cX6_griplessCount 17 = .ok (.aaload, 1) := by decide +kernel
theorem dX6_griplessCount_18 : decode cX6_griplessCount 18 = .ok (.getfield 60, 3) := by decide +kernel
theorem dX6_griplessCount_21 : decode cX6_griplessCount 21 = .ok (.ifCond .ne 6, 3) := by decide +kernel
theorem dX6_griplessCount_24 : decode cX6_griplessCount 24 = .ok (.iinc 1 1, 3) := by decide +kernel
theorem dX6_griplessCount_27 : decode cX6_griplessCount 27 = .ok (.iinc 2 1, 3) := by decide +kernel
theorem dX6_griplessCount_30 : decode cX6_griplessCount 30 = .ok (.goto (-26), 3) := by decide +kernel
theorem dX6_griplessCount_33 : decode cX6_griplessCount 33 = .ok (.iload_n 1, 1) := by decide +kernel
theorem dX6_griplessCount_34 : decode cX6_griplessCount 34 = .ok (.ireturn, 1) := by decide +kernel
theorem dX6_fixedCount_0 : decode cX6_fixedCount 0 = .ok (.iconst 0, 1) := by decide +kernel
theorem dX6_fixedCount_1 : decode cX6_fixedCount 1 = .ok (.istore_n 1, 1) := by decide +kernel
theorem dX6_fixedCount_2 : decode cX6_fixedCount 2 = .ok (.iconst 0, 1) := by decide +kernel
theorem dX6_fixedCount_3 : decode cX6_fixedCount 3 = .ok (.istore_n 2, 1) := by decide +kernel
theorem dX6_fixedCount_4 : decode cX6_fixedCount 4 = .ok (.iload_n 2, 1) := by decide +kernel
theorem dX6_fixedCount_5 : decode cX6_fixedCount 5 = .ok (.aload_n 0, 1) := by decide +kernel
theorem dX6_fixedCount_6 : decode cX6_fixedCount 6 = .ok (.getfield 43, 3) := by decide +kernel
theorem dX6_fixedCount_9 : decode cX6_fixedCount 9 = .ok (.if_icmp .ge 22, 3) := by decide +kernel
theorem dX6_fixedCount_12 : decode cX6_fixedCount 12 = .ok (.aload_n 0, 1) := by decide +kernel
theorem dX6_fixedCount_13 : decode cX6_fixedCount 13 = .ok (.getfield 17, 3) := by decide +kernel
theorem dX6_fixedCount_16 : decode cX6_fixedCount 16 = .ok (.iload_n 2, 1) := by decide +kernel
theorem dX6_fixedCount_17 : decode cX6_fixedCount 17 = .ok (.iaload, 1) := by decide +kernel
theorem dX6_fixedCount_18 : decode cX6_fixedCount 18 = .ok (.iconst (-1), 1) := by decide +kernel
theorem dX6_fixedCount_19 : decode cX6_fixedCount 19 = .ok (.if_icmp .eq 6, 3) := by decide +kernel
theorem dX6_fixedCount_22 : decode cX6_fixedCount 22 = .ok (.iinc 1 1, 3) := by decide +kernel
theorem dX6_fixedCount_25 : decode cX6_fixedCount 25 = .ok (.iinc 2 1, 3) := by decide +kernel
theorem dX6_fixedCount_28 : decode cX6_fixedCount 28 = .ok (.goto (-24), 3) := by decide +kernel
theorem dX6_fixedCount_31 : decode cX6_fixedCount 31 = .ok (.iload_n 1, 1) := by decide +kernel
theorem dX6_fixedCount_32 : decode cX6_fixedCount 32 = .ok (.ireturn, 1) := by decide +kernel
theorem dX7_init_0 : decode cX7_init 0 = .ok (.aload_n 0, 1) := by decide +kernel
theorem dX7_init_1 : decode cX7_init 1 = .ok (.invokespecial 3, 3) := by decide +kernel
theorem dX7_init_4 : decode cX7_init 4 = .ok (.aload_n 0, 1) := by decide +kernel
theorem dX7_init_5 : decode cX7_init 5 = .ok (.iconst 0, 1) := by decide +kernel
theorem dX7_init_6 : decode cX7_init 6 = .ok (.putfield 9, 3) := by decide +kernel
theorem dX7_init_9 : decode cX7_init 9 = .ok (.aload_n 0, 1) := by decide +kernel
theorem dX7_init_10 : decode cX7_init 10 = .ok (.iconst (-1), 1) := by decide +kernel
theorem dX7_init_11 : decode cX7_init 11 = .ok (.putfield 15, 3) := by decide +kernel
theorem dX7_init_14 : decode cX7_init 14 = .ok (.aload_n 0, 1) := by decide +kernel
theorem dX7_init_15 : decode cX7_init 15 = .ok (.iconst 0, 1) := by decide +kernel
theorem dX7_init_16 : decode cX7_init 16 = .ok (.putfield 18, 3) := by decide +kernel
theorem dX7_init_19 : decode cX7_init 19 = .ok (.aload_n 0, 1) := by decide +kernel
theorem dX7_init_20 : decode cX7_init 20 = .ok (.iconst 0, 1) := by decide +kernel
theorem dX7_init_21 : decode cX7_init 21 = .ok (.putfield 23, 3) := by decide +kernel
theorem dX7_init_24 : decode cX7_init 24 = .ok (.aload_n 0, 1) := by decide +kernel
theorem dX7_init_25 : decode cX7_init 25 = .ok (.iconst 0, 1) := by decide +kernel
theorem dX7_init_26 : decode cX7_init 26 = .ok (.putfield 26, 3) := by decide +kernel
theorem dX7_init_29 : decode cX7_init 29 = .ok (.aload_n 0, 1) := by decide +kernel
theorem dX7_init_30 : decode cX7_init 30 = .ok (.iconst 0, 1) := by decide +kernel
theorem dX7_init_31 : decode cX7_init 31 = .ok (.putfield 29, 3) := by decide +kernel
theorem dX7_init_34 : decode cX7_init 34 = .ok (.aload_n 0, 1) := by decide +kernel
theorem dX7_init_35 : decode cX7_init 35 = .ok (.iconst 0, 1) := by decide +kernel
theorem dX7_init_36 : decode cX7_init 36 = .ok (.putfield 32, 3) := by decide +kernel
theorem dX7_init_39 : decode cX7_init 39 = .ok (.aload_n 0, 1) := by decide +kernel
theorem dX7_init_40 : decode cX7_init 40 = .ok (.new 35, 3) := by decide +kernel
theorem dX7_init_43 : decode cX7_init 43 = .ok (.dup, 1) := by decide +kernel
theorem dX7_init_44 : decode cX7_init 44 = .ok (.invokespecial 37, 3) := by decide +kernel
theorem dX7_init_47 : decode cX7_init 47 = .ok (.putfield 38, 3) := by decide +kernel
theorem dX7_init_50 : decode cX7_init 50 = .ok (.return_, 1) := by decide +kernel
theorem dX7_forget_0 : decode cX7_forget 0 = .ok (.aload_n 0, 1) := by decide +kernel
theorem dX7_forget_1 : decode cX7_forget 1 = .ok (.iconst 0, 1) := by decide +kernel
theorem dX7_forget_2 : decode cX7_forget 2 = .ok (.putfield 26, 3) := by decide +kernel
theorem dX7_forget_5 : decode cX7_forget 5 = .ok (.return_, 1) := by decide +kernel
theorem dX7_isOf_0 : decode cX7_isOf 0 = .ok (.aload_n 0, 1) := by decide +kernel
theorem dX7_isOf_1 : decode cX7_isOf 1 = .ok (.getfield 26, 3) := by decide +kernel
theorem dX7_isOf_4 : decode cX7_isOf 4 = .ok (.iload_n 1, 1) := by decide +kernel
theorem dX7_isOf_5 : decode cX7_isOf 5 = .ok (.if_icmp .ne 23, 3) := by decide +kernel
theorem dX7_isOf_8 : decode cX7_isOf 8 = .ok (.aload_n 0, 1) := by decide +kernel
theorem dX7_isOf_9 : decode cX7_isOf 9 = .ok (.getfield 29, 3) := by decide +kernel
theorem dX7_isOf_12 : decode cX7_isOf 12 = .ok (.iload_n 2, 1) := by decide +kernel
theorem dX7_isOf_13 : decode cX7_isOf 13 = .ok (.if_icmp .ne 15, 3) := by decide +kernel
theorem dX7_isOf_16 : decode cX7_isOf 16 = .ok (.aload_n 0, 1) := by decide +kernel
theorem dX7_isOf_17 : decode cX7_isOf 17 = .ok (.getfield 32, 3) := by decide +kernel
theorem dX7_isOf_20 : decode cX7_isOf 20 = .ok (.iload_n 3, 1) := by decide +kernel
theorem dX7_isOf_21 : decode cX7_isOf 21 = .ok (.if_icmp .ne 7, 3) := by decide +kernel
theorem dX7_isOf_24 : decode cX7_isOf 24 = .ok (.iconst 1, 1) := by decide +kernel
theorem dX7_isOf_25 : decode cX7_isOf 25 = .ok (.goto 4, 3) := by decide +kernel
theorem dX7_isOf_28 : decode cX7_isOf 28 = .ok (.iconst 0, 1) := by decide +kernel
theorem dX7_isOf_29 : decode cX7_isOf 29 = .ok (.ireturn, 1) := by decide +kernel
theorem dX7_seek_0 : decode cX7_seek 0 = .ok (.aload_n 0, 1) := by decide +kernel
theorem dX7_seek_1 : decode cX7_seek 1 = .ok (.iload_n 2, 1) := by decide +kernel
theorem dX7_seek_2 : decode cX7_seek 2 = .ok (.putfield 26, 3) := by decide +kernel
theorem dX7_seek_5 : decode cX7_seek 5 = .ok (.aload_n 0, 1) := by decide +kernel
theorem dX7_seek_6 : decode cX7_seek 6 = .ok (.iload_n 3, 1) := by decide +kernel
theorem dX7_seek_7 : decode cX7_seek 7 = .ok (.putfield 29, 3) := by decide +kernel
theorem dX7_seek_10 : decode cX7_seek 10 = .ok (.aload_n 0, 1) := by decide +kernel
theorem dX7_seek_11 : decode cX7_seek 11 = .ok (.iload 4, 2) := by decide +kernel
theorem dX7_seek_13 : decode cX7_seek 13 = .ok (.putfield 32, 3) := by decide +kernel
theorem dX7_seek_16 : decode cX7_seek 16 = .ok (.aload_n 0, 1) := by decide +kernel
theorem dX7_seek_17 : decode cX7_seek 17 = .ok (.iconst 0, 1) := by decide +kernel
theorem dX7_seek_18 : decode cX7_seek 18 = .ok (.putfield 9, 3) := by decide +kernel
theorem dX7_seek_21 : decode cX7_seek 21 = .ok (.aload_n 0, 1) := by decide +kernel
theorem dX7_seek_22 : decode cX7_seek 22 = .ok (.iconst (-1), 1) := by decide +kernel
theorem dX7_seek_23 : decode cX7_seek 23 = .ok (.putfield 15, 3) := by decide +kernel
theorem dX7_seek_26 : decode cX7_seek 26 = .ok (.aload_n 0, 1) := by decide +kernel
theorem dX7_seek_27 : decode cX7_seek 27 = .ok (.iconst 0, 1) := by decide +kernel
theorem dX7_seek_28 : decode cX7_seek 28 = .ok (.putfield 18, 3) := by decide +kernel
theorem dX7_seek_31 : decode cX7_seek 31 = .ok (.aload_n 0, 1) := by decide +kernel
theorem dX7_seek_32 : decode cX7_seek 32 = .ok (.iconst 0, 1) := by decide +kernel
theorem dX7_seek_33 : decode cX7_seek 33 = .ok (.putfield 23, 3) := by decide +kernel
theorem dX7_seek_36 : decode cX7_seek 36 = .ok (.aload_n 0, 1) := by decide +kernel
theorem dX7_seek_37 : decode cX7_seek 37 = .ok (.aload_n 1, 1) := by decide +kernel
theorem dX7_seek_38 : decode cX7_seek 38 = .ok (.iconst 0, 1) := by decide +kernel
theorem dX7_seek_39 : decode cX7_seek 39 = .ok (.iconst 0, 1) := by decide +kernel
theorem dX7_seek_40 : decode cX7_seek 40 = .ok (.iconst 0, 1) := by decide +kernel
theorem dX7_seek_41 : decode cX7_seek 41 = .ok (.iconst (-1), 1) := by decide +kernel
theorem dX7_seek_42 : decode cX7_seek 42 = .ok (.invokestatic 42, 3) := by decide +kernel
theorem dX7_seek_45 : decode cX7_seek 45 = .ok (.return_, 1) := by decide +kernel
theorem dX7_bestFret_0 : decode cX7_bestFret 0 = .ok (.aload_n 0, 1) := by decide +kernel
theorem dX7_bestFret_1 : decode cX7_bestFret 1 = .ok (.getfield 23, 3) := by decide +kernel
theorem dX7_bestFret_4 : decode cX7_bestFret 4 = .ok (.iload_n 1, 1) := by decide +kernel
theorem dX7_bestFret_5 : decode cX7_bestFret 5 = .ok (.invokestatic 46, 3) := by decide +kernel
theorem dX7_bestFret_8 : decode cX7_bestFret 8 = .ok (.ireturn, 1) := by decide +kernel
theorem dX7_place_0 : decode cX7_place 0 = .ok (.iload_n 2, 1) := by decide +kernel
theorem dX7_place_1 : decode cX7_place 1 = .ok (.bipush 6, 2) := by decide +kernel
theorem dX7_place_3 : decode cX7_place 3 = .ok (.if_icmp .lt 39, 3) := by decide +kernel
theorem dX7_place_6 : decode cX7_place 6 = .ok (.iload 4, 2) := by decide +kernel
theorem dX7_place_8 : decode cX7_place 8 = .ok (.aload_n 0, 1) := by decide +kernel
theorem dX7_place_9 : decode cX7_place 9 = .ok (.getfield 26, 3) := by decide +kernel
theorem dX7_place_12 : decode cX7_place 12 = .ok (.if_icmp .ne 29, 3) := by decide +kernel
theorem dX7_place_15 : decode cX7_place 15 = .ok (.iload 5, 2) := by decide +kernel
theorem dX7_place_17 : decode cX7_place 17 = .ok (.ifCond .lt 24, 3) := by decide +kernel
theorem dX7_place_20 : decode cX7_place 20 = .ok (.iload 5, 2) := by decide +kernel
theorem dX7_place_22 : decode cX7_place 22 = .ok (.bipush 12, 2) := by decide +kernel
theorem dX7_place_24 : decode cX7_place 24 = .ok (.irem, 1) := by decide +kernel
theorem dX7_place_25 : decode cX7_place 25 = .ok (.aload_n 0, 1) := by decide +kernel
theorem dX7_place_26 : decode cX7_place 26 = .ok (.getfield 29, 3) := by decide +kernel
theorem dX7_place_29 : decode cX7_place 29 = .ok (.if_icmp .ne 12, 3) := by decide +kernel
theorem dX7_place_32 : decode cX7_place 32 = .ok (.aload_n 0, 1) := by decide +kernel
theorem dX7_place_33 : decode cX7_place 33 = .ok (.iload_n 3, 1) := by decide +kernel
theorem dX7_place_34 : decode cX7_place 34 = .ok (.aload_n 1, 1) := by decide +kernel
theorem dX7_place_35 : decode cX7_place 35 = .ok (.getfield 50, 3) := by decide +kernel
theorem dX7_place_38 : decode cX7_place 38 = .ok (.invokevirtual 55, 3) := by decide +kernel
theorem dX7_place_41 : decode cX7_place 41 = .ok (.return_, 1) := by decide +kernel
theorem dX7_place_42 : decode cX7_place 42 = .ok (.aload_n 0, 1) := by decide +kernel
theorem dX7_place_43 : decode cX7_place 43 = .ok (.aload_n 1, 1) := by decide +kernel
theorem dX7_place_44 : decode cX7_place 44 = .ok (.iload_n 2, 1) := by decide +kernel
theorem dX7_place_45 : decode cX7_place 45 = .ok (.iconst 1, 1) := by decide +kernel
theorem dX7_place_46 : decode cX7_place 46 = .ok (.iadd, 1) := by decide +kernel
theorem dX7_place_47 : decode cX7_place 47 = .ok (.iload_n 3, 1) := by decide +kernel
theorem dX7_place_48 : decode cX7_place 48 = .ok (.iload 4, 2) := by decide +kernel
theorem dX7_place_50 : decode cX7_place 50 = .ok (.iload 5, 2) := by decide +kernel
theorem dX7_place_52 : decode cX7_place 52 = .ok (.invokestatic 42, 3) := by decide +kernel
theorem dX7_place_55 : decode cX7_place 55 = .ok (.aload_n 1, 1) := by decide +kernel
theorem dX7_place_56 : decode cX7_place 56 = .ok (.iload_n 2, 1) := by decide +kernel
theorem dX7_place_57 : decode cX7_place 57 = .ok (.invokevirtual 59, 3) := by decide +kernel
theorem dX7_place_60 : decode cX7_place 60 = .ok (.ifCond .ne 4, 3) := by decide +kernel
theorem dX7_place_63 : decode cX7_place 63 = .ok (.return_, 1) := by decide +kernel
theorem dX7_place_64 : decode cX7_place 64 = .ok (.aload_n 0, 1) := by decide +kernel
theorem dX7_place_65 : decode cX7_place 65 = .ok (.getfield 32, 3) := by decide +kernel
theorem dX7_place_68 : decode cX7_place 68 = .ok (.iconst 3, 1) := by decide +kernel
theorem dX7_place_69 : decode cX7_place 69 = .ok (.iadd, 1) := by decide +kernel
theorem dX7_place_70 : decode cX7_place 70 = .ok (.aload_n 1, 1) := by decide +kernel
theorem dX7_place_71 : decode cX7_place 71 = .ok (.invokevirtual 63, 3) := by decide +kernel
theorem dX7_place_74 : decode cX7_place 74 = .ok (.invokestatic 67, 3) := by decide +kernel
theorem dX7_place_77 : decode cX7_place 77 = .ok (.istore 6, 2) := by decide +kernel
theorem dX7_place_79 : decode cX7_place 79 = .ok (.iconst 0, 1) := by decide +kernel
theorem dX7_place_80 : decode cX7_place 80 = .ok (.istore 7, 2) := by decide +kernel
theorem dX7_place_82 : decode cX7_place 82 = .ok (.iload 7, 2) := by decide +kernel
theorem dX7_place_84 : decode cX7_place 84 = .ok (.iload 6, 2) := by decide +kernel
theorem dX7_place_86 : decode cX7_place 86 = .ok (.if_icmp .gt 105, 3) := by decide +kernel
theorem dX7_place_89 : decode cX7_place 89 = .ok (.iload 7, 2) := by decide +kernel
theorem dX7_place_91 : decode cX7_place 91 = .ok (.ifCond .le 16, 3) := by decide +kernel
theorem dX7_place_94 : decode cX7_place 94 = .ok (.iload 7, 2) := by decide +kernel
theorem dX7_place_96 : decode cX7_place 96 = .ok (.aload_n 0, 1) := by decide +kernel
theorem dX7_place_97 : decode cX7_place 97 = .ok (.getfield 32, 3) := by decide +kernel
theorem dX7_place_100 : decode cX7_place 100 = .ok (.if_icmp .ge 7, 3) := by decide +kernel
theorem dX7_place_103 : decode cX7_place 103 = .ok (.iconst 1, 1) := by decide +kernel
theorem dX7_place_104 : decode cX7_place 104 = .ok (.goto 4, 3) := by decide +kernel
theorem dX7_place_107 : decode cX7_place 107 = .ok (.iconst 0, 1) := by decide +kernel
theorem dX7_place_108 : decode cX7_place 108 = .ok (.istore 8, 2) := by decide +kernel
theorem dX7_place_110 : decode cX7_place 110 = .ok (.aload_n 1, 1) := by decide +kernel
theorem dX7_place_111 : decode cX7_place 111 = .ok (.iload_n 2, 1) := by decide +kernel
theorem dX7_place_112 : decode cX7_place 112 = .ok (.iload 7, 2) := by decide +kernel
theorem dX7_place_114 : decode cX7_place 114 = .ok (.invokevirtual 72, 3) := by decide +kernel
theorem dX7_place_117 : decode cX7_place 117 = .ok (.istore 9, 2) := by decide +kernel
theorem dX7_place_119 : decode cX7_place 119 = .ok (.iconst 1, 1) := by decide +kernel
theorem dX7_place_120 : decode cX7_place 120 = .ok (.iload 9, 2) := by decide +kernel
theorem dX7_place_122 : decode cX7_place 122 = .ok (.bipush 12, 2) := by decide +kernel
theorem dX7_place_124 : decode cX7_place 124 = .ok (.irem, 1) := by decide +kernel
theorem dX7_place_125 : decode cX7_place 125 = .ok (.ishl, 1) := by decide +kernel
theorem dX7_place_126 : decode cX7_place 126 = .ok (.istore 10, 2) := by decide +kernel
theorem dX7_place_128 : decode cX7_place 128 = .ok (.iload 8, 2) := by decide +kernel
theorem dX7_place_130 : decode cX7_place 130 = .ok (.ifCond .ne 55, 3) := by decide +kernel
theorem dX7_place_133 : decode cX7_place 133 = .ok (.aload_n 0, 1) := by decide +kernel
theorem dX7_place_134 : decode cX7_place 134 = .ok (.getfield 26, 3) := by decide +kernel
theorem dX7_place_137 : decode cX7_place 137 = .ok (.iload 10, 2) := by decide +kernel
theorem dX7_place_139 : decode cX7_place 139 = .ok (.iand, 1) := by decide +kernel
theorem dX7_place_140 : decode cX7_place 140 = .ok (.ifCond .eq 45, 3) := by decide +kernel
theorem dX7_place_143 : decode cX7_place 143 = .ok (.iload 5, 2) := by decide +kernel
theorem dX7_place_145 : decode cX7_place 145 = .ok (.iconst (-1), 1) := by decide +kernel
theorem dX7_place_146 : decode cX7_place 146 = .ok (.if_icmp .ne 8, 3) := by decide +kernel
theorem dX7_place_149 : decode cX7_place 149 = .ok (.iload 9, 2) := by decide +kernel
theorem dX7_place_151 : decode cX7_place 151 = .ok (.goto 10, 3) := by decide +kernel
theorem dX7_place_154 : decode cX7_place 154 = .ok (.iload 5, 2) := by decide +kernel
theorem dX7_place_156 : decode cX7_place 156 = .ok (.iload 9, 2) := by decide +kernel
theorem dX7_place_158 : decode cX7_place 158 = .ok (.invokestatic 67, 3) := by decide +kernel
theorem dX7_place_161 : decode cX7_place 161 = .ok (.istore 11, 2) := by decide +kernel
theorem dX7_place_163 : decode cX7_place 163 = .ok (.aload_n 0, 1) := by decide +kernel
theorem dX7_place_164 : decode cX7_place 164 = .ok (.aload_n 1, 1) := by decide +kernel
theorem dX7_place_165 : decode cX7_place 165 = .ok (.iload_n 2, 1) := by decide +kernel
theorem dX7_place_166 : decode cX7_place 166 = .ok (.iconst 1, 1) := by decide +kernel
theorem dX7_place_167 : decode cX7_place 167 = .ok (.iadd, 1) := by decide +kernel
theorem dX7_place_168 : decode cX7_place 168 = .ok (.iload_n 3, 1) := by decide +kernel
theorem dX7_place_169 : decode cX7_place 169 = .ok (.iload_n 2, 1) := by decide +kernel
theorem dX7_place_170 : decode cX7_place 170 = .ok (.iload 7, 2) := by decide +kernel
theorem dX7_place_172 : decode cX7_place 172 = .ok (.invokestatic 75, 3) := by decide +kernel
theorem dX7_place_175 : decode cX7_place 175 = .ok (.iload 4, 2) := by decide +kernel
theorem dX7_place_177 : decode cX7_place 177 = .ok (.iload 10, 2) := by decide +kernel
theorem dX7_place_179 : decode cX7_place 179 = .ok (.ior, 1) := by decide +kernel
theorem dX7_place_180 : decode cX7_place 180 = .ok (.iload 11, 2) := by decide +kernel
theorem dX7_place_182 : decode cX7_place 182 = .ok (.invokestatic 42, 3) := by decide +kernel
theorem dX7_place_185 : decode cX7_place 185 = .ok (.iinc 7 1, 3) := by decide +kernel
theorem dX7_place_188 : decode cX7_place 188 = .ok (.goto (-106), 3) := by decide +kernel
theorem dX7_place_191 : decode cX7_place 191 = .ok (.return_, 1) := by decide +kernel
theorem dX7_offer_0 : decode cX7_offer 0 = .ok (.aload_n 0, 1) := by decide +kernel
theorem dX7_offer_1 : decode cX7_offer 1 = .ok (.getfield 38, 3) := by decide +kernel
theorem dX7_offer_4 : decode cX7_offer 4 = .ok (.iload_n 1, 1) := by decide +kernel
theorem dX7_offer_5 : decode cX7_offer 5 = .ok (.invokevirtual 79, 3) := by decide +kernel
theorem dX7_offer_8 : decode cX7_offer 8 = .ok (.aload_n 0, 1) := by decide +kernel
theorem dX7_offer_9 : decode cX7_offer 9 = .ok (.getfield 38, 3) := by decide +kernel
theorem dX7_offer_12 : decode cX7_offer 12 = .ok (.iload_n 2, 1) := by decide +kernel
theorem dX7_offer_13 : decode cX7_offer 13 = .ok (.invokevirtual 83, 3) := by decide +kernel
theorem dX7_offer_16 : decode cX7_offer 16 = .ok (.ifCond .ne 4, 3) := by decide +kernel
theorem dX7_offer_19 : decode cX7_offer 19 = .ok (.return_, 1) := by decide +kernel
theorem dX7_offer_20 : decode cX7_offer 20 = .ok (.aload_n 0, 1) := by decide +kernel
theorem dX7_offer_21 : decode cX7_offer 21 = .ok (.dup, 1) := by decide +kernel
theorem dX7_offer_22 : decode cX7_offer 22 = .ok (.getfield 9, 3) := by decide +kernel
theorem dX7_offer_25 : decode cX7_offer 25 = .ok (.iconst 1, 1) := by decide +kernel
theorem dX7_offer_26 : decode cX7_offer 26 = .ok (.iadd, 1) := by decide +kernel
theorem dX7_offer_27 : decode cX7_offer 27 = .ok (.putfield 9, 3) := by decide +kernel
theorem dX7_offer_30 : decode cX7_offer 30 = .ok (.aload_n 0, 1) := by decide +kernel
theorem dX7_offer_31 : decode cX7_offer 31 = .ok (.getfield 15, 3) := by decide +kernel
theorem dX7_offer_34 : decode cX7_offer 34 = .ok (.iconst (-1), 1) := by decide +kernel
theorem dX7_offer_35 : decode cX7_offer 35 = .ok (.if_icmp .eq 18, 3) := by decide +kernel
theorem dX7_offer_38 : decode cX7_offer 38 = .ok (.aload_n 0, 1) := by decide +kernel
theorem dX7_offer_39 : decode cX7_offer 39 = .ok (.iload_n 1, 1) := by decide +kernel
theorem dX7_offer_40 : decode cX7_offer 40 = .ok (.aload_n 0, 1) := by decide +kernel
theorem dX7_offer_41 : decode cX7_offer 41 = .ok (.getfield 38, 3) := by decide +kernel
theorem dX7_offer_44 : decode cX7_offer 44 = .ok (.invokevirtual 86, 3) := by decide +kernel
theorem dX7_offer_47 : decode cX7_offer 47 = .ok (.invokevirtual 89, 3) := by decide +kernel
theorem dX7_offer_50 : decode cX7_offer 50 = .ok (.ifCond .eq 30, 3) := by decide +kernel
theorem dX7_offer_53 : decode cX7_offer 53 = .ok (.aload_n 0, 1) := by decide +kernel
theorem dX7_offer_54 : decode cX7_offer 54 = .ok (.aload_n 0, 1) := by decide +kernel
theorem dX7_offer_55 : decode cX7_offer 55 = .ok (.getfield 38, 3) := by decide +kernel
theorem dX7_offer_58 : decode cX7_offer 58 = .ok (.invokevirtual 86, 3) := by decide +kernel
theorem dX7_offer_61 : decode cX7_offer 61 = .ok (.putfield 15, 3) := by decide +kernel
theorem dX7_offer_64 : decode cX7_offer 64 = .ok (.aload_n 0, 1) := by decide +kernel
theorem dX7_offer_65 : decode cX7_offer 65 = .ok (.aload_n 0, 1) := by decide +kernel
theorem dX7_offer_66 : decode cX7_offer 66 = .ok (.getfield 38, 3) := by decide +kernel
theorem dX7_offer_69 : decode cX7_offer 69 = .ok (.getfield 93, 3) := by decide +kernel
theorem dX7_offer_72 : decode cX7_offer 72 = .ok (.putfield 18, 3) := by decide +kernel
theorem dX7_offer_75 : decode cX7_offer 75 = .ok (.aload_n 0, 1) := by decide +kernel
theorem dX7_offer_76 : decode cX7_offer 76 = .ok (.iload_n 1, 1) := by decide +kernel
theorem dX7_offer_77 : decode cX7_offer 77 = .ok (.putfield 23, 3) := by decide +kernel
theorem dX7_offer_80 : decode cX7_offer 80 = .ok (.return_, 1) := by decide +kernel
theorem dX7_isBetter_0 : decode cX7_isBetter 0 = .ok (.iload_n 2, 1) := by decide +kernel
theorem dX7_isBetter_1 : decode cX7_isBetter 1 = .ok (.aload_n 0, 1) := by decide +kernel
theorem dX7_isBetter_2 : decode cX7_isBetter 2 = .ok (.getfield 15, 3) := by decide +kernel
theorem dX7_isBetter_5 : decode cX7_isBetter 5 = .ok (.if_icmp .eq 17, 3) := by decide +kernel
theorem dX7_isBetter_8 : decode cX7_isBetter 8 = .ok (.iload_n 2, 1) := by decide +kernel
theorem dX7_isBetter_9 : decode cX7_isBetter 9 = .ok (.aload_n 0, 1) := by decide +kernel
theorem dX7_isBetter_10 : decode cX7_isBetter 10 = .ok (.getfield 15, 3) := by decide +kernel
theorem dX7_isBetter_13 : decode cX7_isBetter 13 = .ok (.if_icmp .ge 7, 3) := by decide +kernel
theorem dX7_isBetter_16 : decode cX7_isBetter 16 = .ok (.iconst 1, 1) := by decide +kernel
theorem dX7_isBetter_17 : decode cX7_isBetter 17 = .ok (.goto 4, 3) := by decide +kernel
theorem dX7_isBetter_20 : decode cX7_isBetter 20 = .ok (.iconst 0, 1) := by decide +kernel
theorem dX7_isBetter_21 : decode cX7_isBetter 21 = .ok (.ireturn, 1) := by decide +kernel
theorem dX7_isBetter_22 : decode cX7_isBetter 22 = .ok (.aload_n 0, 1) := by decide +kernel
theorem dX7_isBetter_23 : decode cX7_isBetter 23 = .ok (.getfield 38, 3) := by decide +kernel
theorem dX7_isBetter_26 : decode cX7_isBetter 26 = .ok (.getfield 93, 3) := by decide +kernel
theorem dX7_isBetter_29 : decode cX7_isBetter 29 = .ok (.aload_n 0, 1) := by decide +kernel
theorem dX7_isBetter_30 : decode cX7_isBetter 30 = .ok (.getfield 18, 3) := by decide +kernel
theorem dX7_isBetter_33 : decode cX7_isBetter 33 = .ok (.if_icmp .eq 23, 3) := by decide +kernel
theorem dX7_isBetter_36 : decode cX7_isBetter 36 = .ok (.aload_n 0, 1) := by decide +kernel
theorem dX7_isBetter_37 : decode cX7_isBetter 37 = .ok (.getfield 38, 3) := by decide +kernel
theorem dX7_isBetter_40 : decode cX7_isBetter 40 = .ok (.getfield 93, 3) := by decide +kernel
theorem dX7_isBetter_43 : decode cX7_isBetter 43 = .ok (.aload_n 0, 1) := by decide +kernel
theorem dX7_isBetter_44 : decode cX7_isBetter 44 = .ok (.getfield 18, 3) := by decide +kernel
theorem dX7_isBetter_47 : decode cX7_isBetter 47 = .ok (.if_icmp .le 7, 3) := by decide +kernel
theorem dX7_isBetter_50 : decode cX7_isBetter 50 = .ok (.iconst 1, 1) := by decide +kernel
theorem dX7_isBetter_51 : decode cX7_isBetter 51 = .ok (.goto 4, 3) := by decide +kernel
theorem dX7_isBetter_54 : decode cX7_isBetter 54 = .ok (.iconst 0, 1) := by decide +kernel
theorem dX7_isBetter_55 : decode cX7_isBetter 55 = .ok (.ireturn, 1) := by decide +kernel
theorem dX7_isBetter_56 : decode cX7_isBetter 56 = .ok (.iload_n 1, 1) := by decide +kernel
theorem dX7_isBetter_57 : decode cX7_isBetter 57 = .ok (.aload_n 0, 1) := by decide +kernel
theorem dX7_isBetter_58 : decode cX7_isBetter 58 = .ok (.getfield 23, 3) := by decide +kernel
theorem dX7_isBetter_61 : decode cX7_isBetter 61 = .ok (.if_icmp .ge 7, 3) := by decide +kernel
theorem dX7_isBetter_64 : decode cX7_isBetter 64 = .ok (.iconst 1, 1) := by decide +kernel
theorem dX7_isBetter_65 : decode cX7_isBetter 65 = .ok (.goto 4, 3) := by decide +kernel
theorem dX7_isBetter_68 : decode cX7_isBetter 68 = .ok (.iconst 0, 1) := by decide +kernel
theorem dX7_isBetter_69 : decode cX7_isBetter 69 = .ok (.ireturn, 1) := by decide +kernel
theorem dX8_init_0 : decode cX8_init 0 = .ok (.aload_n 0, 1) := by decide +kernel
theorem dX8_init_1 : decode cX8_init 1 = .ok (.invokespecial 1, 3) := by decide +kernel
theorem dX8_init_4 : decode cX8_init 4 = .ok (.aload_n 0, 1) := by decide +kernel
theorem dX8_init_5 : decode cX8_init 5 = .ok (.new 7, 3) := by decide +kernel
theorem dX8_init_8 : decode cX8_init 8 = .ok (.dup, 1) := by decide +kernel
theorem dX8_init_9 : decode cX8_init 9 = .ok (.invokespecial 9, 3) := by decide +kernel
theorem dX8_init_12 : decode cX8_init 12 = .ok (.putfield 10, 3) := by decide +kernel
theorem dX8_init_15 : decode cX8_init 15 = .ok (.aload_n 0, 1) := by decide +kernel
theorem dX8_init_16 : decode cX8_init 16 = .ok (.new 7, 3) := by decide +kernel
theorem dX8_init_19 : decode cX8_init 19 = .ok (.dup, 1) := by decide +kernel
theorem dX8_init_20 : decode cX8_init 20 = .ok (.invokespecial 9, 3) := by decide +kernel
theorem dX8_init_23 : decode cX8_init 23 = .ok (.putfield 16, 3) := by decide +kernel
theorem dX8_init_26 : decode cX8_init 26 = .ok (.aload_n 0, 1) := by decide +kernel
theorem dX8_init_27 : decode cX8_init 27 = .ok (.new 19, 3) := by decide +kernel
theorem dX8_init_30 : decode cX8_init 30 = .ok (.dup, 1) := by decide +kernel
theorem dX8_init_31 : decode cX8_init 31 = .ok (.invokespecial 21, 3) := by decide +kernel
theorem dX8_init_34 : decode cX8_init 34 = .ok (.putfield 22, 3) := by decide +kernel
theorem dX8_init_37 : decode cX8_init 37 = .ok (.aload_n 0, 1) := by decide +kernel
theorem dX8_init_38 : decode cX8_init 38 = .ok (.new 26, 3) := by decide +kernel
theorem dX8_init_41 : decode cX8_init 41 = .ok (.dup, 1) := by decide +kernel
theorem dX8_init_42 : decode cX8_init 42 = .ok (.invokespecial 28, 3) := by decide +kernel
theorem dX8_init_45 : decode cX8_init 45 = .ok (.putfield 29, 3) := by decide +kernel
theorem dX8_init_48 : decode cX8_init 48 = .ok (.aload_n 0, 1) := by decide +kernel
theorem dX8_init_49 : decode cX8_init 49 = .ok (.new 26, 3) := by decide +kernel
theorem dX8_init_52 : decode cX8_init 52 = .ok (.dup, 1) := by decide +kernel
theorem dX8_init_53 : decode cX8_init 53 = .ok (.invokespecial 28, 3) := by decide +kernel
theorem dX8_init_56 : decode cX8_init 56 = .ok (.putfield 33, 3) := by decide +kernel
theorem dX8_init_59 : decode cX8_init 59 = .ok (.aload_n 0, 1) := by decide +kernel
theorem dX8_init_60 : decode cX8_init 60 = .ok (.new 36, 3) := by decide +kernel
theorem dX8_init_63 : decode cX8_init 63 = .ok (.dup, 1) := by decide +kernel
theorem dX8_init_64 : decode cX8_init 64 = .ok (.invokespecial 38, 3) := by decide +kernel
theorem dX8_init_67 : decode cX8_init 67 = .ok (.putfield 39, 3) := by decide +kernel
theorem dX8_init_70 : decode cX8_init 70 = .ok (.aload_n 0, 1) := by decide +kernel
theorem dX8_init_71 : decode cX8_init 71 = .ok (.new 43, 3) := by decide +kernel
theorem dX8_init_74 : decode cX8_init 74 = .ok (.dup, 1) := by decide +kernel
theorem dX8_init_75 : decode cX8_init 75 = .ok (.invokespecial 45, 3) := by decide +kernel
theorem dX8_init_78 : decode cX8_init 78 = .ok (.putfield 46, 3) := by decide +kernel
theorem dX8_init_81 : decode cX8_init 81 = .ok (.aload_n 0, 1) := by decide +kernel
theorem dX8_init_82 : decode cX8_init 82 = .ok (.iconst 1, 1) := by decide +kernel
theorem dX8_init_83 : decode cX8_init 83 = .ok (.putfield 50, 3) := by decide +kernel
theorem dX8_init_86 : decode cX8_init 86 = .ok (.return_, 1) := by decide +kernel
theorem dX8_string_0 : decode cX8_string 0 = .ok (.iload_n 1, 1) := by decide +kernel
theorem dX8_string_1 : decode cX8_string 1 = .ok (.invokestatic 54, 3) := by decide +kernel
theorem dX8_string_4 : decode cX8_string 4 = .ok (.aload_n 0, 1) := by decide +kernel
theorem dX8_string_5 : decode cX8_string 5 = .ok (.getfield 10, 3) := by decide +kernel
theorem dX8_string_8 : decode cX8_string 8 = .ok (.getfield 58, 3) := by decide +kernel
theorem dX8_string_11 : decode cX8_string 11 = .ok (.bipush 6, 2) := by decide +kernel
theorem dX8_string_13 : decode cX8_string 13 = .ok (.if_icmp .lt 13, 3) := by decide +kernel
theorem dX8_string_16 : decode cX8_string 16 = .ok (.new 62, 3) := by decide +kernel
theorem dX8_string_19 : decode cX8_string 19 = .ok (.dup, 1) := by decide +kernel
theorem dX8_string_20 : decode cX8_string 20 = .ok (.ldc 64, 2) := by decide +kernel
theorem dX8_string_22 : decode cX8_string 22 = .ok (.invokespecial 66, 3) := by decide +kernel
theorem dX8_string_25 : decode cX8_string 25 = .ok (.athrow, 1) := by decide +kernel
theorem dX8_string_26 : decode cX8_string 26 = .ok (.aload_n 0, 1) := by decide +kernel
theorem dX8_string_27 : decode cX8_string 27 = .ok (.getfield 10, 3) := by decide +kernel
theorem dX8_string_30 : decode cX8_string 30 = .ok (.iload_n 1, 1) := by decide +kernel
theorem dX8_string_31 : decode cX8_string 31 = .ok (.invokevirtual 69, 3) := by decide +kernel
theorem dX8_string_34 : decode cX8_string 34 = .ok (.istore_n 2, 1) := by decide +kernel
theorem dX8_string_35 : decode cX8_string 35 = .ok (.aload_n 0, 1) := by decide +kernel
theorem dX8_string_36 : decode cX8_string 36 = .ok (.invokevirtual 73, 3) := by decide +kernel
theorem dX8_string_39 : decode cX8_string 39 = .ok (.iload_n 2, 1) := by decide +kernel
theorem dX8_string_40 : decode cX8_string 40 = .ok (.ireturn, 1) := by decide +kernel
theorem dX8_tune_0 : decode cX8_tune 0 = .ok (.aload_n 0, 1) := by decide +kernel
theorem dX8_tune_1 : decode cX8_tune 1 = .ok (.iload_n 1, 1) := by decide +kernel
theorem dX8_tune_2 : decode cX8_tune 2 = .ok (.invokevirtual 76, 3) := by decide +kernel
theorem dX8_tune_5 : decode cX8_tune 5 = .ok (.iload_n 2, 1) := by decide +kernel
theorem dX8_tune_6 : decode cX8_tune 6 = .ok (.invokestatic 54, 3) := by decide +kernel
theorem dX8_tune_9 : decode cX8_tune 9 = .ok (.aload_n 0, 1) := by decide +kernel
theorem dX8_tune_10 : decode cX8_tune 10 = .ok (.getfield 10, 3) := by decide +kernel
theorem dX8_tune_13 : decode cX8_tune 13 = .ok (.getfield 79, 3) := by decide +kernel
theorem dX8_tune_16 : decode cX8_tune 16 = .ok (.iload_n 1, 1) := by decide +kernel
theorem dX8_tune_17 : decode cX8_tune 17 = .ok (.iaload, 1) := by decide +kernel
theorem dX8_tune_18 : decode cX8_tune 18 = .ok (.istore_n 3, 1) := by decide +kernel
theorem dX8_tune_19 : decode cX8_tune 19 = .ok (.aload_n 0, 1) := by decide +kernel
theorem dX8_tune_20 : decode cX8_tune 20 = .ok (.getfield 10, 3) := by decide +kernel
theorem dX8_tune_23 : decode cX8_tune 23 = .ok (.getfield 79, 3) := by decide +kernel
theorem dX8_tune_26 : decode cX8_tune 26 = .ok (.iload_n 1, 1) := by decide +kernel
theorem dX8_tune_27 : decode cX8_tune 27 = .ok (.iload_n 2, 1) := by decide +kernel
theorem dX8_tune_28 : decode cX8_tune 28 = .ok (.iastore, 1) := by decide +kernel
theorem dX8_tune_29 : decode cX8_tune 29 = .ok (.aload_n 0, 1) := by decide +kernel
theorem dX8_tune_30 : decode cX8_tune 30 = .ok (.invokevirtual 73, 3) := by decide +kernel
theorem dX8_tune_33 : decode cX8_tune 33 = .ok (.iload_n 3, 1) := by decide +kernel
theorem dX8_tune_34 : decode cX8_tune 34 = .ok (.ireturn, 1) := by decide +kernel
theorem dX8_slacken_0 : decode cX8_slacken 0 = .ok (.aload_n 0, 1) := by decide +kernel
theorem dX8_slacken_1 : decode cX8_slacken 1 = .ok (.iload_n 1, 1) := by decide +kernel
theorem dX8_slacken_2 : decode cX8_slacken 2 = .ok (.invokevirtual 76, 3) := by decide +kernel
theorem dX8_slacken_5 : decode cX8_slacken 5 = .ok (.aload_n 0, 1) := by decide +kernel
theorem dX8_slacken_6 : decode cX8_slacken 6 = .ok (.getfield 10, 3) := by decide +kernel
theorem dX8_slacken_9 : decode cX8_slacken 9 = .ok (.getfield 83, 3) := by decide +kernel
theorem dX8_slacken_12 : decode cX8_slacken 12 = .ok (.iload_n 1, 1) := by decide +kernel
theorem dX8_slacken_13 : decode cX8_slacken 13 = .ok (.iload_n 2, 1) := by decide +kernel
theorem dX8_slacken_14 : decode cX8_slacken 14 = .ok (.bastore, 1) := by decide +kernel
theorem dX8_slacken_15 : decode cX8_slacken 15 = .ok (.aload_n 0, 1) := by decide +kernel
theorem dX8_slacken_16 : decode cX8_slacken 16 = .ok (.invokevirtual 73, 3) := by decide +kernel
theorem dX8_slacken_19 : decode cX8_slacken 19 = .ok (.aload_n 0, 1) := by decide +kernel
theorem dX8_slacken_20 : decode cX8_slacken 20 = .ok (.getfield 10, 3) := by decide +kernel
theorem dX8_slacken_23 : decode cX8_slacken 23 = .ok (.getfield 58, 3) := by decide +kernel
theorem dX8_slacken_26 : decode cX8_slacken 26 = .ok (.aload_n 0, 1) := by decide +kernel
theorem dX8_slacken_27 : decode cX8_slacken 27 = .ok (.getfield 10, 3) := by decide +kernel
theorem dX8_slacken_30 : decode cX8_slacken 30 = .ok (.invokevirtual 87, 3) := by decide +kernel
theorem dX8_slacken_33 : decode cX8_slacken 33 = .ok (.isub, 1) := by decide +kernel
theorem dX8_slacken_34 : decode cX8_slacken 34 = .ok (.ireturn, 1) := by decide +kernel
theorem dX8_capo_0 : decode cX8_capo 0 = .ok (.iload_n 1, 1) := by decide +kernel
theorem dX8_capo_1 : decode cX8_capo 1 = .ok (.invokestatic 91, 3) := by decide +kernel
theorem dX8_capo_4 : decode cX8_capo 4 = .ok (.aload_n 0, 1) := by decide +kernel
theorem dX8_capo_5 : decode cX8_capo 5 = .ok (.getfield 10, 3) := by decide +kernel
theorem dX8_capo_8 : decode cX8_capo 8 = .ok (.getfield 94, 3) := by decide +kernel
theorem dX8_capo_11 : decode cX8_capo 11 = .ok (.istore_n 2, 1) := by decide +kernel
theorem dX8_capo_12 : decode cX8_capo 12 = .ok (.aload_n 0, 1) := by decide +kernel
theorem dX8_capo_13 : decode cX8_capo 13 = .ok (.getfield 10, 3) := by decide +kernel
theorem dX8_capo_16 : decode cX8_capo 16 = .ok (.iload_n 1, 1) := by decide +kernel
theorem dX8_capo_17 : decode cX8_capo 17 = .ok (.putfield 94, 3) := by decide +kernel
theorem dX8_capo_20 : decode cX8_capo 20 = .ok (.aload_n 0, 1) := by decide +kernel
theorem dX8_capo_21 : decode cX8_capo 21 = .ok (.invokevirtual 73, 3) := by decide +kernel
theorem dX8_capo_24 : decode cX8_capo 24 = .ok (.iload_n 2, 1) := by decide +kernel
theorem dX8_capo_25 : decode cX8_capo 25 = .ok (.ireturn, 1) := by decide +kernel
theorem dX8_reach_0 : decode cX8_reach 0 = .ok (.iload_n 1, 1) := by decide +kernel
theorem dX8_reach_1 : decode cX8_reach 1 = .ok (.invokestatic 97, 3) := by decide +kernel
theorem dX8_reach_4 : decode cX8_reach 4 = .ok (.aload_n 0, 1) := by decide +kernel
theorem dX8_reach_5 : decode cX8_reach 5 = .ok (.getfield 10, 3) := by decide +kernel
theorem dX8_reach_8 : decode cX8_reach 8 = .ok (.getfield 100, 3) := by decide +kernel
theorem dX8_reach_11 : decode cX8_reach 11 = .ok (.istore_n 2, 1) := by decide +kernel
theorem dX8_reach_12 : decode cX8_reach 12 = .ok (.aload_n 0, 1) := by decide +kernel
theorem dX8_reach_13 : decode cX8_reach 13 = .ok (.getfield 10, 3) := by decide +kernel
theorem dX8_reach_16 : decode cX8_reach 16 = .ok (.iload_n 1, 1) := by decide +kernel
theorem dX8_reach_17 : decode cX8_reach 17 = .ok (.putfield 100, 3) := by decide +kernel
theorem dX8_reach_20 : decode cX8_reach 20 = .ok (.aload_n 0, 1) := by decide +kernel
theorem dX8_reach_21 : decode cX8_reach 21 = .ok (.invokevirtual 73, 3) := by decide +kernel
theorem dX8_reach_24 : decode cX8_reach 24 = .ok (.iload_n 2, 1) := by decide +kernel
theorem dX8_reach_25 : decode cX8_reach 25 = .ok (.ireturn, 1) := by decide +kernel
theorem dX8_fretOf_0 : decode cX8_fretOf 0 = .ok (.aload_n 0, 1) := by decide +kernel
theorem dX8_fretOf_1 : decode cX8_fretOf 1 = .ok (.iload_n 1, 1) := by decide +kernel
theorem dX8_fretOf_2 : decode cX8_fretOf 2 = .ok (.invokevirtual 76, 3) := by decide +kernel
theorem dX8_fretOf_5 : decode cX8_fretOf 5 = .ok (.iload_n 2, 1) := by decide +kernel
theorem dX8_fretOf_6 : decode cX8_fretOf 6 = .ok (.invokestatic 103, 3) := by decide +kernel
theorem dX8_fretOf_9 : decode cX8_fretOf 9 = .ok (.ifCond .ne 13, 3) := by decide +kernel
theorem dX8_fretOf_12 : decode cX8_fretOf 12 = .ok (.new 107, 3) := by decide +kernel
theorem dX8_fretOf_15 : decode cX8_fretOf 15 = .ok (.dup, 1) := by decide +kernel
theorem dX8_fretOf_16 : decode cX8_fretOf 16 = .ok (.ldc 109, 2) := by decide +kernel
theorem dX8_fretOf_18 : decode cX8_fretOf 18 = .ok (.invokespecial 111, 3) := by decide +kernel
theorem dX8_fretOf_21 : decode cX8_fretOf 21 = .ok (.athrow, 1) := by decide +kernel
theorem dX8_fretOf_22 : decode cX8_fretOf 22 = .ok (.aload_n 0, 1) := by decide +kernel
theorem dX8_fretOf_23 : decode cX8_fretOf 23 = .ok (.getfield 10, 3) := by decide +kernel
theorem dX8_fretOf_26 : decode cX8_fretOf 26 = .ok (.iload_n 1, 1) := by decide +kernel
theorem dX8_fretOf_27 : decode cX8_fretOf 27 = .ok (.iload_n 2, 1) := by decide +kernel
theorem dX8_fretOf_28 : decode cX8_fretOf 28 = .ok (.invokevirtual 112, 3) := by decide +kernel
theorem dX8_fretOf_31 : decode cX8_fretOf 31 = .ok (.ireturn, 1) := by decide +kernel
theorem dX8_chord_0 : decode cX8_chord 0 = .ok (.iload_n 1, 1) := by decide +kernel
theorem dX8_chord_1 : decode cX8_chord 1 = .ok (.invokestatic 103, 3) := by decide +kernel
theorem dX8_chord_4 : decode cX8_chord 4 = .ok (.ifCond .eq 25, 3) := by decide +kernel
theorem dX8_chord_7 : decode cX8_chord 7 = .ok (.iload_n 2, 1) := by decide +kernel
theorem dX8_chord_8 : decode cX8_chord 8 = .ok (.invokestatic 116, 3) := by decide +kernel
theorem dX8_chord_11 : decode cX8_chord 11 = .ok (.ifCond .eq 18, 3) := by decide +kernel
theorem dX8_chord_14 : decode cX8_chord 14 = .ok (.iload_n 3, 1) := by decide +kernel
theorem dX8_chord_15 : decode cX8_chord 15 = .ok (.invokestatic 116, 3) := by decide +kernel
theorem dX8_chord_18 : decode cX8_chord 18 = .ok (.ifCond .eq 11, 3) := by decide +kernel
theorem dX8_chord_21 : decode cX8_chord 21 = .ok (.iload 4, 2) := by decide +kernel
theorem dX8_chord_23 : decode cX8_chord 23 = .ok (.invokestatic 116, 3) := by decide +kernel
theorem dX8_chord_26 : decode cX8_chord 26 = .ok (.ifCond .ne 13, 3) := by decide +kernel
theorem dX8_chord_29 : decode cX8_chord 29 = .ok (.new 107, 3) := by decide +kernel
theorem dX8_chord_32 : decode cX8_chord 32 = .ok (.dup, 1) := by decide +kernel
theorem dX8_chord_33 : decode cX8_chord 33 = .ok (.ldc 109, 2) := by decide +kernel
theorem dX8_chord_35 : decode cX8_chord 35 = .ok (.invokespecial 111, 3) := by decide +kernel
theorem dX8_chord_38 : decode cX8_chord 38 = .ok (.athrow, 1) := by decide +kernel
theorem dX8_chord_39 : decode cX8_chord 39 = .ok (.iload_n 1, 1) := by decide +kernel
theorem dX8_chord_40 : decode cX8_chord 40 = .ok (.iload_n 2, 1) := by decide +kernel
theorem dX8_chord_41 : decode cX8_chord 41 = .ok (.iload_n 3, 1) := by decide +kernel
theorem dX8_chord_42 : decode cX8_chord 42 = .ok (.iload 4, 2) := by decide +kernel
theorem dX8_chord_44 : decode cX8_chord 44 = .ok (.invokestatic 119, 3) := by decide +kernel
theorem dX8_chord_47 : decode cX8_chord 47 = .ok (.ifCond .eq 13, 3) := by decide +kernel
theorem dX8_chord_50 : decode cX8_chord 50 = .ok (.new 107, 3) := by decide +kernel
theorem dX8_chord_53 : decode cX8_chord 53 = .ok (.dup, 1) := by decide +kernel
theorem dX8_chord_54 : decode cX8_chord 54 = .ok (.ldc 123, 2) := by decide +kernel
theorem dX8_chord_56 : decode cX8_chord 56 = .ok (.invokespecial 111, 3) := by decide +kernel
theorem dX8_chord_59 : decode cX8_chord 59 = .ok (.athrow, 1) := by decide +kernel
theorem dX8_chord_60 : decode cX8_chord 60 = .ok (.iload 5, 2) := by decide +kernel
theorem dX8_chord_62 : decode cX8_chord 62 = .ok (.iconst 1, 1) := by decide +kernel
theorem dX8_chord_63 : decode cX8_chord 63 = .ok (.if_icmp .lt 10, 3) := by decide +kernel
theorem dX8_chord_66 : decode cX8_chord 66 = .ok (.iload 5, 2) := by decide +kernel
theorem dX8_chord_68 : decode cX8_chord 68 = .ok (.bipush 8, 2) := by decide +kernel
theorem dX8_chord_70 : decode cX8_chord 70 = .ok (.if_icmp .le 13, 3) := by decide +kernel
theorem dX8_chord_73 : decode cX8_chord 73 = .ok (.new 107, 3) := by decide +kernel
theorem dX8_chord_76 : decode cX8_chord 76 = .ok (.dup, 1) := by decide +kernel
theorem dX8_chord_77 : decode cX8_chord 77 = .ok (.ldc 125, 2) := by decide +kernel
theorem dX8_chord_79 : decode cX8_chord 79 = .ok (.invokespecial 111, 3) := by decide +kernel
theorem dX8_chord_82 : decode cX8_chord 82 = .ok (.athrow, 1) := by decide +kernel
theorem dX8_chord_83 : decode cX8_chord 83 = .ok (.aload_n 0, 1) := by decide +kernel
theorem dX8_chord_84 : decode cX8_chord 84 = .ok (.getfield 22, 3) := by decide +kernel
theorem dX8_chord_87 : decode cX8_chord 87 = .ok (.getfield 127, 3) := by decide +kernel
theorem dX8_chord_90 : decode cX8_chord 90 = .ok (.bipush 12, 2) := by decide +kernel
theorem dX8_chord_92 : decode cX8_chord 92 = .ok (.if_icmp .lt 13, 3) := by decide +kernel
theorem dX8_chord_95 : decode cX8_chord 95 = .ok (.new 62, 3) := by decide +kernel
theorem dX8_chord_98 : decode cX8_chord 98 = .ok (.dup, 1) := by decide +kernel
theorem dX8_chord_99 : decode cX8_chord 99 = .ok (.ldc 128, 2) := by decide +kernel
theorem dX8_chord_101 : decode cX8_chord 101 = .ok (.invokespecial 66, 3) := by decide +kernel
theorem dX8_chord_104 : decode cX8_chord 104 = .ok (.athrow, 1) := by decide +kernel
theorem dX8_chord_105 : decode cX8_chord 105 = .ok (.aload_n 0, 1) := by decide +kernel
theorem dX8_chord_106 : decode cX8_chord 106 = .ok (.getfield 22, 3) := by decide +kernel
theorem dX8_chord_109 : decode cX8_chord 109 = .ok (.iload 5, 2) := by decide +kernel
theorem dX8_chord_111 : decode cX8_chord 111 = .ok (.invokevirtual 130, 3) := by decide +kernel
theorem dX8_chord_114 : decode cX8_chord 114 = .ok (.astore 6, 2) := by decide +kernel
theorem dX8_chord_116 : decode cX8_chord 116 = .ok (.aload 6, 2) := by decide +kernel
theorem dX8_chord_118 : decode cX8_chord 118 = .ok (.iload_n 1, 1) := by decide +kernel
theorem dX8_chord_119 : decode cX8_chord 119 = .ok (.invokevirtual 134, 3) := by decide +kernel
theorem dX8_chord_122 : decode cX8_chord 122 = .ok (.aload 6, 2) := by decide +kernel
theorem dX8_chord_124 : decode cX8_chord 124 = .ok (.iload_n 2, 1) := by decide +kernel
theorem dX8_chord_125 : decode cX8_chord 125 = .ok (.invokevirtual 134, 3) := by decide +kernel
theorem dX8_chord_128 : decode cX8_chord 128 = .ok (.aload 6, 2) := by decide +kernel
theorem dX8_chord_130 : decode cX8_chord 130 = .ok (.iload_n 3, 1) := by decide +kernel
theorem dX8_chord_131 : decode cX8_chord 131 = .ok (.invokevirtual 134, 3) := by decide +kernel
theorem dX8_chord_134 : decode cX8_chord 134 = .ok (.aload 6, 2) := by decide +kernel
theorem dX8_chord_136 : decode cX8_chord 136 = .ok (.iload 4, 2) := by decide +kernel
theorem dX8_chord_138 : decode cX8_chord 138 = .ok (.invokevirtual 134, 3) := by decide +kernel
theorem dX8_chord_141 : decode cX8_chord 141 = .ok (.aload_n 0, 1) := by decide +kernel
theorem dX8_chord_142 : decode cX8_chord 142 = .ok (.iconst 1, 1) := by decide +kernel
theorem dX8_chord_143 : decode cX8_chord 143 = .ok (.putfield 50, 3) := by decide +kernel
theorem dX8_chord_146 : decode cX8_chord 146 = .ok (.aload_n 0, 1) := by decide +kernel
theorem dX8_chord_147 : decode cX8_chord 147 = .ok (.getfield 22, 3) := by decide +kernel
theorem dX8_chord_150 : decode cX8_chord 150 = .ok (.getfield 127, 3) := by decide +kernel
theorem dX8_chord_153 : decode cX8_chord 153 = .ok (.iconst 1, 1) := by decide +kernel
theorem dX8_chord_154 : decode cX8_chord 154 = .ok (.isub, 1) := by decide +kernel
theorem dX8_chord_155 : decode cX8_chord 155 = .ok (.ireturn, 1) := by decide +kernel
theorem dX8_strike_0 : decode cX8_strike 0 = .ok (.aload_n 0, 1) := by decide +kernel
theorem dX8_strike_1 : decode cX8_strike 1 = .ok (.iload_n 1, 1) := by decide +kernel
theorem dX8_strike_2 : decode cX8_strike 2 = .ok (.invokevirtual 139, 3) := by decide +kernel
theorem dX8_strike_5 : decode cX8_strike 5 = .ok (.aload_n 0, 1) := by decide +kernel
theorem dX8_strike_6 : decode cX8_strike 6 = .ok (.getfield 22, 3) := by decide +kernel
theorem dX8_strike_9 : decode cX8_strike 9 = .ok (.iload_n 1, 1) := by decide +kernel
theorem dX8_strike_10 : decode cX8_strike 10 = .ok (.invokevirtual 142, 3) := by decide +kernel
theorem dX8_strike_13 : decode cX8_strike 13 = .ok (.aload_n 0, 1) := by decide +kernel
theorem dX8_strike_14 : decode cX8_strike 14 = .ok (.iconst 1, 1) := by decide +kernel
theorem dX8_strike_15 : decode cX8_strike 15 = .ok (.putfield 50, 3) := by decide +kernel
theorem dX8_strike_18 : decode cX8_strike 18 = .ok (.aload_n 0, 1) := by decide +kernel
theorem dX8_strike_19 : decode cX8_strike 19 = .ok (.getfield 22, 3) := by decide +kernel
theorem dX8_strike_22 : decode cX8_strike 22 = .ok (.getfield 127, 3) := by decide +kernel
theorem dX8_strike_25 : decode cX8_strike 25 = .ok (.ireturn, 1) := by decide +kernel
theorem dX8_fix_0 : decode cX8_fix 0 = .ok (.aload_n 0, 1) := by decide +kernel
theorem dX8_fix_1 : decode cX8_fix 1 = .ok (.iload_n 1, 1) := by decide +kernel
theorem dX8_fix_2 : decode cX8_fix 2 = .ok (.invokevirtual 139, 3) := by decide +kernel
theorem dX8_fix_5 : decode cX8_fix 5 = .ok (.iconst (-1), 1) := by decide +kernel
theorem dX8_fix_6 : decode cX8_fix 6 = .ok (.istore_n 3, 1) := by decide +kernel
theorem dX8_fix_7 : decode cX8_fix 7 = .ok (.iconst 0, 1) := by decide +kernel
theorem dX8_fix_8 : decode cX8_fix 8 = .ok (.istore 4, 2) := by decide +kernel
theorem dX8_fix_10 : decode cX8_fix 10 = .ok (.iload_n 2, 1) := by decide +kernel
theorem dX8_fix_11 : decode cX8_fix 11 = .ok (.iconst (-1), 1) := by decide +kernel
theorem dX8_fix_12 : decode cX8_fix 12 = .ok (.if_icmp .eq 28, 3) := by decide +kernel
theorem dX8_fix_15 : decode cX8_fix 15 = .ok (.aload_n 0, 1) := by decide +kernel
theorem dX8_fix_16 : decode cX8_fix 16 = .ok (.iload_n 1, 1) := by decide +kernel
theorem dX8_fix_17 : decode cX8_fix 17 = .ok (.iload_n 2, 1) := by decide +kernel
theorem dX8_fix_18 : decode cX8_fix 18 = .ok (.invokevirtual 145, 3) := by decide +kernel
theorem dX8_fix_21 : decode cX8_fix 21 = .ok (.astore 5, 2) := by decide +kernel
theorem dX8_fix_23 : decode cX8_fix 23 = .ok (.aload 5, 2) := by decide +kernel
theorem dX8_fix_25 : decode cX8_fix 25 = .ok (.getfield 149, 3) := by decide +kernel
theorem dX8_fix_28 : decode cX8_fix 28 = .ok (.iload_n 2, 1) := by decide +kernel
theorem dX8_fix_29 : decode cX8_fix 29 = .ok (.iaload, 1) := by decide +kernel
theorem dX8_fix_30 : decode cX8_fix 30 = .ok (.istore_n 3, 1) := by decide +kernel
theorem dX8_fix_31 : decode cX8_fix 31 = .ok (.aload 5, 2) := by decide +kernel
theorem dX8_fix_33 : decode cX8_fix 33 = .ok (.getfield 154, 3) := by decide +kernel
theorem dX8_fix_36 : decode cX8_fix 36 = .ok (.iload_n 2, 1) := by decide +kernel
theorem dX8_fix_37 : decode cX8_fix 37 = .ok (.iaload, 1) := by decide +kernel
theorem dX8_fix_38 : decode cX8_fix 38 = .ok (.istore 4, 2) := by decide +kernel
theorem dX8_fix_40 : decode cX8_fix 40 = .ok (.aload_n 0, 1) := by decide +kernel
theorem dX8_fix_41 : decode cX8_fix 41 = .ok (.getfield 22, 3) := by decide +kernel
theorem dX8_fix_44 : decode cX8_fix 44 = .ok (.getfield 157, 3) := by decide +kernel
theorem dX8_fix_47 : decode cX8_fix 47 = .ok (.iload_n 1, 1) := by decide +kernel
theorem dX8_fix_48 : decode cX8_fix 48 = .ok (.aaload, 1) := by decide +kernel
theorem dX8_fix_49 : decode cX8_fix 49 = .ok (.iload_n 3, 1) := by decide +kernel
theorem dX8_fix_50 : decode cX8_fix 50 = .ok (.putfield 161, 3) := by decide +kernel
theorem dX8_fix_53 : decode cX8_fix 53 = .ok (.aload_n 0, 1) := by decide +kernel
theorem dX8_fix_54 : decode cX8_fix 54 = .ok (.iconst 1, 1) := by decide +kernel
theorem dX8_fix_55 : decode cX8_fix 55 = .ok (.putfield 50, 3) := by decide +kernel
theorem dX8_fix_58 : decode cX8_fix 58 = .ok (.iload 4, 2) := by decide +kernel
theorem dX8_fix_60 : decode cX8_fix 60 = .ok (.ireturn, 1) := by decide +kernel
theorem dX8_ofChord_0 : decode cX8_ofChord 0 = .ok (.aload_n 0, 1) := by decide +kernel
theorem dX8_ofChord_1 : decode cX8_ofChord 1 = .ok (.iload_n 1, 1) := by decide +kernel
theorem dX8_ofChord_2 : decode cX8_ofChord 2 = .ok (.invokevirtual 139, 3) := by decide +kernel
theorem dX8_ofChord_5 : decode cX8_ofChord 5 = .ok (.iload_n 2, 1) := by decide +kernel
theorem dX8_ofChord_6 : decode cX8_ofChord 6 = .ok (.iconst 5, 1) := by decide +kernel
theorem dX8_ofChord_7 : decode cX8_ofChord 7 = .ok (.invokestatic 164, 3) := by decide +kernel
theorem dX8_ofChord_10 : decode cX8_ofChord 10 = .ok (.aload_n 0, 1) := by decide +kernel
theorem dX8_ofChord_11 : decode cX8_ofChord 11 = .ok (.invokevirtual 168, 3) := by decide +kernel
theorem dX8_ofChord_14 : decode cX8_ofChord 14 = .ok (.aload_n 0, 1) := by decide +kernel
theorem dX8_ofChord_15 : decode cX8_ofChord 15 = .ok (.iload_n 1, 1) := by decide +kernel
theorem dX8_ofChord_16 : decode cX8_ofChord 16 = .ok (.iload_n 2, 1) := by decide +kernel
theorem dX8_ofChord_17 : decode cX8_ofChord 17 = .ok (.invokevirtual 171, 3) := by decide +kernel
theorem dX8_ofChord_20 : decode cX8_ofChord 20 = .ok (.ireturn, 1) := by decide +kernel
theorem dX8_ofGrip_0 : decode cX8_ofGrip 0 = .ok (.aload_n 0, 1) := by decide +kernel
theorem dX8_ofGrip_1 : decode cX8_ofGrip 1 = .ok (.iload_n 1, 1) := by decide +kernel
theorem dX8_ofGrip_2 : decode cX8_ofGrip 2 = .ok (.iload_n 2, 1) := by decide +kernel
theorem dX8_ofGrip_3 : decode cX8_ofGrip 3 = .ok (.invokevirtual 145, 3) := by decide +kernel
theorem dX8_ofGrip_6 : decode cX8_ofGrip 6 = .ok (.astore 4, 2) := by decide +kernel
theorem dX8_ofGrip_8 : decode cX8_ofGrip 8 = .ok (.iload_n 3, 1) := by decide +kernel
theorem dX8_ofGrip_9 : decode cX8_ofGrip 9 = .ok (.iconst 5, 1) := by decide +kernel
theorem dX8_ofGrip_10 : decode cX8_ofGrip 10 = .ok (.invokestatic 164, 3) := by decide +kernel
theorem dX8_ofGrip_13 : decode cX8_ofGrip 13 = .ok (.aload_n 0, 1) := by decide +kernel
theorem dX8_ofGrip_14 : decode cX8_ofGrip 14 = .ok (.getfield 46, 3) := by decide +kernel
theorem dX8_ofGrip_17 : decode cX8_ofGrip 17 = .ok (.aload 4, 2) := by decide +kernel
theorem dX8_ofGrip_19 : decode cX8_ofGrip 19 = .ok (.getfield 149, 3) := by decide +kernel
theorem dX8_ofGrip_22 : decode cX8_ofGrip 22 = .ok (.iload_n 2, 1) := by decide +kernel
theorem dX8_ofGrip_23 : decode cX8_ofGrip 23 = .ok (.iaload, 1) := by decide +kernel
theorem dX8_ofGrip_24 : decode cX8_ofGrip 24 = .ok (.invokevirtual 174, 3) := by decide +kernel
theorem dX8_ofGrip_27 : decode cX8_ofGrip 27 = .ok (.aload_n 0, 1) := by decide +kernel
theorem dX8_ofGrip_28 : decode cX8_ofGrip 28 = .ok (.iload_n 3, 1) := by decide +kernel
theorem dX8_ofGrip_29 : decode cX8_ofGrip 29 = .ok (.invokevirtual 177, 3) := by decide +kernel
theorem dX8_ofGrip_32 : decode cX8_ofGrip 32 = .ok (.ireturn, 1) := by decide +kernel
theorem dX8_fret_0 : decode cX8_fret 0 = .ok (.aload_n 0, 1) := by decide +kernel
theorem dX8_fret_1 : decode cX8_fret 1 = .ok (.iload_n 1, 1) := by decide +kernel
theorem dX8_fret_2 : decode cX8_fret 2 = .ok (.iload_n 2, 1) := by decide +kernel
theorem dX8_fret_3 : decode cX8_fret 3 = .ok (.invokevirtual 145, 3) := by decide +kernel
theorem dX8_fret_6 : decode cX8_fret 6 = .ok (.astore 4, 2) := by decide +kernel
theorem dX8_fret_8 : decode cX8_fret 8 = .ok (.aload_n 0, 1) := by decide +kernel
theorem dX8_fret_9 : decode cX8_fret 9 = .ok (.iload_n 3, 1) := by decide +kernel
theorem dX8_fret_10 : decode cX8_fret 10 = .ok (.invokevirtual 76, 3) := by decide +kernel
theorem dX8_fret_13 : decode cX8_fret 13 = .ok (.aload 4, 2) := by decide +kernel
theorem dX8_fret_15 : decode cX8_fret 15 = .ok (.getfield 149, 3) := by decide +kernel
theorem dX8_fret_18 : decode cX8_fret 18 = .ok (.iload_n 2, 1) := by decide +kernel
theorem dX8_fret_19 : decode cX8_fret 19 = .ok (.iaload, 1) := by decide +kernel
theorem dX8_fret_20 : decode cX8_fret 20 = .ok (.iload_n 3, 1) := by decide +kernel
theorem dX8_fret_21 : decode cX8_fret 21 = .ok (.invokestatic 180, 3) := by decide +kernel
theorem dX8_fret_24 : decode cX8_fret 24 = .ok (.ireturn, 1) := by decide +kernel
theorem dX8_finger_0 : decode cX8_finger 0 = .ok (.aload_n 0, 1) := by decide +kernel
theorem dX8_finger_1 : decode cX8_finger 1 = .ok (.iload_n 1, 1) := by decide +kernel
theorem dX8_finger_2 : decode cX8_finger 2 = .ok (.iload_n 2, 1) := by decide +kernel
theorem dX8_finger_3 : decode cX8_finger 3 = .ok (.invokevirtual 145, 3) := by decide +kernel
theorem dX8_finger_6 : decode cX8_finger 6 = .ok (.astore 4, 2) := by decide +kernel
theorem dX8_finger_8 : decode cX8_finger 8 = .ok (.aload_n 0, 1) := by decide +kernel
theorem dX8_finger_9 : decode cX8_finger 9 = .ok (.iload_n 3, 1) := by decide +kernel
theorem dX8_finger_10 : decode cX8_finger 10 = .ok (.invokevirtual 76, 3) := by decide +kernel
theorem dX8_finger_13 : decode cX8_finger 13 = .ok (.aload_n 0, 1) := by decide +kernel
theorem dX8_finger_14 : decode cX8_finger 14 = .ok (.getfield 46, 3) := by decide +kernel
theorem dX8_finger_17 : decode cX8_finger 17 = .ok (.aload 4, 2) := by decide +kernel
theorem dX8_finger_19 : decode cX8_finger 19 = .ok (.getfield 149, 3) := by decide +kernel
theorem dX8_finger_22 : decode cX8_finger 22 = .ok (.iload_n 2, 1) := by decide +kernel
theorem dX8_finger_23 : decode cX8_finger 23 = .ok (.iaload, 1) := by decide +kernel
theorem dX8_finger_24 : decode cX8_finger 24 = .ok (.invokevirtual 174, 3) := by decide +kernel
theorem dX8_finger_27 : decode cX8_finger 27 = .ok (.aload_n 0, 1) := by decide +kernel
theorem dX8_finger_28 : decode cX8_finger 28 = .ok (.getfield 46, 3) := by decide +kernel
theorem dX8_finger_31 : decode cX8_finger 31 = .ok (.iload_n 3, 1) := by decide +kernel
theorem dX8_finger_32 : decode cX8_finger 32 = .ok (.invokevirtual 185, 3) := by decide +kernel
theorem dX8_finger_35 : decode cX8_finger 35 = .ok (.ireturn, 1) := by decide +kernel
theorem dX8_move_0 : decode cX8_move 0 = .ok (.aload_n 0, 1) := by decide +kernel
theorem dX8_move_1 : decode cX8_move 1 = .ok (.iload_n 1, 1) := by decide +kernel
theorem dX8_move_2 : decode cX8_move 2 = .ok (.iload_n 2, 1) := by decide +kernel
theorem dX8_move_3 : decode cX8_move 3 = .ok (.invokevirtual 145, 3) := by decide +kernel
theorem dX8_move_6 : decode cX8_move 6 = .ok (.pop, 1) := by decide +kernel
theorem dX8_move_7 : decode cX8_move 7 = .ok (.aload_n 0, 1) := by decide +kernel
theorem dX8_move_8 : decode cX8_move 8 = .ok (.iload_n 1, 1) := by decide +kernel
theorem dX8_move_9 : decode cX8_move 9 = .ok (.iconst 1, 1) := by decide +kernel
theorem dX8_move_10 : decode cX8_move 10 = .ok (.iadd, 1) := by decide +kernel
theorem dX8_move_11 : decode cX8_move 11 = .ok (.iload_n 3, 1) := by decide +kernel
theorem dX8_move_12 : decode cX8_move 12 = .ok (.invokevirtual 145, 3) := by decide +kernel
theorem dX8_move_15 : decode cX8_move 15 = .ok (.pop, 1) := by decide +kernel
theorem dX8_move_16 : decode cX8_move 16 = .ok (.aload_n 0, 1) := by decide +kernel
theorem dX8_move_17 : decode cX8_move 17 = .ok (.getfield 29, 3) := by decide +kernel
theorem dX8_move_20 : decode cX8_move 20 = .ok (.iload_n 1, 1) := by decide +kernel
theorem dX8_move_21 : decode cX8_move 21 = .ok (.iload_n 2, 1) := by decide +kernel
theorem dX8_move_22 : decode cX8_move 22 = .ok (.iload_n 3, 1) := by decide +kernel
theorem dX8_move_23 : decode cX8_move 23 = .ok (.invokevirtual 188, 3) := by decide +kernel
theorem dX8_move_26 : decode cX8_move 26 = .ok (.ireturn, 1) := by decide +kernel
theorem dX8_plan_0 : decode cX8_plan 0 = .ok (.aload_n 0, 1) := by decide +kernel
theorem dX8_plan_1 : decode cX8_plan 1 = .ok (.iload_n 1, 1) := by decide +kernel
theorem dX8_plan_2 : decode cX8_plan 2 = .ok (.invokevirtual 139, 3) := by decide +kernel
theorem dX8_plan_5 : decode cX8_plan 5 = .ok (.aload_n 0, 1) := by decide +kernel
theorem dX8_plan_6 : decode cX8_plan 6 = .ok (.invokevirtual 168, 3) := by decide +kernel
theorem dX8_plan_9 : decode cX8_plan 9 = .ok (.aload_n 0, 1) := by decide +kernel
theorem dX8_plan_10 : decode cX8_plan 10 = .ok (.getfield 29, 3) := by decide +kernel
theorem dX8_plan_13 : decode cX8_plan 13 = .ok (.getfield 192, 3) := by decide +kernel
theorem dX8_plan_16 : decode cX8_plan 16 = .ok (.iload_n 1, 1) := by decide +kernel
theorem dX8_plan_17 : decode cX8_plan 17 = .ok (.iaload, 1) := by decide +kernel
theorem dX8_plan_18 : decode cX8_plan 18 = .ok (.ireturn, 1) := by decide +kernel
theorem dX8_total_0 : decode cX8_total 0 = .ok (.aload_n 0, 1) := by decide +kernel
theorem dX8_total_1 : decode cX8_total 1 = .ok (.invokevirtual 168, 3) := by decide +kernel
theorem dX8_total_4 : decode cX8_total 4 = .ok (.aload_n 0, 1) := by decide +kernel
theorem dX8_total_5 : decode cX8_total 5 = .ok (.getfield 29, 3) := by decide +kernel
theorem dX8_total_8 : decode cX8_total 8 = .ok (.getfield 195, 3) := by decide +kernel
theorem dX8_total_11 : decode cX8_total 11 = .ok (.ireturn, 1) := by decide +kernel
theorem dX8_hardest_0 : decode cX8_hardest 0 = .ok (.aload_n 0, 1) := by decide +kernel
theorem dX8_hardest_1 : decode cX8_hardest 1 = .ok (.invokevirtual 168, 3) := by decide +kernel
theorem dX8_hardest_4 : decode cX8_hardest 4 = .ok (.aload_n 0, 1) := by decide +kernel
theorem dX8_hardest_5 : decode cX8_hardest 5 = .ok (.getfield 29, 3) := by decide +kernel
theorem dX8_hardest_8 : decode cX8_hardest 8 = .ok (.invokevirtual 198, 3) := by decide +kernel
theorem dX8_hardest_11 : decode cX8_hardest 11 = .ok (.ireturn, 1) := by decide +kernel
theorem dX8_many_0 : decode cX8_many 0 = .ok (.iload_n 1, 1) := by decide +kernel
theorem dX8_many_1 : decode cX8_many 1 = .ok (.bipush 7, 2) := by decide +kernel
theorem dX8_many_3 : decode cX8_many 3 = .ok (.invokestatic 164, 3) := by decide +kernel
theorem dX8_many_6 : decode cX8_many 6 = .ok (.aload_n 0, 1) := by decide +kernel
theorem dX8_many_7 : decode cX8_many 7 = .ok (.invokevirtual 168, 3) := by decide +kernel
theorem dX8_many_10 : decode cX8_many 10 = .ok (.aload_n 0, 1) := by decide +kernel
theorem dX8_many_11 : decode cX8_many 11 = .ok (.iload_n 1, 1) := by decide +kernel
theorem dX8_many_12 : decode cX8_many 12 = .ok (.invokevirtual 201, 3) := by decide +kernel
theorem dX8_many_15 : decode cX8_many 15 = .ok (.ireturn, 1) := by decide +kernel
theorem dX8_meanEffort_0 : decode cX8_meanEffort 0 = .ok (.aload_n 0, 1) := by decide +kernel
theorem dX8_meanEffort_1 : decode cX8_meanEffort 1 = .ok (.invokevirtual 168, 3) := by decide +kernel
theorem dX8_meanEffort_4 : decode cX8_meanEffort 4 = .ok (.aload_n 0, 1) := by decide +kernel
theorem dX8_meanEffort_5 : decode cX8_meanEffort 5 = .ok (.getfield 22, 3) := by decide +kernel
theorem dX8_meanEffort_8 : decode cX8_meanEffort 8 = .ok (.invokevirtual 204, 3) := by decide +kernel
theorem dX8_meanEffort_11 : decode cX8_meanEffort 11 = .ok (.istore_n 1, 1) := by decide +kernel
theorem dX8_meanEffort_12 : decode cX8_meanEffort 12 = .ok (.aload_n 0, 1) := by decide +kernel
theorem dX8_meanEffort_13 : decode cX8_meanEffort 13 = .ok (.getfield 29, 3) := by decide +kernel
theorem dX8_meanEffort_16 : decode cX8_meanEffort 16 = .ok (.getfield 195, 3) := by decide +kernel
theorem dX8_meanEffort_19 : decode cX8_meanEffort 19 = .ok (.iconst (-1), 1) := by decide +kernel
theorem dX8_meanEffort_20 : decode cX8_meanEffort 20 = .ok (.if_icmp .eq 7, 3) := by decide +kernel
theorem dX8_meanEffort_23 : decode cX8_meanEffort 23 = .ok (.iload_n 1, 1) := by decide +kernel
theorem dX8_meanEffort_24 : decode cX8_meanEffort 24 = .ok (.ifCond .ne 7, 3) := by decide +kernel
theorem dX8_meanEffort_27 : decode cX8_meanEffort 27 = .ok (.dconst 0, 1) := by decide +kernel
theorem dX8_meanEffort_28 : decode cX8_meanEffort 28 = .ok (.goto 14, 3) := by decide +kernel
theorem dX8_meanEffort_31 : decode cX8_meanEffort 31 = .ok (.aload_n 0, 1) := by decide +kernel
theorem dX8_meanEffort_32 : decode cX8_meanEffort 32 = .ok (.getfield 29, 3) := by decide +kernel
theorem dX8_meanEffort_35 : decode cX8_meanEffort 35 = .ok (.getfield 195, 3) := by decide +kernel
theorem dX8_meanEffort_38 : decode cX8_meanEffort 38 = .ok (.i2d, 1) := by decide +kernel
theorem dX8_meanEffort_39 : decode cX8_meanEffort 39 = .ok (.iload_n 1, 1) := by decide +kernel
theorem dX8_meanEffort_40 : decode cX8_meanEffort 40 = .ok (.i2d, 1) := by decide +kernel
theorem dX8_meanEffort_41 : decode cX8_meanEffort 41 = .ok (.ddiv, 1) := by decide +kernel
theorem dX8_meanEffort_42 : decode cX8_meanEffort 42 = .ok (.dreturn, 1) := by decide +kernel
theorem dX8_shapes_0 : decode cX8_shapes 0 = .ok (.iload_n 1, 1) := by decide +kernel
theorem dX8_shapes_1 : decode cX8_shapes 1 = .ok (.iload_n 2, 1) := by decide +kernel
theorem dX8_shapes_2 : decode cX8_shapes 2 = .ok (.iload_n 3, 1) := by decide +kernel
theorem dX8_shapes_3 : decode cX8_shapes 3 = .ok (.invokestatic 207, 3) := by decide +kernel
theorem dX8_shapes_6 : decode cX8_shapes 6 = .ok (.aload_n 0, 1) := by decide +kernel
theorem dX8_shapes_7 : decode cX8_shapes 7 = .ok (.iload_n 1, 1) := by decide +kernel
theorem dX8_shapes_8 : decode cX8_shapes 8 = .ok (.iload_n 2, 1) := by decide +kernel
theorem dX8_shapes_9 : decode cX8_shapes 9 = .ok (.iload_n 3, 1) := by decide +kernel
theorem dX8_shapes_10 : decode cX8_shapes 10 = .ok (.invokevirtual 211, 3) := by decide +kernel
theorem dX8_shapes_13 : decode cX8_shapes 13 = .ok (.getfield 215, 3) := by decide +kernel
theorem dX8_shapes_16 : decode cX8_shapes 16 = .ok (.ireturn, 1) := by decide +kernel
theorem dX8_shapeEffort_0 : decode cX8_shapeEffort 0 = .ok (.iload_n 1, 1) := by decide +kernel
theorem dX8_shapeEffort_1 : decode cX8_shapeEffort 1 = .ok (.iload_n 2, 1) := by decide +kernel
theorem dX8_shapeEffort_2 : decode cX8_shapeEffort 2 = .ok (.iload_n 3, 1) := by decide +kernel
theorem dX8_shapeEffort_3 : decode cX8_shapeEffort 3 = .ok (.invokestatic 207, 3) := by decide +kernel
theorem dX8_shapeEffort_6 : decode cX8_shapeEffort 6 = .ok (.aload_n 0, 1) := by decide +kernel
theorem dX8_shapeEffort_7 : decode cX8_shapeEffort 7 = .ok (.iload_n 1, 1) := by decide +kernel
theorem dX8_shapeEffort_8 : decode cX8_shapeEffort 8 = .ok (.iload_n 2, 1) := by decide +kernel
theorem dX8_shapeEffort_9 : decode cX8_shapeEffort 9 = .ok (.iload_n 3, 1) := by decide +kernel
theorem dX8_shapeEffort_10 : decode cX8_shapeEffort 10 = .ok (.invokevirtual 211, 3) := by decide +kernel
theorem dX8_shapeEffort_13 : decode cX8_shapeEffort 13 = .ok (.getfield 216, 3) := by decide +kernel
theorem dX8_shapeEffort_16 : decode cX8_shapeEffort 16 = .ok (.ireturn, 1) := by decide +kernel
theorem dX8_shapeFret_0 : decode cX8_shapeFret 0 = .ok (.aload_n 0, 1) := by decide +kernel
theorem dX8_shapeFret_1 : decode cX8_shapeFret 1 = .ok (.iload 4, 2) := by decide +kernel
theorem dX8_shapeFret_3 : decode cX8_shapeFret 3 = .ok (.invokevirtual 76, 3) := by decide +kernel
theorem dX8_shapeFret_6 : decode cX8_shapeFret 6 = .ok (.iload_n 1, 1) := by decide +kernel
theorem dX8_shapeFret_7 : decode cX8_shapeFret 7 = .ok (.iload_n 2, 1) := by decide +kernel
theorem dX8_shapeFret_8 : decode cX8_shapeFret 8 = .ok (.iload_n 3, 1) := by decide +kernel
theorem dX8_shapeFret_9 : decode cX8_shapeFret 9 = .ok (.invokestatic 207, 3) := by decide +kernel
theorem dX8_shapeFret_12 : decode cX8_shapeFret 12 = .ok (.aload_n 0, 1) := by decide +kernel
theorem dX8_shapeFret_13 : decode cX8_shapeFret 13 = .ok (.iload_n 1, 1) := by decide +kernel
theorem dX8_shapeFret_14 : decode cX8_shapeFret 14 = .ok (.iload_n 2, 1) := by decide +kernel
theorem dX8_shapeFret_15 : decode cX8_shapeFret 15 = .ok (.iload_n 3, 1) := by decide +kernel
theorem dX8_shapeFret_16 : decode cX8_shapeFret 16 = .ok (.invokevirtual 211, 3) := by decide +kernel
theorem dX8_shapeFret_19 : decode cX8_shapeFret 19 = .ok (.iload 4, 2) := by decide +kernel
theorem dX8_shapeFret_21 : decode cX8_shapeFret 21 = .ok (.invokevirtual 219, 3) := by decide +kernel
theorem dX8_shapeFret_24 : decode cX8_shapeFret 24 = .ok (.ireturn, 1) := by decide +kernel
theorem dX8_totalWith_0 : decode cX8_totalWith 0 = .ok (.iload_n 1, 1) := by decide +kernel
theorem dX8_totalWith_1 : decode cX8_totalWith 1 = .ok (.invokestatic 91, 3) := by decide +kernel
theorem dX8_totalWith_4 : decode cX8_totalWith 4 = .ok (.iload_n 2, 1) := by decide +kernel
theorem dX8_totalWith_5 : decode cX8_totalWith 5 = .ok (.invokestatic 97, 3) := by decide +kernel
theorem dX8_totalWith_8 : decode cX8_totalWith 8 = .ok (.aload_n 0, 1) := by decide +kernel
theorem dX8_totalWith_9 : decode cX8_totalWith 9 = .ok (.iload_n 1, 1) := by decide +kernel
theorem dX8_totalWith_10 : decode cX8_totalWith 10 = .ok (.iload_n 2, 1) := by decide +kernel
theorem dX8_totalWith_11 : decode cX8_totalWith 11 = .ok (.invokevirtual 222, 3) := by decide +kernel
theorem dX8_totalWith_14 : decode cX8_totalWith 14 = .ok (.ireturn, 1) := by decide +kernel
theorem dX8_bestCapo_0 : decode cX8_bestCapo 0 = .ok (.iconst (-1), 1) := by decide +kernel
theorem dX8_bestCapo_1 : decode cX8_bestCapo 1 = .ok (.istore_n 1, 1) := by decide +kernel
theorem dX8_bestCapo_2 : decode cX8_bestCapo 2 = .ok (.iconst (-1), 1) := by decide +kernel
theorem dX8_bestCapo_3 : decode cX8_bestCapo 3 = .ok (.istore_n 2, 1) := by decide +kernel
theorem dX8_bestCapo_4 : decode cX8_bestCapo 4 = .ok (.iconst 0, 1) := by decide +kernel
theorem dX8_bestCapo_5 : decode cX8_bestCapo 5 = .ok (.istore_n 3, 1) := by decide +kernel
theorem dX8_bestCapo_6 : decode cX8_bestCapo 6 = .ok (.iload_n 3, 1) := by decide +kernel
theorem dX8_bestCapo_7 : decode cX8_bestCapo 7 = .ok (.bipush 7, 2) := by decide +kernel
theorem dX8_bestCapo_9 : decode cX8_bestCapo 9 = .ok (.if_icmp .gt 45, 3) := by decide +kernel
theorem dX8_bestCapo_12 : decode cX8_bestCapo 12 = .ok (.aload_n 0, 1) := by decide +kernel
theorem dX8_bestCapo_13 : decode cX8_bestCapo 13 = .ok (.iload_n 3, 1) := by decide +kernel
theorem dX8_bestCapo_14 : decode cX8_bestCapo 14 = .ok (.aload_n 0, 1) := by decide +kernel
theorem dX8_bestCapo_15 : decode cX8_bestCapo 15 = .ok (.getfield 10, 3) := by decide +kernel
theorem dX8_bestCapo_18 : decode cX8_bestCapo 18 = .ok (.getfield 100, 3) := by decide +kernel
theorem dX8_bestCapo_21 : decode cX8_bestCapo 21 = .ok (.invokevirtual 222, 3) := by decide +kernel
theorem dX8_bestCapo_24 : decode cX8_bestCapo 24 = .ok (.istore 4, 2) := by decide +kernel
theorem dX8_bestCapo_26 : decode cX8_bestCapo 26 = .ok (.iload 4, 2) := by decide +kernel
theorem dX8_bestCapo_28 : decode cX8_bestCapo 28 = .ok (.iconst (-1), 1) := by decide +kernel
theorem dX8_bestCapo_29 : decode cX8_bestCapo 29 = .ok (.if_icmp .eq 19, 3) := by decide +kernel
theorem dX8_bestCapo_32 : decode cX8_bestCapo 32 = .ok (.iload_n 1, 1) := by decide +kernel
theorem dX8_bestCapo_33 : decode cX8_bestCapo 33 = .ok (.iconst (-1), 1) := by decide +kernel
theorem dX8_bestCapo_34 : decode cX8_bestCapo 34 = .ok (.if_icmp .eq 9, 3) := by decide +kernel
theorem dX8_bestCapo_37 : decode cX8_bestCapo 37 = .ok (.iload 4, 2) := by decide +kernel
theorem dX8_bestCapo_39 : decode cX8_bestCapo 39 = .ok (.iload_n 2, 1) := by decide +kernel
theorem dX8_bestCapo_40 : decode cX8_bestCapo 40 = .ok (.if_icmp .ge 8, 3) := by decide +kernel
theorem dX8_bestCapo_43 : decode cX8_bestCapo 43 = .ok (.iload_n 3, 1) := by decide +kernel
theorem dX8_bestCapo_44 : decode cX8_bestCapo 44 = .ok (.istore_n 1, 1) := by decide +kernel
theorem dX8_bestCapo_45 : decode cX8_bestCapo 45 = .ok (.iload 4, 2) := by decide +kernel
theorem dX8_bestCapo_47 : decode cX8_bestCapo 47 = .ok (.istore_n 2, 1) := by decide +kernel
theorem dX8_bestCapo_48 : decode cX8_bestCapo 48 = .ok (.iinc 3 1, 3) := by decide +kernel
theorem dX8_bestCapo_51 : decode cX8_bestCapo 51 = .ok (.goto (-45), 3) := by decide +kernel
theorem dX8_bestCapo_54 : decode cX8_bestCapo 54 = .ok (.iload_n 1, 1) := by decide +kernel
theorem dX8_bestCapo_55 : decode cX8_bestCapo 55 = .ok (.ireturn, 1) := by decide +kernel
theorem dX8_totalWithout_0 : decode cX8_totalWithout 0 = .ok (.aload_n 0, 1) := by decide +kernel
theorem dX8_totalWithout_1 : decode cX8_totalWithout 1 = .ok (.iload_n 1, 1) := by decide +kernel
theorem dX8_totalWithout_2 : decode cX8_totalWithout 2 = .ok (.invokevirtual 76, 3) := by decide +kernel
theorem dX8_totalWithout_5 : decode cX8_totalWithout 5 = .ok (.aload_n 0, 1) := by decide +kernel
theorem dX8_totalWithout_6 : decode cX8_totalWithout 6 = .ok (.getfield 16, 3) := by decide +kernel
theorem dX8_totalWithout_9 : decode cX8_totalWithout 9 = .ok (.aload_n 0, 1) := by decide +kernel
theorem dX8_totalWithout_10 : decode cX8_totalWithout 10 = .ok (.getfield 10, 3) := by decide +kernel
theorem dX8_totalWithout_13 : decode cX8_totalWithout 13 = .ok (.invokevirtual 225, 3) := by decide +kernel
theorem dX8_totalWithout_16 : decode cX8_totalWithout 16 = .ok (.aload_n 0, 1) := by decide +kernel
theorem dX8_totalWithout_17 : decode cX8_totalWithout 17 = .ok (.getfield 16, 3) := by decide +kernel
theorem dX8_totalWithout_20 : decode cX8_totalWithout 20 = .ok (.getfield 83, 3) := by decide +kernel
theorem dX8_totalWithout_23 : decode cX8_totalWithout 23 = .ok (.iload_n 1, 1) := by decide +kernel
theorem dX8_totalWithout_24 : decode cX8_totalWithout 24 = .ok (.iconst 1, 1) := by decide +kernel
theorem dX8_totalWithout_25 : decode cX8_totalWithout 25 = .ok (.bastore, 1) := by decide +kernel
theorem dX8_totalWithout_26 : decode cX8_totalWithout 26 = .ok (.aload_n 0, 1) := by decide +kernel
theorem dX8_totalWithout_27 : decode cX8_totalWithout 27 = .ok (.getfield 33, 3) := by decide +kernel
theorem dX8_totalWithout_30 : decode cX8_totalWithout 30 = .ok (.aload_n 0, 1) := by decide +kernel
theorem dX8_totalWithout_31 : decode cX8_totalWithout 31 = .ok (.getfield 16, 3) := by decide +kernel
theorem dX8_totalWithout_34 : decode cX8_totalWithout 34 = .ok (.aload_n 0, 1) := by decide +kernel
theorem dX8_totalWithout_35 : decode cX8_totalWithout 35 = .ok (.getfield 22, 3) := by decide +kernel
theorem dX8_totalWithout_38 : decode cX8_totalWithout 38 = .ok (.invokevirtual 229, 3) := by decide +kernel
theorem dX8_totalWithout_41 : decode cX8_totalWithout 41 = .ok (.aload_n 0, 1) := by decide +kernel
theorem dX8_totalWithout_42 : decode cX8_totalWithout 42 = .ok (.getfield 33, 3) := by decide +kernel
theorem dX8_totalWithout_45 : decode cX8_totalWithout 45 = .ok (.invokevirtual 233, 3) := by decide +kernel
theorem dX8_totalWithout_48 : decode cX8_totalWithout 48 = .ok (.aload_n 0, 1) := by decide +kernel
theorem dX8_totalWithout_49 : decode cX8_totalWithout 49 = .ok (.getfield 33, 3) := by decide +kernel
theorem dX8_totalWithout_52 : decode cX8_totalWithout 52 = .ok (.getfield 195, 3) := by decide +kernel
theorem dX8_totalWithout_55 : decode cX8_totalWithout 55 = .ok (.ireturn, 1) := by decide +kernel
theorem dX8_totalFixed_0 : decode cX8_totalFixed 0 = .ok (.aload_n 0, 1) := by decide +kernel
theorem dX8_totalFixed_1 : decode cX8_totalFixed 1 = .ok (.iload_n 1, 1) := by decide +kernel
theorem dX8_totalFixed_2 : decode cX8_totalFixed 2 = .ok (.iload_n 2, 1) := by decide +kernel
theorem dX8_totalFixed_3 : decode cX8_totalFixed 3 = .ok (.invokevirtual 145, 3) := by decide +kernel
theorem dX8_totalFixed_6 : decode cX8_totalFixed 6 = .ok (.pop, 1) := by decide +kernel
theorem dX8_totalFixed_7 : decode cX8_totalFixed 7 = .ok (.aload_n 0, 1) := by decide +kernel
theorem dX8_totalFixed_8 : decode cX8_totalFixed 8 = .ok (.getfield 33, 3) := by decide +kernel
theorem dX8_totalFixed_11 : decode cX8_totalFixed 11 = .ok (.aload_n 0, 1) := by decide +kernel
theorem dX8_totalFixed_12 : decode cX8_totalFixed 12 = .ok (.getfield 10, 3) := by decide +kernel
theorem dX8_totalFixed_15 : decode cX8_totalFixed 15 = .ok (.aload_n 0, 1) := by decide +kernel
theorem dX8_totalFixed_16 : decode cX8_totalFixed 16 = .ok (.getfield 22, 3) := by decide +kernel
theorem dX8_totalFixed_19 : decode cX8_totalFixed 19 = .ok (.invokevirtual 229, 3) := by decide +kernel
theorem dX8_totalFixed_22 : decode cX8_totalFixed 22 = .ok (.aload_n 0, 1) := by decide +kernel
theorem dX8_totalFixed_23 : decode cX8_totalFixed 23 = .ok (.getfield 33, 3) := by decide +kernel
theorem dX8_totalFixed_26 : decode cX8_totalFixed 26 = .ok (.getfield 236, 3) := by decide +kernel
theorem dX8_totalFixed_29 : decode cX8_totalFixed 29 = .ok (.iload_n 1, 1) := by decide +kernel
theorem dX8_totalFixed_30 : decode cX8_totalFixed 30 = .ok (.iload_n 2, 1) := by decide +kernel
theorem dX8_totalFixed_31 : decode cX8_totalFixed 31 = .ok (.iastore, 1) := by decide +kernel
theorem dX8_totalFixed_32 : decode cX8_totalFixed 32 = .ok (.aload_n 0, 1) := by decide +kernel
theorem dX8_totalFixed_33 : decode cX8_totalFixed 33 = .ok (.getfield 33, 3) := by decide +kernel
theorem dX8_totalFixed_36 : decode cX8_totalFixed 36 = .ok (.invokevirtual 233, 3) := by decide +kernel
theorem dX8_totalFixed_39 : decode cX8_totalFixed 39 = .ok (.aload_n 0, 1) := by decide +kernel
theorem dX8_totalFixed_40 : decode cX8_totalFixed 40 = .ok (.getfield 33, 3) := by decide +kernel
theorem dX8_totalFixed_43 : decode cX8_totalFixed 43 = .ok (.getfield 195, 3) := by decide +kernel
theorem dX8_totalFixed_46 : decode cX8_totalFixed 46 = .ok (.ireturn, 1) := by decide +kernel
theorem dX8_digest_0 : decode cX8_digest 0 = .ok (.aload_n 0, 1) := by decide +kernel
theorem dX8_digest_1 : decode cX8_digest 1 = .ok (.invokevirtual 168, 3) := by decide +kernel
theorem dX8_digest_4 : decode cX8_digest 4 = .ok (.ldc2_w 239, 3) := by decide +kernel
theorem dX8_digest_7 : decode cX8_digest 7 = .ok (.lstore_n 1, 1) := by decide +kernel
theorem dX8_digest_8 : decode cX8_digest 8 = .ok (.iconst 0, 1) := by decide +kernel
theorem dX8_digest_9 : decode cX8_digest 9 = .ok (.istore_n 3, 1) := by decide +kernel
theorem dX8_digest_10 : decode cX8_digest 10 = .ok (.iload_n 3, 1) := by decide +kernel
theorem dX8_digest_11 : decode cX8_digest 11 = .ok (.bipush 7, 2) := by decide +kernel
theorem dX8_digest_13 : decode cX8_digest 13 = .ok (.if_icmp .gt 19, 3) := by decide +kernel
theorem dX8_digest_16 : decode cX8_digest 16 = .ok (.lload_n 1, 1) := by decide +kernel
theorem dX8_digest_17 : decode cX8_digest 17 = .ok (.aload_n 0, 1) := by decide +kernel
theorem dX8_digest_18 : decode cX8_digest 18 = .ok (.iload_n 3, 1) := by decide +kernel
theorem dX8_digest_19 : decode cX8_digest 19 = .ok (.invokevirtual 201, 3) := by decide +kernel
theorem dX8_digest_22 : decode cX8_digest 22 = .ok (.invokestatic 241, 3) := by decide +kernel
theorem dX8_digest_25 : decode cX8_digest 25 = .ok (.lstore_n 1, 1) := by decide +kernel
theorem dX8_digest_26 : decode cX8_digest 26 = .ok (.iinc 3 1, 3) := by decide +kernel
theorem dX8_digest_29 : decode cX8_digest 29 = .ok (.goto (-19), 3) := by decide +kernel
theorem dX8_digest_32 : decode cX8_digest 32 = .ok (.iconst 0, 1) := by decide +kernel
theorem dX8_digest_33 : decode cX8_digest 33 = .ok (.istore_n 3, 1) := by decide +kernel
theorem dX8_digest_34 : decode cX8_digest 34 = .ok (.iload_n 3, 1) := by decide +kernel
theorem dX8_digest_35 : decode cX8_digest 35 = .ok (.aload_n 0, 1) := by decide +kernel
theorem dX8_digest_36 : decode cX8_digest 36 = .ok (.getfield 22, 3) := by decide +kernel
theorem dX8_digest_39 : decode cX8_digest 39 = .ok (.getfield 127, 3) := by decide +kernel
theorem dX8_digest_42 : decode cX8_digest 42 = .ok (.if_icmp .ge 16, 3) := by decide +kernel
theorem dX8_digest_45 : decode cX8_digest 45 = .ok (.aload_n 0, 1) := by decide +kernel
theorem dX8_digest_46 : decode cX8_digest 46 = .ok (.lload_n 1, 1) := by decide +kernel
theorem dX8_digest_47 : decode cX8_digest 47 = .ok (.iload_n 3, 1) := by decide +kernel
theorem dX8_digest_48 : decode cX8_digest 48 = .ok (.invokevirtual 245, 3) := by decide +kernel
theorem dX8_digest_51 : decode cX8_digest 51 = .ok (.lstore_n 1, 1) := by decide +kernel
theorem dX8_digest_52 : decode cX8_digest 52 = .ok (.iinc 3 1, 3) := by decide +kernel
theorem dX8_digest_55 : decode cX8_digest 55 = .ok (.goto (-21), 3) := by decide +kernel
theorem dX8_digest_58 : decode cX8_digest 58 = .ok (.lload_n 1, 1) := by decide +kernel
theorem dX8_digest_59 : decode cX8_digest 59 = .ok (.aload_n 0, 1) := by decide +kernel
theorem dX8_digest_60 : decode cX8_digest 60 = .ok (.getfield 29, 3) := by decide +kernel
theorem dX8_digest_63 : decode cX8_digest 63 = .ok (.getfield 195, 3) := by decide +kernel
theorem dX8_digest_66 : decode cX8_digest 66 = .ok (.invokestatic 241, 3) := by decide +kernel
theorem dX8_digest_69 : decode cX8_digest 69 = .ok (.lstore_n 1, 1) := by decide +kernel
theorem dX8_digest_70 : decode cX8_digest 70 = .ok (.lload_n 1, 1) := by decide +kernel
theorem dX8_digest_71 : decode cX8_digest 71 = .ok (.aload_n 0, 1) := by decide +kernel
theorem dX8_digest_72 : decode cX8_digest 72 = .ok (.getfield 29, 3) := by decide +kernel
theorem dX8_digest_75 : decode cX8_digest 75 = .ok (.invokevirtual 198, 3) := by decide +kernel
theorem dX8_digest_78 : decode cX8_digest 78 = .ok (.invokestatic 241, 3) := by decide +kernel
theorem dX8_digest_81 : decode cX8_digest 81 = .ok (.lstore_n 1, 1) := by decide +kernel
theorem dX8_digest_82 : decode cX8_digest 82 = .ok (.lload_n 1, 1) := by decide +kernel
theorem dX8_digest_83 : decode cX8_digest 83 = .ok (.aload_n 0, 1) := by decide +kernel
theorem dX8_digest_84 : decode cX8_digest 84 = .ok (.invokevirtual 248, 3) := by decide +kernel
theorem dX8_digest_87 : decode cX8_digest 87 = .ok (.invokestatic 241, 3) := by decide +kernel
theorem dX8_digest_90 : decode cX8_digest 90 = .ok (.lstore_n 1, 1) := by decide +kernel
theorem dX8_digest_91 : decode cX8_digest 91 = .ok (.iconst 0, 1) := by decide +kernel
theorem dX8_digest_92 : decode cX8_digest 92 = .ok (.istore_n 3, 1) := by decide +kernel
theorem dX8_digest_93 : decode cX8_digest 93 = .ok (.iload_n 3, 1) := by decide +kernel
theorem dX8_digest_94 : decode cX8_digest 94 = .ok (.aload_n 0, 1) := by decide +kernel
theorem dX8_digest_95 : decode cX8_digest 95 = .ok (.getfield 10, 3) := by decide +kernel
theorem dX8_digest_98 : decode cX8_digest 98 = .ok (.getfield 58, 3) := by decide +kernel
theorem dX8_digest_101 : decode cX8_digest 101 = .ok (.if_icmp .ge 19, 3) := by decide +kernel
theorem dX8_digest_104 : decode cX8_digest 104 = .ok (.lload_n 1, 1) := by decide +kernel
theorem dX8_digest_105 : decode cX8_digest 105 = .ok (.aload_n 0, 1) := by decide +kernel
theorem dX8_digest_106 : decode cX8_digest 106 = .ok (.iload_n 3, 1) := by decide +kernel
theorem dX8_digest_107 : decode cX8_digest 107 = .ok (.invokevirtual 251, 3) := by decide +kernel
theorem dX8_digest_110 : decode cX8_digest 110 = .ok (.invokestatic 241, 3) := by decide +kernel
theorem dX8_digest_113 : decode cX8_digest 113 = .ok (.lstore_n 1, 1) := by decide +kernel
theorem dX8_digest_114 : decode cX8_digest 114 = .ok (.iinc 3 1, 3) := by decide +kernel
theorem dX8_digest_117 : decode cX8_digest 117 = .ok (.goto (-24), 3) := by decide +kernel
theorem dX8_digest_120 : decode cX8_digest 120 = .ok (.aload_n 0, 1) := by decide +kernel
theorem dX8_digest_121 : decode cX8_digest 121 = .ok (.sipush 145, 3) := by decide +kernel
theorem dX8_digest_124 : decode cX8_digest 124 = .ok (.iconst 0, 1) := by decide +kernel
theorem dX8_digest_125 : decode cX8_digest 125 = .ok (.iconst 1, 1) := by decide +kernel
theorem dX8_digest_126 : decode cX8_digest 126 = .ok (.invokevirtual 211, 3) := by decide +kernel
theorem dX8_digest_129 : decode cX8_digest 129 = .ok (.astore_n 3, 1) := by decide +kernel
theorem dX8_digest_130 : decode cX8_digest 130 = .ok (.lload_n 1, 1) := by decide +kernel
theorem dX8_digest_131 : decode cX8_digest 131 = .ok (.aload_n 3, 1) := by decide +kernel
theorem dX8_digest_132 : decode cX8_digest 132 = .ok (.getfield 215, 3) := by decide +kernel
theorem dX8_digest_135 : decode cX8_digest 135 = .ok (.invokestatic 241, 3) := by decide +kernel
theorem dX8_digest_138 : decode cX8_digest 138 = .ok (.lstore_n 1, 1) := by decide +kernel
theorem dX8_digest_139 : decode cX8_digest 139 = .ok (.lload_n 1, 1) := by decide +kernel
theorem dX8_digest_140 : decode cX8_digest 140 = .ok (.aload_n 3, 1) := by decide +kernel
theorem dX8_digest_141 : decode cX8_digest 141 = .ok (.getfield 216, 3) := by decide +kernel
theorem dX8_digest_144 : decode cX8_digest 144 = .ok (.invokestatic 241, 3) := by decide +kernel
theorem dX8_digest_147 : decode cX8_digest 147 = .ok (.lreturn, 1) := by decide +kernel
theorem dX8_mixChord_0 : decode cX8_mixChord 0 = .ok (.lload_n 1, 1) := by decide +kernel
theorem dX8_mixChord_1 : decode cX8_mixChord 1 = .ok (.lstore 4, 2) := by decide +kernel
theorem dX8_mixChord_3 : decode cX8_mixChord 3 = .ok (.iconst 0, 1) := by decide +kernel
theorem dX8_mixChord_4 : decode cX8_mixChord 4 = .ok (.istore 6, 2) := by decide +kernel
theorem dX8_mixChord_6 : decode cX8_mixChord 6 = .ok (.iload 6, 2) := by decide +kernel
theorem dX8_mixChord_8 : decode cX8_mixChord 8 = .ok (.iconst 5, 1) := by decide +kernel
theorem dX8_mixChord_9 : decode cX8_mixChord 9 = .ok (.if_icmp .gt 23, 3) := by decide +kernel
theorem dX8_mixChord_12 : decode cX8_mixChord 12 = .ok (.lload 4, 2) := by decide +kernel
theorem dX8_mixChord_14 : decode cX8_mixChord 14 = .ok (.aload_n 0, 1) := by decide +kernel
theorem dX8_mixChord_15 : decode cX8_mixChord 15 = .ok (.iload_n 3, 1) := by decide +kernel
theorem dX8_mixChord_16 : decode cX8_mixChord 16 = .ok (.iload 6, 2) := by decide +kernel
theorem dX8_mixChord_18 : decode cX8_mixChord 18 = .ok (.invokevirtual 171, 3) := by decide +kernel
theorem dX8_mixChord_21 : decode cX8_mixChord 21 = .ok (.invokestatic 241, 3) := by decide +kernel
theorem dX8_mixChord_24 : decode cX8_mixChord 24 = .ok (.lstore 4, 2) := by decide +kernel
theorem dX8_mixChord_26 : decode cX8_mixChord 26 = .ok (.iinc 6 1, 3) := by decide +kernel
theorem dX8_mixChord_29 : decode cX8_mixChord 29 = .ok (.goto (-23), 3) := by decide +kernel
theorem dX8_mixChord_32 : decode cX8_mixChord 32 = .ok (.aload_n 0, 1) := by decide +kernel
theorem dX8_mixChord_33 : decode cX8_mixChord 33 = .ok (.getfield 29, 3) := by decide +kernel
theorem dX8_mixChord_36 : decode cX8_mixChord 36 = .ok (.getfield 192, 3) := by decide +kernel
theorem dX8_mixChord_39 : decode cX8_mixChord 39 = .ok (.iload_n 3, 1) := by decide +kernel
theorem dX8_mixChord_40 : decode cX8_mixChord 40 = .ok (.iaload, 1) := by decide +kernel
theorem dX8_mixChord_41 : decode cX8_mixChord 41 = .ok (.istore 6, 2) := by decide +kernel
theorem dX8_mixChord_43 : decode cX8_mixChord 43 = .ok (.lload 4, 2) := by decide +kernel
theorem dX8_mixChord_45 : decode cX8_mixChord 45 = .ok (.iload 6, 2) := by decide +kernel
theorem dX8_mixChord_47 : decode cX8_mixChord 47 = .ok (.invokestatic 241, 3) := by decide +kernel
theorem dX8_mixChord_50 : decode cX8_mixChord 50 = .ok (.lstore 4, 2) := by decide +kernel
theorem dX8_mixChord_52 : decode cX8_mixChord 52 = .ok (.aload_n 0, 1) := by decide +kernel
theorem dX8_mixChord_53 : decode cX8_mixChord 53 = .ok (.getfield 29, 3) := by decide +kernel
theorem dX8_mixChord_56 : decode cX8_mixChord 56 = .ok (.getfield 254, 3) := by decide +kernel
theorem dX8_mixChord_59 : decode cX8_mixChord 59 = .ok (.iload_n 3, 1) := by decide +kernel
theorem dX8_mixChord_60 : decode cX8_mixChord 60 = .ok (.aaload, 1) := by decide +kernel
theorem dX8_mixChord_61 : decode cX8_mixChord 61 = .ok (.iload 6, 2) := by decide +kernel
theorem dX8_mixChord_63 : decode cX8_mixChord 63 = .ok (.invokevirtual 258, 3) := by decide +kernel
theorem dX8_mixChord_66 : decode cX8_mixChord 66 = .ok (.ifCond .eq 27, 3) := by decide +kernel
theorem dX8_mixChord_69 : decode cX8_mixChord 69 = .ok (.aload_n 0, 1) := by decide +kernel
theorem dX8_mixChord_70 : decode cX8_mixChord 70 = .ok (.lload 4, 2) := by decide +kernel
theorem dX8_mixChord_72 : decode cX8_mixChord 72 = .ok (.aload_n 0, 1) := by decide +kernel
theorem dX8_mixChord_73 : decode cX8_mixChord 73 = .ok (.getfield 29, 3) := by decide +kernel
theorem dX8_mixChord_76 : decode cX8_mixChord 76 = .ok (.getfield 254, 3) := by decide +kernel
theorem dX8_mixChord_79 : decode cX8_mixChord 79 = .ok (.iload_n 3, 1) := by decide +kernel
theorem dX8_mixChord_80 : decode cX8_mixChord 80 = .ok (.aaload, 1) := by decide +kernel
theorem dX8_mixChord_81 : decode cX8_mixChord 81 = .ok (.getfield 149, 3) := by decide +kernel
theorem dX8_mixChord_84 : decode cX8_mixChord 84 = .ok (.iload 6, 2) := by decide +kernel
theorem dX8_mixChord_86 : decode cX8_mixChord 86 = .ok (.iaload, 1) := by decide +kernel
theorem dX8_mixChord_87 : decode cX8_mixChord 87 = .ok (.invokevirtual 261, 3) := by decide +kernel
theorem dX8_mixChord_90 : decode cX8_mixChord 90 = .ok (.goto 5, 3) := by decide +kernel
theorem dX8_mixChord_93 : decode cX8_mixChord 93 = .ok (.lload 4, 2) := by decide +kernel
theorem dX8_mixChord_95 : decode cX8_mixChord 95 = .ok (.lreturn, 1) := by decide +kernel
theorem dX8_mixGrip_0 : decode cX8_mixGrip 0 = .ok (.lload_n 1, 1) := by decide +kernel
theorem dX8_mixGrip_1 : decode cX8_mixGrip 1 = .ok (.lstore 4, 2) := by decide +kernel
theorem dX8_mixGrip_3 : decode cX8_mixGrip 3 = .ok (.aload_n 0, 1) := by decide +kernel
theorem dX8_mixGrip_4 : decode cX8_mixGrip 4 = .ok (.getfield 46, 3) := by decide +kernel
theorem dX8_mixGrip_7 : decode cX8_mixGrip 7 = .ok (.iload_n 3, 1) := by decide +kernel
theorem dX8_mixGrip_8 : decode cX8_mixGrip 8 = .ok (.invokevirtual 174, 3) := by decide +kernel
theorem dX8_mixGrip_11 : decode cX8_mixGrip 11 = .ok (.iconst 0, 1) := by decide +kernel
theorem dX8_mixGrip_12 : decode cX8_mixGrip 12 = .ok (.istore 6, 2) := by decide +kernel
theorem dX8_mixGrip_14 : decode cX8_mixGrip 14 = .ok (.iload 6, 2) := by decide +kernel
theorem dX8_mixGrip_16 : decode cX8_mixGrip 16 = .ok (.iconst 5, 1) := by decide +kernel
theorem dX8_mixGrip_17 : decode cX8_mixGrip 17 = .ok (.if_icmp .gt 22, 3) := by decide +kernel
theorem dX8_mixGrip_20 : decode cX8_mixGrip 20 = .ok (.lload 4, 2) := by decide +kernel
theorem dX8_mixGrip_22 : decode cX8_mixGrip 22 = .ok (.aload_n 0, 1) := by decide +kernel
theorem dX8_mixGrip_23 : decode cX8_mixGrip 23 = .ok (.iload 6, 2) := by decide +kernel
theorem dX8_mixGrip_25 : decode cX8_mixGrip 25 = .ok (.invokevirtual 177, 3) := by decide +kernel
theorem dX8_mixGrip_28 : decode cX8_mixGrip 28 = .ok (.invokestatic 241, 3) := by decide +kernel
theorem dX8_mixGrip_31 : decode cX8_mixGrip 31 = .ok (.lstore 4, 2) := by decide +kernel
theorem dX8_mixGrip_33 : decode cX8_mixGrip 33 = .ok (.iinc 6 1, 3) := by decide +kernel
theorem dX8_mixGrip_36 : decode cX8_mixGrip 36 = .ok (.goto (-22), 3) := by decide +kernel
theorem dX8_mixGrip_39 : decode cX8_mixGrip 39 = .ok (.iconst 0, 1) := by decide +kernel
theorem dX8_mixGrip_40 : decode cX8_mixGrip 40 = .ok (.istore 6, 2) := by decide +kernel
theorem dX8_mixGrip_42 : decode cX8_mixGrip 42 = .ok (.iload 6, 2) := by decide +kernel
theorem dX8_mixGrip_44 : decode cX8_mixGrip 44 = .ok (.aload_n 0, 1) := by decide +kernel
theorem dX8_mixGrip_45 : decode cX8_mixGrip 45 = .ok (.getfield 10, 3) := by decide +kernel
theorem dX8_mixGrip_48 : decode cX8_mixGrip 48 = .ok (.getfield 58, 3) := by decide +kernel
theorem dX8_mixGrip_51 : decode cX8_mixGrip 51 = .ok (.if_icmp .ge 38, 3) := by decide +kernel
theorem dX8_mixGrip_54 : decode cX8_mixGrip 54 = .ok (.lload 4, 2) := by decide +kernel
theorem dX8_mixGrip_56 : decode cX8_mixGrip 56 = .ok (.iload_n 3, 1) := by decide +kernel
theorem dX8_mixGrip_57 : decode cX8_mixGrip 57 = .ok (.iload 6, 2) := by decide +kernel
theorem dX8_mixGrip_59 : decode cX8_mixGrip 59 = .ok (.invokestatic 180, 3) := by decide +kernel
theorem dX8_mixGrip_62 : decode cX8_mixGrip 62 = .ok (.invokestatic 241, 3) := by decide +kernel
theorem dX8_mixGrip_65 : decode cX8_mixGrip 65 = .ok (.lstore 4, 2) := by decide +kernel
theorem dX8_mixGrip_67 : decode cX8_mixGrip 67 = .ok (.lload 4, 2) := by decide +kernel
theorem dX8_mixGrip_69 : decode cX8_mixGrip 69 = .ok (.aload_n 0, 1) := by decide +kernel
theorem dX8_mixGrip_70 : decode cX8_mixGrip 70 = .ok (.getfield 46, 3) := by decide +kernel
theorem dX8_mixGrip_73 : decode cX8_mixGrip 73 = .ok (.iload 6, 2) := by decide +kernel
theorem dX8_mixGrip_75 : decode cX8_mixGrip 75 = .ok (.invokevirtual 185, 3) := by decide +kernel
theorem dX8_mixGrip_78 : decode cX8_mixGrip 78 = .ok (.invokestatic 241, 3) := by decide +kernel
theorem dX8_mixGrip_81 : decode cX8_mixGrip 81 = .ok (.lstore 4, 2) := by decide +kernel
theorem dX8_mixGrip_83 : decode cX8_mixGrip 83 = .ok (.iinc 6 1, 3) := by decide +kernel
theorem dX8_mixGrip_86 : decode cX8_mixGrip 86 = .ok (.goto (-44), 3) := by decide +kernel
theorem dX8_mixGrip_89 : decode cX8_mixGrip 89 = .ok (.lload 4, 2) := by decide +kernel
theorem dX8_mixGrip_91 : decode cX8_mixGrip 91 = .ok (.lreturn, 1) := by decide +kernel
theorem dX8_mix_0 : decode cX8_mix 0 = .ok (.lload_n 0, 1) := by decide +kernel
theorem dX8_mix_1 : decode cX8_mix 1 = .ok (.ldc2_w 264, 3) := by decide +kernel
theorem dX8_mix_4 : decode cX8_mix 4 = .ok (.lmul, 1) := by decide +kernel
theorem dX8_mix_5 : decode cX8_mix 5 = .ok (.iload_n 2, 1) := by decide +kernel
theorem dX8_mix_6 : decode cX8_mix 6 = .ok (.i2l, 1) := by decide +kernel
theorem dX8_mix_7 : decode cX8_mix 7 = .ok (.ladd, 1) := by decide +kernel
theorem dX8_mix_8 : decode cX8_mix 8 = .ok (.lreturn, 1) := by decide +kernel
theorem dX8_askWhole_0 : decode cX8_askWhole 0 = .ok (.iload_n 1, 1) := by decide +kernel
theorem dX8_askWhole_1 : decode cX8_askWhole 1 = .ok (.tableswitch 99 0 6 #[43, 51, 59, 67, 75, 83, 91], 43) := by decide +kernel
theorem dX8_askWhole_44 : decode cX8_askWhole 44 = .ok (.aload_n 0, 1) := by decide +kernel
theorem dX8_askWhole_45 : decode cX8_askWhole 45 = .ok (.getfield 10, 3) := by decide +kernel
theorem dX8_askWhole_48 : decode cX8_askWhole 48 = .ok (.getfield 58, 3) := by decide +kernel
theorem dX8_askWhole_51 : decode cX8_askWhole 51 = .ok (.ireturn, 1) := by decide +kernel
theorem dX8_askWhole_52 : decode cX8_askWhole 52 = .ok (.aload_n 0, 1) := by decide +kernel
theorem dX8_askWhole_53 : decode cX8_askWhole 53 = .ok (.getfield 10, 3) := by decide +kernel
theorem dX8_askWhole_56 : decode cX8_askWhole 56 = .ok (.invokevirtual 87, 3) := by decide +kernel
theorem dX8_askWhole_59 : decode cX8_askWhole 59 = .ok (.ireturn, 1) := by decide +kernel
theorem dX8_askWhole_60 : decode cX8_askWhole 60 = .ok (.aload_n 0, 1) := by decide +kernel
theorem dX8_askWhole_61 : decode cX8_askWhole 61 = .ok (.getfield 10, 3) := by decide +kernel
theorem dX8_askWhole_64 : decode cX8_askWhole 64 = .ok (.getfield 94, 3) := by decide +kernel
theorem dX8_askWhole_67 : decode cX8_askWhole 67 = .ok (.ireturn, 1) := by decide +kernel
theorem dX8_askWhole_68 : decode cX8_askWhole 68 = .ok (.aload_n 0, 1) := by decide +kernel
theorem dX8_askWhole_69 : decode cX8_askWhole 69 = .ok (.getfield 10, 3) := by decide +kernel
theorem dX8_askWhole_72 : decode cX8_askWhole 72 = .ok (.getfield 100, 3) := by decide +kernel
theorem dX8_askWhole_75 : decode cX8_askWhole 75 = .ok (.ireturn, 1) := by decide +kernel
theorem dX8_askWhole_76 : decode cX8_askWhole 76 = .ok (.aload_n 0, 1) := by decide +kernel
theorem dX8_askWhole_77 : decode cX8_askWhole 77 = .ok (.getfield 22, 3) := by decide +kernel
theorem dX8_askWhole_80 : decode cX8_askWhole 80 = .ok (.getfield 127, 3) := by decide +kernel
theorem dX8_askWhole_83 : decode cX8_askWhole 83 = .ok (.ireturn, 1) := by decide +kernel
theorem dX8_askWhole_84 : decode cX8_askWhole 84 = .ok (.aload_n 0, 1) := by decide +kernel
theorem dX8_askWhole_85 : decode cX8_askWhole 85 = .ok (.getfield 29, 3) := by decide +kernel
theorem dX8_askWhole_88 : decode cX8_askWhole 88 = .ok (.invokevirtual 266, 3) := by decide +kernel
theorem dX8_askWhole_91 : decode cX8_askWhole 91 = .ok (.ireturn, 1) := by decide +kernel
theorem dX8_askWhole_92 : decode cX8_askWhole 92 = .ok (.aload_n 0, 1) := by decide +kernel
theorem dX8_askWhole_93 : decode cX8_askWhole 93 = .ok (.getfield 29, 3) := by decide +kernel
theorem dX8_askWhole_96 : decode cX8_askWhole 96 = .ok (.invokevirtual 269, 3) := by decide +kernel
theorem dX8_askWhole_99 : decode cX8_askWhole 99 = .ok (.ireturn, 1) := by decide +kernel
theorem dX8_askWhole_100 : decode cX8_askWhole 100 = .ok (.aload_n 0, 1) := by decide +kernel
theorem dX8_askWhole_101 : decode cX8_askWhole 101 = .ok (.getfield 29, 3) := by decide +kernel
theorem dX8_askWhole_104 : decode cX8_askWhole 104 = .ok (.invokevirtual 272, 3) := by decide +kernel
theorem dX8_askWhole_107 : decode cX8_askWhole 107 = .ok (.ireturn, 1) := by decide +kernel
theorem dX8_askChord_0 : decode cX8_askChord 0 = .ok (.aload_n 0, 1) := by decide +kernel
theorem dX8_askChord_1 : decode cX8_askChord 1 = .ok (.getfield 22, 3) := by decide +kernel
theorem dX8_askChord_4 : decode cX8_askChord 4 = .ok (.getfield 157, 3) := by decide +kernel
theorem dX8_askChord_7 : decode cX8_askChord 7 = .ok (.iload_n 1, 1) := by decide +kernel
theorem dX8_askChord_8 : decode cX8_askChord 8 = .ok (.aaload, 1) := by decide +kernel
theorem dX8_askChord_9 : decode cX8_askChord 9 = .ok (.astore_n 3, 1) := by decide +kernel
theorem dX8_askChord_10 : decode cX8_askChord 10 = .ok (.iload_n 2, 1) := by decide +kernel
theorem dX8_askChord_11 : decode cX8_askChord 11 = .ok (.tableswitch 66 0 4 #[33, 38, 43, 48, 53], 33) := by decide +kernel
theorem dX8_askChord_44 : decode cX8_askChord 44 = .ok (.aload_n 3, 1) := by decide +kernel
theorem dX8_askChord_45 : decode cX8_askChord 45 = .ok (.getfield 275, 3) := by decide +kernel
theorem dX8_askChord_48 : decode cX8_askChord 48 = .ok (.ireturn, 1) := by decide +kernel
theorem dX8_askChord_49 : decode cX8_askChord 49 = .ok (.aload_n 3, 1) := by decide +kernel
theorem dX8_askChord_50 : decode cX8_askChord 50 = .ok (.invokevirtual 278, 3) := by decide +kernel
theorem dX8_askChord_53 : decode cX8_askChord 53 = .ok (.ireturn, 1) := by decide +kernel
theorem dX8_askChord_54 : decode cX8_askChord 54 = .ok (.aload_n 3, 1) := by decide +kernel
theorem dX8_askChord_55 : decode cX8_askChord 55 = .ok (.invokevirtual 281, 3) := by decide +kernel
theorem dX8_askChord_58 : decode cX8_askChord 58 = .ok (.ireturn, 1) := by decide +kernel
theorem dX8_askChord_59 : decode cX8_askChord 59 = .ok (.aload_n 3, 1) := by decide +kernel
theorem dX8_askChord_60 : decode cX8_askChord 60 = .ok (.getfield 284, 3) := by decide +kernel
theorem dX8_askChord_63 : decode cX8_askChord 63 = .ok (.ireturn, 1) := by decide +kernel
theorem dX8_askChord_64 : decode cX8_askChord 64 = .ok (.aload_n 0, 1) := by decide +kernel
theorem dX8_askChord_65 : decode cX8_askChord 65 = .ok (.getfield 29, 3) := by decide +kernel
theorem dX8_askChord_68 : decode cX8_askChord 68 = .ok (.getfield 254, 3) := by decide +kernel
theorem dX8_askChord_71 : decode cX8_askChord 71 = .ok (.iload_n 1, 1) := by decide +kernel
theorem dX8_askChord_72 : decode cX8_askChord 72 = .ok (.aaload, 1) := by decide +kernel
theorem dX8_askChord_73 : decode cX8_askChord 73 = .ok (.getfield 287, 3) := by decide +kernel
theorem dX8_askChord_76 : decode cX8_askChord 76 = .ok (.ireturn, 1) := by decide +kernel
theorem dX8_askChord_77 : decode cX8_askChord 77 = .ok (.aload_n 0, 1) := by decide +kernel
theorem dX8_askChord_78 : decode cX8_askChord 78 = .ok (.getfield 29, 3) := by decide +kernel
theorem dX8_askChord_81 : decode cX8_askChord 81 = .ok (.getfield 236, 3) := by decide +kernel
theorem dX8_askChord_84 : decode cX8_askChord 84 = .ok (.iload_n 1, 1) := by decide +kernel
theorem dX8_askChord_85 : decode cX8_askChord 85 = .ok (.iaload, 1) := by decide +kernel
theorem dX8_askChord_86 : decode cX8_askChord 86 = .ok (.ireturn, 1) := by decide +kernel
theorem dX8_askHand_0 : decode cX8_askHand 0 = .ok (.iload_n 1, 1) := by decide +kernel
theorem dX8_askHand_1 : decode cX8_askHand 1 = .ok (.tableswitch 83 0 4 #[35, 43, 51, 59, 67], 35) := by decide +kernel
theorem dX8_askHand_36 : decode cX8_askHand 36 = .ok (.aload_n 0, 1) := by decide +kernel
theorem dX8_askHand_37 : decode cX8_askHand 37 = .ok (.getfield 46, 3) := by decide +kernel
theorem dX8_askHand_40 : decode cX8_askHand 40 = .ok (.invokevirtual 288, 3) := by decide +kernel
theorem dX8_askHand_43 : decode cX8_askHand 43 = .ok (.ireturn, 1) := by decide +kernel
theorem dX8_askHand_44 : decode cX8_askHand 44 = .ok (.aload_n 0, 1) := by decide +kernel
theorem dX8_askHand_45 : decode cX8_askHand 45 = .ok (.getfield 46, 3) := by decide +kernel
theorem dX8_askHand_48 : decode cX8_askHand 48 = .ok (.getfield 291, 3) := by decide +kernel
theorem dX8_askHand_51 : decode cX8_askHand 51 = .ok (.ireturn, 1) := by decide +kernel
theorem dX8_askHand_52 : decode cX8_askHand 52 = .ok (.aload_n 0, 1) := by decide +kernel
theorem dX8_askHand_53 : decode cX8_askHand 53 = .ok (.getfield 46, 3) := by decide +kernel
theorem dX8_askHand_56 : decode cX8_askHand 56 = .ok (.getfield 294, 3) := by decide +kernel
theorem dX8_askHand_59 : decode cX8_askHand 59 = .ok (.ireturn, 1) := by decide +kernel
theorem dX8_askHand_60 : decode cX8_askHand 60 = .ok (.aload_n 0, 1) := by decide +kernel
theorem dX8_askHand_61 : decode cX8_askHand 61 = .ok (.getfield 46, 3) := by decide +kernel
theorem dX8_askHand_64 : decode cX8_askHand 64 = .ok (.invokevirtual 297, 3) := by decide +kernel
theorem dX8_askHand_67 : decode cX8_askHand 67 = .ok (.ireturn, 1) := by decide +kernel
theorem dX8_askHand_68 : decode cX8_askHand 68 = .ok (.aload_n 0, 1) := by decide +kernel
theorem dX8_askHand_69 : decode cX8_askHand 69 = .ok (.getfield 46, 3) := by decide +kernel
theorem dX8_askHand_72 : decode cX8_askHand 72 = .ok (.getfield 300, 3) := by decide +kernel
theorem dX8_askHand_75 : decode cX8_askHand 75 = .ok (.ifCond .eq 7, 3) := by decide +kernel
theorem dX8_askHand_78 : decode cX8_askHand 78 = .ok (.iconst 1, 1) := by decide +kernel
theorem dX8_askHand_79 : decode cX8_askHand 79 = .ok (.goto 4, 3) := by decide +kernel
theorem dX8_askHand_82 : decode cX8_askHand 82 = .ok (.iconst 0, 1) := by decide +kernel
theorem dX8_askHand_83 : decode cX8_askHand 83 = .ok (.ireturn, 1) := by decide +kernel
theorem dX8_askHand_84 : decode cX8_askHand 84 = .ok (.aload_n 0, 1) := by decide +kernel
theorem dX8_askHand_85 : decode cX8_askHand 85 = .ok (.getfield 46, 3) := by decide +kernel
theorem dX8_askHand_88 : decode cX8_askHand 88 = .ok (.getfield 303, 3) := by decide +kernel
theorem dX8_askHand_91 : decode cX8_askHand 91 = .ok (.ireturn, 1) := by decide +kernel
theorem dX8_totalUnder_0 : decode cX8_totalUnder 0 = .ok (.aload_n 0, 1) := by decide +kernel
theorem dX8_totalUnder_1 : decode cX8_totalUnder 1 = .ok (.getfield 16, 3) := by decide +kernel
theorem dX8_totalUnder_4 : decode cX8_totalUnder 4 = .ok (.aload_n 0, 1) := by decide +kernel
theorem dX8_totalUnder_5 : decode cX8_totalUnder 5 = .ok (.getfield 10, 3) := by decide +kernel
theorem dX8_totalUnder_8 : decode cX8_totalUnder 8 = .ok (.invokevirtual 225, 3) := by decide +kernel
theorem dX8_totalUnder_11 : decode cX8_totalUnder 11 = .ok (.aload_n 0, 1) := by decide +kernel
theorem dX8_totalUnder_12 : decode cX8_totalUnder 12 = .ok (.getfield 16, 3) := by decide +kernel
theorem dX8_totalUnder_15 : decode cX8_totalUnder 15 = .ok (.iload_n 1, 1) := by decide +kernel
theorem dX8_totalUnder_16 : decode cX8_totalUnder 16 = .ok (.putfield 94, 3) := by decide +kernel
theorem dX8_totalUnder_19 : decode cX8_totalUnder 19 = .ok (.aload_n 0, 1) := by decide +kernel
theorem dX8_totalUnder_20 : decode cX8_totalUnder 20 = .ok (.getfield 16, 3) := by decide +kernel
theorem dX8_totalUnder_23 : decode cX8_totalUnder 23 = .ok (.iload_n 2, 1) := by decide +kernel
theorem dX8_totalUnder_24 : decode cX8_totalUnder 24 = .ok (.putfield 100, 3) := by decide +kernel
theorem dX8_totalUnder_27 : decode cX8_totalUnder 27 = .ok (.aload_n 0, 1) := by decide +kernel
theorem dX8_totalUnder_28 : decode cX8_totalUnder 28 = .ok (.getfield 33, 3) := by decide +kernel
theorem dX8_totalUnder_31 : decode cX8_totalUnder 31 = .ok (.aload_n 0, 1) := by decide +kernel
theorem dX8_totalUnder_32 : decode cX8_totalUnder 32 = .ok (.getfield 16, 3) := by decide +kernel
theorem dX8_totalUnder_35 : decode cX8_totalUnder 35 = .ok (.aload_n 0, 1) := by decide +kernel
theorem dX8_totalUnder_36 : decode cX8_totalUnder 36 = .ok (.getfield 22, 3) := by decide +kernel
theorem dX8_totalUnder_39 : decode cX8_totalUnder 39 = .ok (.invokevirtual 229, 3) := by decide +kernel
theorem dX8_totalUnder_42 : decode cX8_totalUnder 42 = .ok (.aload_n 0, 1) := by decide +kernel
theorem dX8_totalUnder_43 : decode cX8_totalUnder 43 = .ok (.getfield 33, 3) := by decide +kernel
theorem dX8_totalUnder_46 : decode cX8_totalUnder 46 = .ok (.invokevirtual 233, 3) := by decide +kernel
theorem dX8_totalUnder_49 : decode cX8_totalUnder 49 = .ok (.aload_n 0, 1) := by decide +kernel
theorem dX8_totalUnder_50 : decode cX8_totalUnder 50 = .ok (.getfield 33, 3) := by decide +kernel
theorem dX8_totalUnder_53 : decode cX8_totalUnder 53 = .ok (.getfield 195, 3) := by decide +kernel
theorem dX8_totalUnder_56 : decode cX8_totalUnder 56 = .ok (.ireturn, 1) := by decide +kernel
theorem dX8_instrumentChanged_0 : decode cX8_instrumentChanged 0 = .ok (.aload_n 0, 1) := by decide +kernel
theorem dX8_instrumentChanged_1 : decode cX8_instrumentChanged 1 = .ok (.iconst 1, 1) := by decide +kernel
theorem dX8_instrumentChanged_2 : decode cX8_instrumentChanged 2 = .ok (.putfield 50, 3) := by decide +kernel
theorem dX8_instrumentChanged_5 : decode cX8_instrumentChanged 5 = .ok (.aload_n 0, 1) := by decide +kernel
theorem dX8_instrumentChanged_6 : decode cX8_instrumentChanged 6 = .ok (.getfield 39, 3) := by decide +kernel
theorem dX8_instrumentChanged_9 : decode cX8_instrumentChanged 9 = .ok (.invokevirtual 306, 3) := by decide +kernel
theorem dX8_instrumentChanged_12 : decode cX8_instrumentChanged 12 = .ok (.return_, 1) := by decide +kernel
theorem dX8_refreshPlan_0 : decode cX8_refreshPlan 0 = .ok (.aload_n 0, 1) := by decide +kernel
theorem dX8_refreshPlan_1 : decode cX8_refreshPlan 1 = .ok (.getfield 50, 3) := by decide +kernel
theorem dX8_refreshPlan_4 : decode cX8_refreshPlan 4 = .ok (.ifCond .eq 30, 3) := by decide +kernel
theorem dX8_refreshPlan_7 : decode cX8_refreshPlan 7 = .ok (.aload_n 0, 1) := by decide +kernel
theorem dX8_refreshPlan_8 : decode cX8_refreshPlan 8 = .ok (.getfield 29, 3) := by decide +kernel
theorem dX8_refreshPlan_11 : decode cX8_refreshPlan 11 = .ok (.aload_n 0, 1) := by decide +kernel
theorem dX8_refreshPlan_12 : decode cX8_refreshPlan 12 = .ok (.getfield 10, 3) := by decide +kernel
theorem dX8_refreshPlan_15 : decode cX8_refreshPlan 15 = .ok (.aload_n 0, 1) := by decide +kernel
theorem dX8_refreshPlan_16 : decode cX8_refreshPlan 16 = .ok (.getfield 22, 3) := by decide +kernel
theorem dX8_refreshPlan_19 : decode cX8_refreshPlan 19 = .ok (.invokevirtual 229, 3) := by decide +kernel
theorem dX8_refreshPlan_22 : decode cX8_refreshPlan 22 = .ok (.aload_n 0, 1) := by decide +kernel
theorem dX8_refreshPlan_23 : decode cX8_refreshPlan 23 = .ok (.getfield 29, 3) := by decide +kernel
theorem dX8_refreshPlan_26 : decode cX8_refreshPlan 26 = .ok (.invokevirtual 233, 3) := by decide +kernel
theorem dX8_refreshPlan_29 : decode cX8_refreshPlan 29 = .ok (.aload_n 0, 1) := by decide +kernel
theorem dX8_refreshPlan_30 : decode cX8_refreshPlan 30 = .ok (.iconst 0, 1) := by decide +kernel
theorem dX8_refreshPlan_31 : decode cX8_refreshPlan 31 = .ok (.putfield 50, 3) := by decide +kernel
theorem dX8_refreshPlan_34 : decode cX8_refreshPlan 34 = .ok (.return_, 1) := by decide +kernel
theorem dX8_freshVoicing_0 : decode cX8_freshVoicing 0 = .ok (.aload_n 0, 1) := by decide +kernel
theorem dX8_freshVoicing_1 : decode cX8_freshVoicing 1 = .ok (.getfield 39, 3) := by decide +kernel
theorem dX8_freshVoicing_4 : decode cX8_freshVoicing 4 = .ok (.iload_n 1, 1) := by decide +kernel
theorem dX8_freshVoicing_5 : decode cX8_freshVoicing 5 = .ok (.iload_n 2, 1) := by decide +kernel
theorem dX8_freshVoicing_6 : decode cX8_freshVoicing 6 = .ok (.iload_n 3, 1) := by decide +kernel
theorem dX8_freshVoicing_7 : decode cX8_freshVoicing 7 = .ok (.invokevirtual 309, 3) := by decide +kernel
theorem dX8_freshVoicing_10 : decode cX8_freshVoicing 10 = .ok (.ifCond .ne 17, 3) := by decide +kernel
theorem dX8_freshVoicing_13 : decode cX8_freshVoicing 13 = .ok (.aload_n 0, 1) := by decide +kernel
theorem dX8_freshVoicing_14 : decode cX8_freshVoicing 14 = .ok (.getfield 39, 3) := by decide +kernel
theorem dX8_freshVoicing_17 : decode cX8_freshVoicing 17 = .ok (.aload_n 0, 1) := by decide +kernel
theorem dX8_freshVoicing_18 : decode cX8_freshVoicing 18 = .ok (.getfield 10, 3) := by decide +kernel
theorem dX8_freshVoicing_21 : decode cX8_freshVoicing 21 = .ok (.iload_n 1, 1) := by decide +kernel
theorem dX8_freshVoicing_22 : decode cX8_freshVoicing 22 = .ok (.iload_n 2, 1) := by decide +kernel
theorem dX8_freshVoicing_23 : decode cX8_freshVoicing 23 = .ok (.iload_n 3, 1) := by decide +kernel
theorem dX8_freshVoicing_24 : decode cX8_freshVoicing 24 = .ok (.invokevirtual 313, 3) := by decide +kernel
theorem dX8_freshVoicing_27 : decode cX8_freshVoicing 27 = .ok (.aload_n 0, 1) := by decide +kernel
theorem dX8_freshVoicing_28 : decode cX8_freshVoicing 28 = .ok (.getfield 39, 3) := by decide +kernel
theorem dX8_freshVoicing_31 : decode cX8_freshVoicing 31 = .ok (.areturn, 1) := by decide +kernel
theorem dX8_needString_0 : decode cX8_needString 0 = .ok (.iload_n 1, 1) := by decide +kernel
theorem dX8_needString_1 : decode cX8_needString 1 = .ok (.ifCond .lt 14, 3) := by decide +kernel
theorem dX8_needString_4 : decode cX8_needString 4 = .ok (.iload_n 1, 1) := by decide +kernel
theorem dX8_needString_5 : decode cX8_needString 5 = .ok (.aload_n 0, 1) := by decide +kernel
theorem dX8_needString_6 : decode cX8_needString 6 = .ok (.getfield 10, 3) := by decide +kernel
theorem dX8_needString_9 : decode cX8_needString 9 = .ok (.getfield 58, 3) := by decide +kernel
theorem dX8_needString_12 : decode cX8_needString 12 = .ok (.if_icmp .lt 14, 3) := by decide +kernel
theorem dX8_needString_15 : decode cX8_needString 15 = .ok (.new 317, 3) := by decide +kernel
theorem dX8_needString_18 : decode cX8_needString 18 = .ok (.dup, 1) := by decide +kernel
theorem dX8_needString_19 : decode cX8_needString 19 = .ok (.ldc_w 319, 3) := by decide +kernel
theorem dX8_needString_22 : decode cX8_needString 22 = .ok (.invokespecial 321, 3) := by decide +kernel
theorem dX8_needString_25 : decode cX8_needString 25 = .ok (.athrow, 1) := by decide +kernel
theorem dX8_needString_26 : decode cX8_needString 26 = .ok (.return_, 1) := by decide +kernel
theorem dX8_needChord_0 : decode cX8_needChord 0 = .ok (.iload_n 1, 1) := by decide +kernel
theorem dX8_needChord_1 : decode cX8_needChord 1 = .ok (.ifCond .lt 14, 3) := by decide +kernel
theorem dX8_needChord_4 : decode cX8_needChord 4 = .ok (.iload_n 1, 1) := by decide +kernel
theorem dX8_needChord_5 : decode cX8_needChord 5 = .ok (.aload_n 0, 1) := by decide +kernel
theorem dX8_needChord_6 : decode cX8_needChord 6 = .ok (.getfield 22, 3) := by decide +kernel
theorem dX8_needChord_9 : decode cX8_needChord 9 = .ok (.getfield 127, 3) := by decide +kernel
theorem dX8_needChord_12 : decode cX8_needChord 12 = .ok (.if_icmp .lt 14, 3) := by decide +kernel
theorem dX8_needChord_15 : decode cX8_needChord 15 = .ok (.new 317, 3) := by decide +kernel
theorem dX8_needChord_18 : decode cX8_needChord 18 = .ok (.dup, 1) := by decide +kernel
theorem dX8_needChord_19 : decode cX8_needChord 19 = .ok (.ldc_w 322, 3) := by decide +kernel
theorem dX8_needChord_22 : decode cX8_needChord 22 = .ok (.invokespecial 321, 3) := by decide +kernel
theorem dX8_needChord_25 : decode cX8_needChord 25 = .ok (.athrow, 1) := by decide +kernel
theorem dX8_needChord_26 : decode cX8_needChord 26 = .ok (.return_, 1) := by decide +kernel
theorem dX8_needGrip_0 : decode cX8_needGrip 0 = .ok (.aload_n 0, 1) := by decide +kernel
theorem dX8_needGrip_1 : decode cX8_needGrip 1 = .ok (.iload_n 1, 1) := by decide +kernel
theorem dX8_needGrip_2 : decode cX8_needGrip 2 = .ok (.invokevirtual 139, 3) := by decide +kernel
theorem dX8_needGrip_5 : decode cX8_needGrip 5 = .ok (.aload_n 0, 1) := by decide +kernel
theorem dX8_needGrip_6 : decode cX8_needGrip 6 = .ok (.invokevirtual 168, 3) := by decide +kernel
theorem dX8_needGrip_9 : decode cX8_needGrip 9 = .ok (.aload_n 0, 1) := by decide +kernel
theorem dX8_needGrip_10 : decode cX8_needGrip 10 = .ok (.getfield 29, 3) := by decide +kernel
theorem dX8_needGrip_13 : decode cX8_needGrip 13 = .ok (.getfield 254, 3) := by decide +kernel
theorem dX8_needGrip_16 : decode cX8_needGrip 16 = .ok (.iload_n 1, 1) := by decide +kernel
theorem dX8_needGrip_17 : decode cX8_needGrip 17 = .ok (.aaload, 1) := by decide +kernel
theorem dX8_needGrip_18 : decode cX8_needGrip 18 = .ok (.iload_n 2, 1) := by decide +kernel
theorem dX8_needGrip_19 : decode cX8_needGrip 19 = .ok (.invokevirtual 258, 3) := by decide +kernel
theorem dX8_needGrip_22 : decode cX8_needGrip 22 = .ok (.ifCond .ne 14, 3) := by decide +kernel
theorem dX8_needGrip_25 : decode cX8_needGrip 25 = .ok (.new 317, 3) := by decide +kernel
theorem dX8_needGrip_28 : decode cX8_needGrip 28 = .ok (.dup, 1) := by decide +kernel
theorem dX8_needGrip_29 : decode cX8_needGrip 29 = .ok (.ldc_w 324, 3) := by decide +kernel
theorem dX8_needGrip_32 : decode cX8_needGrip 32 = .ok (.invokespecial 321, 3) := by decide +kernel
theorem dX8_needGrip_35 : decode cX8_needGrip 35 = .ok (.athrow, 1) := by decide +kernel
theorem dX8_needGrip_36 : decode cX8_needGrip 36 = .ok (.aload_n 0, 1) := by decide +kernel
theorem dX8_needGrip_37 : decode cX8_needGrip 37 = .ok (.getfield 29, 3) := by decide +kernel
theorem dX8_needGrip_40 : decode cX8_needGrip 40 = .ok (.getfield 254, 3) := by decide +kernel
theorem dX8_needGrip_43 : decode cX8_needGrip 43 = .ok (.iload_n 1, 1) := by decide +kernel
theorem dX8_needGrip_44 : decode cX8_needGrip 44 = .ok (.aaload, 1) := by decide +kernel
theorem dX8_needGrip_45 : decode cX8_needGrip 45 = .ok (.areturn, 1) := by decide +kernel
theorem dX8_needQuestion_0 : decode cX8_needQuestion 0 = .ok (.iload_n 0, 1) := by decide +kernel
theorem dX8_needQuestion_1 : decode cX8_needQuestion 1 = .ok (.ifCond .lt 8, 3) := by decide +kernel
theorem dX8_needQuestion_4 : decode cX8_needQuestion 4 = .ok (.iload_n 0, 1) := by decide +kernel
theorem dX8_needQuestion_5 : decode cX8_needQuestion 5 = .ok (.iload_n 1, 1) := by decide +kernel
theorem dX8_needQuestion_6 : decode cX8_needQuestion 6 = .ok (.if_icmp .le 14, 3) := by decide +kernel
theorem dX8_needQuestion_9 : decode cX8_needQuestion 9 = .ok (.new 107, 3) := by decide +kernel
theorem dX8_needQuestion_12 : decode cX8_needQuestion 12 = .ok (.dup, 1) := by decide +kernel
theorem dX8_needQuestion_13 : decode cX8_needQuestion 13 = .ok (.ldc_w 326, 3) := by decide +kernel
theorem dX8_needQuestion_16 : decode cX8_needQuestion 16 = .ok (.invokespecial 111, 3) := by decide +kernel
theorem dX8_needQuestion_19 : decode cX8_needQuestion 19 = .ok (.athrow, 1) := by decide +kernel
theorem dX8_needQuestion_20 : decode cX8_needQuestion 20 = .ok (.return_, 1) := by decide +kernel
theorem dX8_needOpen_0 : decode cX8_needOpen 0 = .ok (.iload_n 0, 1) := by decide +kernel
theorem dX8_needOpen_1 : decode cX8_needOpen 1 = .ok (.ifCond .lt 9, 3) := by decide +kernel
theorem dX8_needOpen_4 : decode cX8_needOpen 4 = .ok (.iload_n 0, 1) := by decide +kernel
theorem dX8_needOpen_5 : decode cX8_needOpen 5 = .ok (.bipush 60, 2) := by decide +kernel
theorem dX8_needOpen_7 : decode cX8_needOpen 7 = .ok (.if_icmp .le 14, 3) := by decide +kernel
theorem dX8_needOpen_10 : decode cX8_needOpen 10 = .ok (.new 107, 3) := by decide +kernel
theorem dX8_needOpen_13 : decode cX8_needOpen 13 = .ok (.dup, 1) := by decide +kernel
theorem dX8_needOpen_14 : decode cX8_needOpen 14 = .ok (.ldc_w 328, 3) := by decide +kernel
theorem dX8_needOpen_17 : decode cX8_needOpen 17 = .ok (.invokespecial 111, 3) := by decide +kernel
theorem dX8_needOpen_20 : decode cX8_needOpen 20 = .ok (.athrow, 1) := by decide +kernel
theorem dX8_needOpen_21 : decode cX8_needOpen 21 = .ok (.return_, 1) := by decide +kernel
theorem dX8_needCapo_0 : decode cX8_needCapo 0 = .ok (.iload_n 0, 1) := by decide +kernel
theorem dX8_needCapo_1 : decode cX8_needCapo 1 = .ok (.ifCond .lt 9, 3) := by decide +kernel
theorem dX8_needCapo_4 : decode cX8_needCapo 4 = .ok (.iload_n 0, 1) := by decide +kernel
theorem dX8_needCapo_5 : decode cX8_needCapo 5 = .ok (.bipush 7, 2) := by decide +kernel
theorem dX8_needCapo_7 : decode cX8_needCapo 7 = .ok (.if_icmp .le 14, 3) := by decide +kernel
theorem dX8_needCapo_10 : decode cX8_needCapo 10 = .ok (.new 107, 3) := by decide +kernel
theorem dX8_needCapo_13 : decode cX8_needCapo 13 = .ok (.dup, 1) := by decide +kernel
theorem dX8_needCapo_14 : decode cX8_needCapo 14 = .ok (.ldc_w 330, 3) := by decide +kernel
theorem dX8_needCapo_17 : decode cX8_needCapo 17 = .ok (.invokespecial 111, 3) := by decide +kernel
theorem dX8_needCapo_20 : decode cX8_needCapo 20 = .ok (.athrow, 1) := by decide +kernel
theorem dX8_needCapo_21 : decode cX8_needCapo 21 = .ok (.return_, 1) := by decide +kernel
theorem dX8_needReach_0 : decode cX8_needReach 0 = .ok (.iload_n 0, 1) := by decide +kernel
theorem dX8_needReach_1 : decode cX8_needReach 1 = .ok (.iconst 1, 1) := by decide +kernel
theorem dX8_needReach_2 : decode cX8_needReach 2 = .ok (.if_icmp .lt 9, 3) := by decide +kernel
theorem dX8_needReach_5 : decode cX8_needReach 5 = .ok (.iload_n 0, 1) := by decide +kernel
theorem dX8_needReach_6 : decode cX8_needReach 6 = .ok (.bipush 6, 2) := by decide +kernel
theorem dX8_needReach_8 : decode cX8_needReach 8 = .ok (.if_icmp .le 14, 3) := by decide +kernel
theorem dX8_needReach_11 : decode cX8_needReach 11 = .ok (.new 107, 3) := by decide +kernel
theorem dX8_needReach_14 : decode cX8_needReach 14 = .ok (.dup, 1) := by decide +kernel
theorem dX8_needReach_15 : decode cX8_needReach 15 = .ok (.ldc_w 332, 3) := by decide +kernel
theorem dX8_needReach_18 : decode cX8_needReach 18 = .ok (.invokespecial 111, 3) := by decide +kernel
theorem dX8_needReach_21 : decode cX8_needReach 21 = .ok (.athrow, 1) := by decide +kernel
theorem dX8_needReach_22 : decode cX8_needReach 22 = .ok (.return_, 1) := by decide +kernel
theorem dX8_needVoicing_0 : decode cX8_needVoicing 0 = .ok (.iload_n 0, 1) := by decide +kernel
theorem dX8_needVoicing_1 : decode cX8_needVoicing 1 = .ok (.iconst 1, 1) := by decide +kernel
theorem dX8_needVoicing_2 : decode cX8_needVoicing 2 = .ok (.if_icmp .lt 18, 3) := by decide +kernel
theorem dX8_needVoicing_5 : decode cX8_needVoicing 5 = .ok (.iload_n 0, 1) := by decide +kernel
theorem dX8_needVoicing_6 : decode cX8_needVoicing 6 = .ok (.sipush 4095, 3) := by decide +kernel
theorem dX8_needVoicing_9 : decode cX8_needVoicing 9 = .ok (.if_icmp .gt 11, 3) := by decide +kernel
theorem dX8_needVoicing_12 : decode cX8_needVoicing 12 = .ok (.iload_n 0, 1) := by decide +kernel
theorem dX8_needVoicing_13 : decode cX8_needVoicing 13 = .ok (.invokestatic 334, 3) := by decide +kernel
theorem dX8_needVoicing_16 : decode cX8_needVoicing 16 = .ok (.iconst 4, 1) := by decide +kernel
theorem dX8_needVoicing_17 : decode cX8_needVoicing 17 = .ok (.if_icmp .le 14, 3) := by decide +kernel
theorem dX8_needVoicing_20 : decode cX8_needVoicing 20 = .ok (.new 107, 3) := by decide +kernel
theorem dX8_needVoicing_23 : decode cX8_needVoicing 23 = .ok (.dup, 1) := by decide +kernel
theorem dX8_needVoicing_24 : decode cX8_needVoicing 24 = .ok (.ldc_w 339, 3) := by decide +kernel
theorem dX8_needVoicing_27 : decode cX8_needVoicing 27 = .ok (.invokespecial 111, 3) := by decide +kernel
theorem dX8_needVoicing_30 : decode cX8_needVoicing 30 = .ok (.athrow, 1) := by decide +kernel
theorem dX8_needVoicing_31 : decode cX8_needVoicing 31 = .ok (.iload_n 1, 1) := by decide +kernel
theorem dX8_needVoicing_32 : decode cX8_needVoicing 32 = .ok (.ifCond .lt 17, 3) := by decide +kernel
theorem dX8_needVoicing_35 : decode cX8_needVoicing 35 = .ok (.iload_n 1, 1) := by decide +kernel
theorem dX8_needVoicing_36 : decode cX8_needVoicing 36 = .ok (.bipush 12, 2) := by decide +kernel
theorem dX8_needVoicing_38 : decode cX8_needVoicing 38 = .ok (.if_icmp .ge 11, 3) := by decide +kernel
theorem dX8_needVoicing_41 : decode cX8_needVoicing 41 = .ok (.iload_n 0, 1) := by decide +kernel
theorem dX8_needVoicing_42 : decode cX8_needVoicing 42 = .ok (.iload_n 1, 1) := by decide +kernel
theorem dX8_needVoicing_43 : decode cX8_needVoicing 43 = .ok (.ishr, 1) := by decide +kernel
theorem dX8_needVoicing_44 : decode cX8_needVoicing 44 = .ok (.iconst 1, 1) := by decide +kernel
theorem dX8_needVoicing_45 : decode cX8_needVoicing 45 = .ok (.iand, 1) := by decide +kernel
theorem dX8_needVoicing_46 : decode cX8_needVoicing 46 = .ok (.ifCond .ne 14, 3) := by decide +kernel
theorem dX8_needVoicing_49 : decode cX8_needVoicing 49 = .ok (.new 107, 3) := by decide +kernel
theorem dX8_needVoicing_52 : decode cX8_needVoicing 52 = .ok (.dup, 1) := by decide +kernel
theorem dX8_needVoicing_53 : decode cX8_needVoicing 53 = .ok (.ldc_w 341, 3) := by decide +kernel
theorem dX8_needVoicing_56 : decode cX8_needVoicing 56 = .ok (.invokespecial 111, 3) := by decide +kernel
theorem dX8_needVoicing_59 : decode cX8_needVoicing 59 = .ok (.athrow, 1) := by decide +kernel
theorem dX8_needVoicing_60 : decode cX8_needVoicing 60 = .ok (.iload_n 2, 1) := by decide +kernel
theorem dX8_needVoicing_61 : decode cX8_needVoicing 61 = .ok (.iconst 1, 1) := by decide +kernel
theorem dX8_needVoicing_62 : decode cX8_needVoicing 62 = .ok (.if_icmp .lt 9, 3) := by decide +kernel
theorem dX8_needVoicing_65 : decode cX8_needVoicing 65 = .ok (.iload_n 2, 1) := by decide +kernel
theorem dX8_needVoicing_66 : decode cX8_needVoicing 66 = .ok (.bipush 9, 2) := by decide +kernel
theorem dX8_needVoicing_68 : decode cX8_needVoicing 68 = .ok (.if_icmp .le 14, 3) := by decide +kernel
theorem dX8_needVoicing_71 : decode cX8_needVoicing 71 = .ok (.new 107, 3) := by decide +kernel
theorem dX8_needVoicing_74 : decode cX8_needVoicing 74 = .ok (.dup, 1) := by decide +kernel
theorem dX8_needVoicing_75 : decode cX8_needVoicing 75 = .ok (.ldc_w 343, 3) := by decide +kernel
theorem dX8_needVoicing_78 : decode cX8_needVoicing 78 = .ok (.invokespecial 111, 3) := by decide +kernel
theorem dX8_needVoicing_81 : decode cX8_needVoicing 81 = .ok (.athrow, 1) := by decide +kernel
theorem dX8_needVoicing_82 : decode cX8_needVoicing 82 = .ok (.return_, 1) := by decide +kernel
theorem dX8_isPitch_0 : decode cX8_isPitch 0 = .ok (.iload_n 0, 1) := by decide +kernel
theorem dX8_isPitch_1 : decode cX8_isPitch 1 = .ok (.ifCond .lt 13, 3) := by decide +kernel
theorem dX8_isPitch_4 : decode cX8_isPitch 4 = .ok (.iload_n 0, 1) := by decide +kernel
theorem dX8_isPitch_5 : decode cX8_isPitch 5 = .ok (.bipush 80, 2) := by decide +kernel
theorem dX8_isPitch_7 : decode cX8_isPitch 7 = .ok (.if_icmp .gt 7, 3) := by decide +kernel
theorem dX8_isPitch_10 : decode cX8_isPitch 10 = .ok (.iconst 1, 1) := by decide +kernel
theorem dX8_isPitch_11 : decode cX8_isPitch 11 = .ok (.goto 4, 3) := by decide +kernel
theorem dX8_isPitch_14 : decode cX8_isPitch 14 = .ok (.iconst 0, 1) := by decide +kernel
theorem dX8_isPitch_15 : decode cX8_isPitch 15 = .ok (.ireturn, 1) := by decide +kernel
theorem dX8_isPitchOrNone_0 : decode cX8_isPitchOrNone 0 = .ok (.iload_n 0, 1) := by decide +kernel
theorem dX8_isPitchOrNone_1 : decode cX8_isPitchOrNone 1 = .ok (.iconst (-1), 1) := by decide +kernel
theorem dX8_isPitchOrNone_2 : decode cX8_isPitchOrNone 2 = .ok (.if_icmp .eq 10, 3) := by decide +kernel
theorem dX8_isPitchOrNone_5 : decode cX8_isPitchOrNone 5 = .ok (.iload_n 0, 1) := by decide +kernel
theorem dX8_isPitchOrNone_6 : decode cX8_isPitchOrNone 6 = .ok (.invokestatic 103, 3) := by decide +kernel
theorem dX8_isPitchOrNone_9 : decode cX8_isPitchOrNone 9 = .ok (.ifCond .eq 7, 3) := by decide +kernel
theorem dX8_isPitchOrNone_12 : decode cX8_isPitchOrNone 12 = .ok (.iconst 1, 1) := by decide +kernel
theorem dX8_isPitchOrNone_13 : decode cX8_isPitchOrNone 13 = .ok (.goto 4, 3) := by decide +kernel
theorem dX8_isPitchOrNone_16 : decode cX8_isPitchOrNone 16 = .ok (.iconst 0, 1) := by decide +kernel
theorem dX8_isPitchOrNone_17 : decode cX8_isPitchOrNone 17 = .ok (.ireturn, 1) := by decide +kernel
theorem dX8_hasTwice_0 : decode cX8_hasTwice 0 = .ok (.iload_n 0, 1) := by decide +kernel
theorem dX8_hasTwice_1 : decode cX8_hasTwice 1 = .ok (.iload_n 1, 1) := by decide +kernel
theorem dX8_hasTwice_2 : decode cX8_hasTwice 2 = .ok (.if_icmp .eq 38, 3) := by decide +kernel
theorem dX8_hasTwice_5 : decode cX8_hasTwice 5 = .ok (.iload_n 0, 1) := by decide +kernel
theorem dX8_hasTwice_6 : decode cX8_hasTwice 6 = .ok (.iload_n 2, 1) := by decide +kernel
theorem dX8_hasTwice_7 : decode cX8_hasTwice 7 = .ok (.if_icmp .eq 33, 3) := by decide +kernel
theorem dX8_hasTwice_10 : decode cX8_hasTwice 10 = .ok (.iload_n 0, 1) := by decide +kernel
theorem dX8_hasTwice_11 : decode cX8_hasTwice 11 = .ok (.iload_n 3, 1) := by decide +kernel
theorem dX8_hasTwice_12 : decode cX8_hasTwice 12 = .ok (.if_icmp .eq 28, 3) := by decide +kernel
theorem dX8_hasTwice_15 : decode cX8_hasTwice 15 = .ok (.iload_n 1, 1) := by decide +kernel
theorem dX8_hasTwice_16 : decode cX8_hasTwice 16 = .ok (.iconst (-1), 1) := by decide +kernel
theorem dX8_hasTwice_17 : decode cX8_hasTwice 17 = .ok (.if_icmp .eq 13, 3) := by decide +kernel
theorem dX8_hasTwice_20 : decode cX8_hasTwice 20 = .ok (.iload_n 1, 1) := by decide +kernel
theorem dX8_hasTwice_21 : decode cX8_hasTwice 21 = .ok (.iload_n 2, 1) := by decide +kernel
theorem dX8_hasTwice_22 : decode cX8_hasTwice 22 = .ok (.if_icmp .eq 18, 3) := by decide +kernel
theorem dX8_hasTwice_25 : decode cX8_hasTwice 25 = .ok (.iload_n 1, 1) := by decide +kernel
theorem dX8_hasTwice_26 : decode cX8_hasTwice 26 = .ok (.iload_n 3, 1) := by decide +kernel
theorem dX8_hasTwice_27 : decode cX8_hasTwice 27 = .ok (.if_icmp .eq 13, 3) := by decide +kernel
theorem dX8_hasTwice_30 : decode cX8_hasTwice 30 = .ok (.iload_n 2, 1) := by decide +kernel
theorem dX8_hasTwice_31 : decode cX8_hasTwice 31 = .ok (.iconst (-1), 1) := by decide +kernel
theorem dX8_hasTwice_32 : decode cX8_hasTwice 32 = .ok (.if_icmp .eq 12, 3) := by decide +kernel
theorem dX8_hasTwice_35 : decode cX8_hasTwice 35 = .ok (.iload_n 2, 1) := by decide +kernel
theorem dX8_hasTwice_36 : decode cX8_hasTwice 36 = .ok (.iload_n 3, 1) := by decide +kernel
theorem dX8_hasTwice_37 : decode cX8_hasTwice 37 = .ok (.if_icmp .ne 7, 3) := by decide +kernel
theorem dX8_hasTwice_40 : decode cX8_hasTwice 40 = .ok (.iconst 1, 1) := by decide +kernel
theorem dX8_hasTwice_41 : decode cX8_hasTwice 41 = .ok (.goto 4, 3) := by decide +kernel
theorem dX8_hasTwice_44 : decode cX8_hasTwice 44 = .ok (.iconst 0, 1) := by decide +kernel
theorem dX8_hasTwice_45 : decode cX8_hasTwice 45 = .ok (.ireturn, 1) := by decide +kernel
theorem dX9_init_0 : decode cX9_init 0 = .ok (.aload_n 0, 1) := by decide +kernel
theorem dX9_init_1 : decode cX9_init 1 = .ok (.invokespecial 1, 3) := by decide +kernel
theorem dX9_init_4 : decode cX9_init 4 = .ok (.aload_n 0, 1) := by decide +kernel
theorem dX9_init_5 : decode cX9_init 5 = .ok (.bipush 6, 2) := by decide +kernel
theorem dX9_init_7 : decode cX9_init 7 = .ok (.newarray .int, 2) := by decide +kernel
theorem dX9_init_9 : decode cX9_init 9 = .ok (.putfield 9, 3) := by decide +kernel
theorem dX9_init_12 : decode cX9_init 12 = .ok (.aload_n 0, 1) := by decide +kernel
theorem dX9_init_13 : decode cX9_init 13 = .ok (.bipush 6, 2) := by decide +kernel
theorem dX9_init_15 : decode cX9_init 15 = .ok (.newarray .boolean, 2) := by decide +kernel
theorem dX9_init_17 : decode cX9_init 17 = .ok (.putfield 13, 3) := by decide +kernel
theorem dX9_init_20 : decode cX9_init 20 = .ok (.aload_n 0, 1) := by decide +kernel
theorem dX9_init_21 : decode cX9_init 21 = .ok (.iconst 3, 1) := by decide +kernel
theorem dX9_init_22 : decode cX9_init 22 = .ok (.putfield 17, 3) := by decide +kernel
theorem dX9_init_25 : decode cX9_init 25 = .ok (.aload_n 0, 1) := by decide +kernel
theorem dX9_init_26 : decode cX9_init 26 = .ok (.bipush 12, 2) := by decide +kernel
theorem dX9_init_28 : decode cX9_init 28 = .ok (.anewarray 21, 3) := by decide +kernel
theorem dX9_init_31 : decode cX9_init 31 = .ok (.putfield 22, 3) := by decide +kernel
theorem dX9_init_34 : decode cX9_init 34 = .ok (.aload_n 0, 1) := by decide +kernel
theorem dX9_init_35 : decode cX9_init 35 = .ok (.bipush 12, 2) := by decide +kernel
theorem dX9_init_37 : decode cX9_init 37 = .ok (.newarray .int, 2) := by decide +kernel
theorem dX9_init_39 : decode cX9_init 39 = .ok (.putfield 26, 3) := by decide +kernel
theorem dX9_init_42 : decode cX9_init 42 = .ok (.aload_n 0, 1) := by decide +kernel
theorem dX9_init_43 : decode cX9_init 43 = .ok (.bipush 12, 2) := by decide +kernel
theorem dX9_init_45 : decode cX9_init 45 = .ok (.newarray .boolean, 2) := by decide +kernel
theorem dX9_init_47 : decode cX9_init 47 = .ok (.putfield 29, 3) := by decide +kernel
theorem dX9_init_50 : decode cX9_init 50 = .ok (.aload_n 0, 1) := by decide +kernel
theorem dX9_init_51 : decode cX9_init 51 = .ok (.bipush 12, 2) := by decide +kernel
theorem dX9_init_53 : decode cX9_init 53 = .ok (.anewarray 21, 3) := by decide +kernel
theorem dX9_init_56 : decode cX9_init 56 = .ok (.putfield 32, 3) := by decide +kernel
theorem dX9_init_59 : decode cX9_init 59 = .ok (.aload_n 0, 1) := by decide +kernel
theorem dX9_init_60 : decode cX9_init 60 = .ok (.bipush 30, 2) := by decide +kernel
theorem dX9_init_62 : decode cX9_init 62 = .ok (.anewarray 21, 3) := by decide +kernel
theorem dX9_init_65 : decode cX9_init 65 = .ok (.putfield 35, 3) := by decide +kernel
theorem dX9_init_68 : decode cX9_init 68 = .ok (.aload_n 0, 1) := by decide +kernel
theorem dX9_init_69 : decode cX9_init 69 = .ok (.bipush 30, 2) := by decide +kernel
theorem dX9_init_71 : decode cX9_init 71 = .ok (.newarray .int, 2) := by decide +kernel
theorem dX9_init_73 : decode cX9_init 73 = .ok (.putfield 38, 3) := by decide +kernel
theorem dX9_init_76 : decode cX9_init 76 = .ok (.aload_n 0, 1) := by decide +kernel
theorem dX9_init_77 : decode cX9_init 77 = .ok (.iconst 0, 1) := by decide +kernel
theorem dX9_init_78 : decode cX9_init 78 = .ok (.newarray .int, 2) := by decide +kernel
theorem dX9_init_80 : decode cX9_init 80 = .ok (.putfield 41, 3) := by decide +kernel
theorem dX9_init_83 : decode cX9_init 83 = .ok (.return_, 1) := by decide +kernel
theorem dX9_thrown_0 : decode cX9_thrown 0 = .ok (.aload_n 0, 1) := by decide +kernel
theorem dX9_thrown_1 : decode cX9_thrown 1 = .ok (.getfield 44, 3) := by decide +kernel
theorem dX9_thrown_4 : decode cX9_thrown 4 = .ok (.ireturn, 1) := by decide +kernel
theorem dX9_no_0 : decode cX9_no 0 = .ok (.aload_n 0, 1) := by decide +kernel
theorem dX9_no_1 : decode cX9_no 1 = .ok (.iload_n 1, 1) := by decide +kernel
theorem dX9_no_2 : decode cX9_no 2 = .ok (.putfield 44, 3) := by decide +kernel
theorem dX9_no_5 : decode cX9_no 5 = .ok (.iconst 0, 1) := by decide +kernel
theorem dX9_no_6 : decode cX9_no 6 = .ok (.ireturn, 1) := by decide +kernel
theorem dX9_isIn_0 : decode cX9_isIn 0 = .ok (.iload_n 0, 1) := by decide +kernel
theorem dX9_isIn_1 : decode cX9_isIn 1 = .ok (.iload_n 1, 1) := by decide +kernel
theorem dX9_isIn_2 : decode cX9_isIn 2 = .ok (.if_icmp .lt 12, 3) := by decide +kernel
theorem dX9_isIn_5 : decode cX9_isIn 5 = .ok (.iload_n 0, 1) := by decide +kernel
theorem dX9_isIn_6 : decode cX9_isIn 6 = .ok (.iload_n 2, 1) := by decide +kernel
theorem dX9_isIn_7 : decode cX9_isIn 7 = .ok (.if_icmp .gt 7, 3) := by decide +kernel
theorem dX9_isIn_10 : decode cX9_isIn 10 = .ok (.iconst 1, 1) := by decide +kernel
theorem dX9_isIn_11 : decode cX9_isIn 11 = .ok (.goto 4, 3) := by decide +kernel
theorem dX9_isIn_14 : decode cX9_isIn 14 = .ok (.iconst 0, 1) := by decide +kernel
theorem dX9_isIn_15 : decode cX9_isIn 15 = .ok (.ireturn, 1) := by decide +kernel
theorem dX9_isString_0 : decode cX9_isString 0 = .ok (.iload_n 1, 1) := by decide +kernel
theorem dX9_isString_1 : decode cX9_isString 1 = .ok (.iconst 0, 1) := by decide +kernel
theorem dX9_isString_2 : decode cX9_isString 2 = .ok (.aload_n 0, 1) := by decide +kernel
theorem dX9_isString_3 : decode cX9_isString 3 = .ok (.getfield 47, 3) := by decide +kernel
theorem dX9_isString_6 : decode cX9_isString 6 = .ok (.iconst 1, 1) := by decide +kernel
theorem dX9_isString_7 : decode cX9_isString 7 = .ok (.isub, 1) := by decide +kernel
theorem dX9_isString_8 : decode cX9_isString 8 = .ok (.invokestatic 50, 3) := by decide +kernel
theorem dX9_isString_11 : decode cX9_isString 11 = .ok (.ireturn, 1) := by decide +kernel
theorem dX9_isChord_0 : decode cX9_isChord 0 = .ok (.iload_n 1, 1) := by decide +kernel
theorem dX9_isChord_1 : decode cX9_isChord 1 = .ok (.iconst 0, 1) := by decide +kernel
theorem dX9_isChord_2 : decode cX9_isChord 2 = .ok (.aload_n 0, 1) := by decide +kernel
theorem dX9_isChord_3 : decode cX9_isChord 3 = .ok (.getfield 54, 3) := by decide +kernel
theorem dX9_isChord_6 : decode cX9_isChord 6 = .ok (.iconst 1, 1) := by decide +kernel
theorem dX9_isChord_7 : decode cX9_isChord 7 = .ok (.isub, 1) := by decide +kernel
theorem dX9_isChord_8 : decode cX9_isChord 8 = .ok (.invokestatic 50, 3) := by decide +kernel
theorem dX9_isChord_11 : decode cX9_isChord 11 = .ok (.ireturn, 1) := by decide +kernel
theorem dX9_string_0 : decode cX9_string 0 = .ok (.aload_n 0, 1) := by decide +kernel
theorem dX9_string_1 : decode cX9_string 1 = .ok (.iconst 0, 1) := by decide +kernel
theorem dX9_string_2 : decode cX9_string 2 = .ok (.putfield 44, 3) := by decide +kernel
theorem dX9_string_5 : decode cX9_string 5 = .ok (.iload_n 1, 1) := by decide +kernel
theorem dX9_string_6 : decode cX9_string 6 = .ok (.iconst 0, 1) := by decide +kernel
theorem dX9_string_7 : decode cX9_string 7 = .ok (.bipush 60, 2) := by decide +kernel
theorem dX9_string_9 : decode cX9_string 9 = .ok (.invokestatic 50, 3) := by decide +kernel
theorem dX9_string_12 : decode cX9_string 12 = .ok (.ifCond .ne 9, 3) := by decide +kernel
theorem dX9_string_15 : decode cX9_string 15 = .ok (.aload_n 0, 1) := by decide +kernel
theorem dX9_string_16 : decode cX9_string 16 = .ok (.iconst 1, 1) := by decide +kernel
theorem dX9_string_17 : decode cX9_string 17 = .ok (.invokevirtual 57, 3) := by decide +kernel
theorem dX9_string_20 : decode cX9_string 20 = .ok (.ireturn, 1) := by decide +kernel
theorem dX9_string_21 : decode cX9_string 21 = .ok (.aload_n 0, 1) := by decide +kernel
theorem dX9_string_22 : decode cX9_string 22 = .ok (.getfield 47, 3) := by decide +kernel
theorem dX9_string_25 : decode cX9_string 25 = .ok (.bipush 6, 2) := by decide +kernel
theorem dX9_string_27 : decode cX9_string 27 = .ok (.if_icmp .ne 9, 3) := by decide +kernel
theorem dX9_string_30 : decode cX9_string 30 = .ok (.aload_n 0, 1) := by decide +kernel
theorem dX9_string_31 : decode cX9_string 31 = .ok (.iconst 2, 1) := by decide +kernel
theorem dX9_string_32 : decode cX9_string 32 = .ok (.invokevirtual 57, 3) := by decide +kernel
theorem dX9_string_35 : decode cX9_string 35 = .ok (.ireturn, 1) := by decide +kernel
theorem dX9_string_36 : decode cX9_string 36 = .ok (.aload_n 0, 1) := by decide +kernel
theorem dX9_string_37 : decode cX9_string 37 = .ok (.getfield 9, 3) := by decide +kernel
theorem dX9_string_40 : decode cX9_string 40 = .ok (.aload_n 0, 1) := by decide +kernel
theorem dX9_string_41 : decode cX9_string 41 = .ok (.getfield 47, 3) := by decide +kernel
theorem dX9_string_44 : decode cX9_string 44 = .ok (.iload_n 1, 1) := by decide +kernel
theorem dX9_string_45 : decode cX9_string 45 = .ok (.iastore, 1) := by decide +kernel
theorem dX9_string_46 : decode cX9_string 46 = .ok (.aload_n 0, 1) := by decide +kernel
theorem dX9_string_47 : decode cX9_string 47 = .ok (.dup, 1) := by decide +kernel
theorem dX9_string_48 : decode cX9_string 48 = .ok (.getfield 47, 3) := by decide +kernel
theorem dX9_string_51 : decode cX9_string 51 = .ok (.dup_x1, 1) := by decide +kernel
theorem dX9_string_52 : decode cX9_string 52 = .ok (.iconst 1, 1) := by decide +kernel
theorem dX9_string_53 : decode cX9_string 53 = .ok (.iadd, 1) := by decide +kernel
theorem dX9_string_54 : decode cX9_string 54 = .ok (.putfield 47, 3) := by decide +kernel
theorem dX9_string_57 : decode cX9_string 57 = .ok (.ireturn, 1) := by decide +kernel
theorem dX9_tune_0 : decode cX9_tune 0 = .ok (.aload_n 0, 1) := by decide +kernel
theorem dX9_tune_1 : decode cX9_tune 1 = .ok (.iconst 0, 1) := by decide +kernel
theorem dX9_tune_2 : decode cX9_tune 2 = .ok (.putfield 44, 3) := by decide +kernel
theorem dX9_tune_5 : decode cX9_tune 5 = .ok (.aload_n 0, 1) := by decide +kernel
theorem dX9_tune_6 : decode cX9_tune 6 = .ok (.iload_n 1, 1) := by decide +kernel
theorem dX9_tune_7 : decode cX9_tune 7 = .ok (.invokevirtual 61, 3) := by decide +kernel
theorem dX9_tune_10 : decode cX9_tune 10 = .ok (.ifCond .ne 9, 3) := by decide +kernel
theorem dX9_tune_13 : decode cX9_tune 13 = .ok (.aload_n 0, 1) := by decide +kernel
theorem dX9_tune_14 : decode cX9_tune 14 = .ok (.iconst 1, 1) := by decide +kernel
theorem dX9_tune_15 : decode cX9_tune 15 = .ok (.invokevirtual 57, 3) := by decide +kernel
theorem dX9_tune_18 : decode cX9_tune 18 = .ok (.ireturn, 1) := by decide +kernel
theorem dX9_tune_19 : decode cX9_tune 19 = .ok (.iload_n 2, 1) := by decide +kernel
theorem dX9_tune_20 : decode cX9_tune 20 = .ok (.iconst 0, 1) := by decide +kernel
theorem dX9_tune_21 : decode cX9_tune 21 = .ok (.bipush 60, 2) := by decide +kernel
theorem dX9_tune_23 : decode cX9_tune 23 = .ok (.invokestatic 50, 3) := by decide +kernel
theorem dX9_tune_26 : decode cX9_tune 26 = .ok (.ifCond .ne 9, 3) := by decide +kernel
theorem dX9_tune_29 : decode cX9_tune 29 = .ok (.aload_n 0, 1) := by decide +kernel
theorem dX9_tune_30 : decode cX9_tune 30 = .ok (.iconst 2, 1) := by decide +kernel
theorem dX9_tune_31 : decode cX9_tune 31 = .ok (.invokevirtual 57, 3) := by decide +kernel
theorem dX9_tune_34 : decode cX9_tune 34 = .ok (.ireturn, 1) := by decide +kernel
theorem dX9_tune_35 : decode cX9_tune 35 = .ok (.aload_n 0, 1) := by decide +kernel
theorem dX9_tune_36 : decode cX9_tune 36 = .ok (.getfield 9, 3) := by decide +kernel
theorem dX9_tune_39 : decode cX9_tune 39 = .ok (.iload_n 1, 1) := by decide +kernel
theorem dX9_tune_40 : decode cX9_tune 40 = .ok (.iaload, 1) := by decide +kernel
theorem dX9_tune_41 : decode cX9_tune 41 = .ok (.istore_n 3, 1) := by decide +kernel
theorem dX9_tune_42 : decode cX9_tune 42 = .ok (.aload_n 0, 1) := by decide +kernel
theorem dX9_tune_43 : decode cX9_tune 43 = .ok (.getfield 9, 3) := by decide +kernel
theorem dX9_tune_46 : decode cX9_tune 46 = .ok (.iload_n 1, 1) := by decide +kernel
theorem dX9_tune_47 : decode cX9_tune 47 = .ok (.iload_n 2, 1) := by decide +kernel
theorem dX9_tune_48 : decode cX9_tune 48 = .ok (.iastore, 1) := by decide +kernel
theorem dX9_tune_49 : decode cX9_tune 49 = .ok (.iload_n 3, 1) := by decide +kernel
theorem dX9_tune_50 : decode cX9_tune 50 = .ok (.ireturn, 1) := by decide +kernel
theorem dX9_slack_0 : decode cX9_slack 0 = .ok (.iconst 0, 1) := by decide +kernel
theorem dX9_slack_1 : decode cX9_slack 1 = .ok (.istore_n 1, 1) := by decide +kernel
theorem dX9_slack_2 : decode cX9_slack 2 = .ok (.iconst 0, 1) := by decide +kernel
theorem dX9_slack_3 : decode cX9_slack 3 = .ok (.istore_n 2, 1) := by decide +kernel
theorem dX9_slack_4 : decode cX9_slack 4 = .ok (.iload_n 2, 1) := by decide +kernel
theorem dX9_slack_5 : decode cX9_slack 5 = .ok (.aload_n 0, 1) := by decide +kernel
theorem dX9_slack_6 : decode cX9_slack 6 = .ok (.getfield 47, 3) := by decide +kernel
theorem dX9_slack_9 : decode cX9_slack 9 = .ok (.if_icmp .ge 26, 3) := by decide +kernel
theorem dX9_slack_12 : decode cX9_slack 12 = .ok (.iload_n 1, 1) := by decide +kernel
theorem dX9_slack_13 : decode cX9_slack 13 = .ok (.aload_n 0, 1) := by decide +kernel
theorem dX9_slack_14 : decode cX9_slack 14 = .ok (.getfield 13, 3) := by decide +kernel
theorem dX9_slack_17 : decode cX9_slack 17 = .ok (.iload_n 2, 1) := by decide +kernel
theorem dX9_slack_18 : decode cX9_slack 18 = .ok (.baload, 1) := by decide +kernel
theorem dX9_slack_19 : decode cX9_slack 19 = .ok (.ifCond .eq 7, 3) := by decide +kernel
theorem dX9_slack_22 : decode cX9_slack 22 = .ok (.iconst 1, 1) := by decide +kernel
theorem dX9_slack_23 : decode cX9_slack 23 = .ok (.goto 4, 3) := by decide +kernel
theorem dX9_slack_26 : decode cX9_slack 26 = .ok (.iconst 0, 1) := by decide +kernel
theorem dX9_slack_27 : decode cX9_slack 27 = .ok (.iadd, 1) := by decide +kernel
theorem dX9_slack_28 : decode cX9_slack 28 = .ok (.istore_n 1, 1) := by decide +kernel
theorem dX9_slack_29 : decode cX9_slack 29 = .ok (.iinc 2 1, 3) := by decide +kernel
theorem dX9_slack_32 : decode cX9_slack 32 = .ok (.goto (-28), 3) := by decide +kernel
theorem dX9_slack_35 : decode cX9_slack 35 = .ok (.iload_n 1, 1) := by decide +kernel
theorem dX9_slack_36 : decode cX9_slack 36 = .ok (.ireturn, 1) := by decide +kernel
theorem dX9_slacken_0 : decode cX9_slacken 0 = .ok (.aload_n 0, 1) := by decide +kernel
theorem dX9_slacken_1 : decode cX9_slacken 1 = .ok (.iconst 0, 1) := by decide +kernel
theorem dX9_slacken_2 : decode cX9_slacken 2 = .ok (.putfield 44, 3) := by decide +kernel
theorem dX9_slacken_5 : decode cX9_slacken 5 = .ok (.aload_n 0, 1) := by decide +kernel
theorem dX9_slacken_6 : decode cX9_slacken 6 = .ok (.iload_n 1, 1) := by decide +kernel
theorem dX9_slacken_7 : decode cX9_slacken 7 = .ok (.invokevirtual 61, 3) := by decide +kernel
theorem dX9_slacken_10 : decode cX9_slacken 10 = .ok (.ifCond .ne 9, 3) := by decide +kernel
theorem dX9_slacken_13 : decode cX9_slacken 13 = .ok (.aload_n 0, 1) := by decide +kernel
theorem dX9_slacken_14 : decode cX9_slacken 14 = .ok (.iconst 1, 1) := by decide +kernel
theorem dX9_slacken_15 : decode cX9_slacken 15 = .ok (.invokevirtual 57, 3) := by decide +kernel
theorem dX9_slacken_18 : decode cX9_slacken 18 = .ok (.ireturn, 1) := by decide +kernel
theorem dX9_slacken_19 : decode cX9_slacken 19 = .ok (.aload_n 0, 1) := by decide +kernel
theorem dX9_slacken_20 : decode cX9_slacken 20 = .ok (.getfield 13, 3) := by decide +kernel
theorem dX9_slacken_23 : decode cX9_slacken 23 = .ok (.iload_n 1, 1) := by decide +kernel
theorem dX9_slacken_24 : decode cX9_slacken 24 = .ok (.iload_n 2, 1) := by decide +kernel
theorem dX9_slacken_25 : decode cX9_slacken 25 = .ok (.bastore, 1) := by decide +kernel
theorem dX9_slacken_26 : decode cX9_slacken 26 = .ok (.aload_n 0, 1) := by decide +kernel
theorem dX9_slacken_27 : decode cX9_slacken 27 = .ok (.getfield 47, 3) := by decide +kernel
theorem dX9_slacken_30 : decode cX9_slacken 30 = .ok (.aload_n 0, 1) := by decide +kernel
theorem dX9_slacken_31 : decode cX9_slacken 31 = .ok (.invokevirtual 65, 3) := by decide +kernel
theorem dX9_slacken_34 : decode cX9_slacken 34 = .ok (.isub, 1) := by decide +kernel
theorem dX9_slacken_35 : decode cX9_slacken 35 = .ok (.ireturn, 1) := by decide +kernel
theorem dX9_capo_0 : decode cX9_capo 0 = .ok (.aload_n 0, 1) := by decide +kernel
theorem dX9_capo_1 : decode cX9_capo 1 = .ok (.iconst 0, 1) := by decide +kernel
theorem dX9_capo_2 : decode cX9_capo 2 = .ok (.putfield 44, 3) := by decide +kernel
theorem dX9_capo_5 : decode cX9_capo 5 = .ok (.iload_n 1, 1) := by decide +kernel
theorem dX9_capo_6 : decode cX9_capo 6 = .ok (.iconst 0, 1) := by decide +kernel
theorem dX9_capo_7 : decode cX9_capo 7 = .ok (.bipush 7, 2) := by decide +kernel
theorem dX9_capo_9 : decode cX9_capo 9 = .ok (.invokestatic 50, 3) := by decide +kernel
theorem dX9_capo_12 : decode cX9_capo 12 = .ok (.ifCond .ne 9, 3) := by decide +kernel
theorem dX9_capo_15 : decode cX9_capo 15 = .ok (.aload_n 0, 1) := by decide +kernel
theorem dX9_capo_16 : decode cX9_capo 16 = .ok (.iconst 1, 1) := by decide +kernel
theorem dX9_capo_17 : decode cX9_capo 17 = .ok (.invokevirtual 57, 3) := by decide +kernel
theorem dX9_capo_20 : decode cX9_capo 20 = .ok (.ireturn, 1) := by decide +kernel
theorem dX9_capo_21 : decode cX9_capo 21 = .ok (.aload_n 0, 1) := by decide +kernel
theorem dX9_capo_22 : decode cX9_capo 22 = .ok (.getfield 69, 3) := by decide +kernel
theorem dX9_capo_25 : decode cX9_capo 25 = .ok (.istore_n 2, 1) := by decide +kernel
theorem dX9_capo_26 : decode cX9_capo 26 = .ok (.aload_n 0, 1) := by decide +kernel
theorem dX9_capo_27 : decode cX9_capo 27 = .ok (.iload_n 1, 1) := by decide +kernel
theorem dX9_capo_28 : decode cX9_capo 28 = .ok (.putfield 69, 3) := by decide +kernel
theorem dX9_capo_31 : decode cX9_capo 31 = .ok (.iload_n 2, 1) := by decide +kernel
theorem dX9_capo_32 : decode cX9_capo 32 = .ok (.ireturn, 1) := by decide +kernel
theorem dX9_reach_0 : decode cX9_reach 0 = .ok (.aload_n 0, 1) := by decide +kernel
theorem dX9_reach_1 : decode cX9_reach 1 = .ok (.iconst 0, 1) := by decide +kernel
theorem dX9_reach_2 : decode cX9_reach 2 = .ok (.putfield 44, 3) := by decide +kernel
theorem dX9_reach_5 : decode cX9_reach 5 = .ok (.iload_n 1, 1) := by decide +kernel
theorem dX9_reach_6 : decode cX9_reach 6 = .ok (.iconst 1, 1) := by decide +kernel
theorem dX9_reach_7 : decode cX9_reach 7 = .ok (.bipush 6, 2) := by decide +kernel
theorem dX9_reach_9 : decode cX9_reach 9 = .ok (.invokestatic 50, 3) := by decide +kernel
theorem dX9_reach_12 : decode cX9_reach 12 = .ok (.ifCond .ne 9, 3) := by decide +kernel
theorem dX9_reach_15 : decode cX9_reach 15 = .ok (.aload_n 0, 1) := by decide +kernel
theorem dX9_reach_16 : decode cX9_reach 16 = .ok (.iconst 1, 1) := by decide +kernel
theorem dX9_reach_17 : decode cX9_reach 17 = .ok (.invokevirtual 57, 3) := by decide +kernel
theorem dX9_reach_20 : decode cX9_reach 20 = .ok (.ireturn, 1) := by decide +kernel
theorem dX9_reach_21 : decode cX9_reach 21 = .ok (.aload_n 0, 1) := by decide +kernel
theorem dX9_reach_22 : decode cX9_reach 22 = .ok (.getfield 17, 3) := by decide +kernel
theorem dX9_reach_25 : decode cX9_reach 25 = .ok (.istore_n 2, 1) := by decide +kernel
theorem dX9_reach_26 : decode cX9_reach 26 = .ok (.aload_n 0, 1) := by decide +kernel
theorem dX9_reach_27 : decode cX9_reach 27 = .ok (.iload_n 1, 1) := by decide +kernel
theorem dX9_reach_28 : decode cX9_reach 28 = .ok (.putfield 17, 3) := by decide +kernel
theorem dX9_reach_31 : decode cX9_reach 31 = .ok (.iload_n 2, 1) := by decide +kernel
theorem dX9_reach_32 : decode cX9_reach 32 = .ok (.ireturn, 1) := by decide +kernel
theorem dX9_fretNow_0 : decode cX9_fretNow 0 = .ok (.iload_n 2, 1) := by decide +kernel
theorem dX9_fretNow_1 : decode cX9_fretNow 1 = .ok (.aload_n 0, 1) := by decide +kernel
theorem dX9_fretNow_2 : decode cX9_fretNow 2 = .ok (.getfield 9, 3) := by decide +kernel
theorem dX9_fretNow_5 : decode cX9_fretNow 5 = .ok (.iload_n 1, 1) := by decide +kernel
theorem dX9_fretNow_6 : decode cX9_fretNow 6 = .ok (.iaload, 1) := by decide +kernel
theorem dX9_fretNow_7 : decode cX9_fretNow 7 = .ok (.isub, 1) := by decide +kernel
theorem dX9_fretNow_8 : decode cX9_fretNow 8 = .ok (.aload_n 0, 1) := by decide +kernel
theorem dX9_fretNow_9 : decode cX9_fretNow 9 = .ok (.getfield 69, 3) := by decide +kernel
theorem dX9_fretNow_12 : decode cX9_fretNow 12 = .ok (.isub, 1) := by decide +kernel
theorem dX9_fretNow_13 : decode cX9_fretNow 13 = .ok (.istore_n 3, 1) := by decide +kernel
theorem dX9_fretNow_14 : decode cX9_fretNow 14 = .ok (.aload_n 0, 1) := by decide +kernel
theorem dX9_fretNow_15 : decode cX9_fretNow 15 = .ok (.getfield 13, 3) := by decide +kernel
theorem dX9_fretNow_18 : decode cX9_fretNow 18 = .ok (.iload_n 1, 1) := by decide +kernel
theorem dX9_fretNow_19 : decode cX9_fretNow 19 = .ok (.baload, 1) := by decide +kernel
theorem dX9_fretNow_20 : decode cX9_fretNow 20 = .ok (.ifCond .ne 22, 3) := by decide +kernel
theorem dX9_fretNow_23 : decode cX9_fretNow 23 = .ok (.iload_n 3, 1) := by decide +kernel
theorem dX9_fretNow_24 : decode cX9_fretNow 24 = .ok (.iconst 0, 1) := by decide +kernel
theorem dX9_fretNow_25 : decode cX9_fretNow 25 = .ok (.bipush 12, 2) := by decide +kernel
theorem dX9_fretNow_27 : decode cX9_fretNow 27 = .ok (.aload_n 0, 1) := by decide +kernel
theorem dX9_fretNow_28 : decode cX9_fretNow 28 = .ok (.getfield 69, 3) := by decide +kernel
theorem dX9_fretNow_31 : decode cX9_fretNow 31 = .ok (.isub, 1) := by decide +kernel
theorem dX9_fretNow_32 : decode cX9_fretNow 32 = .ok (.invokestatic 50, 3) := by decide +kernel
theorem dX9_fretNow_35 : decode cX9_fretNow 35 = .ok (.ifCond .eq 7, 3) := by decide +kernel
theorem dX9_fretNow_38 : decode cX9_fretNow 38 = .ok (.iload_n 3, 1) := by decide +kernel
theorem dX9_fretNow_39 : decode cX9_fretNow 39 = .ok (.goto 4, 3) := by decide +kernel
theorem dX9_fretNow_42 : decode cX9_fretNow 42 = .ok (.iconst (-1), 1) := by decide +kernel
theorem dX9_fretNow_43 : decode cX9_fretNow 43 = .ok (.ireturn, 1) := by decide +kernel
theorem dX9_fretOf_0 : decode cX9_fretOf 0 = .ok (.aload_n 0, 1) := by decide +kernel
theorem dX9_fretOf_1 : decode cX9_fretOf 1 = .ok (.iconst 0, 1) := by decide +kernel
theorem dX9_fretOf_2 : decode cX9_fretOf 2 = .ok (.putfield 44, 3) := by decide +kernel
theorem dX9_fretOf_5 : decode cX9_fretOf 5 = .ok (.aload_n 0, 1) := by decide +kernel
theorem dX9_fretOf_6 : decode cX9_fretOf 6 = .ok (.iload_n 1, 1) := by decide +kernel
theorem dX9_fretOf_7 : decode cX9_fretOf 7 = .ok (.invokevirtual 61, 3) := by decide +kernel
theorem dX9_fretOf_10 : decode cX9_fretOf 10 = .ok (.ifCond .ne 9, 3) := by decide +kernel
theorem dX9_fretOf_13 : decode cX9_fretOf 13 = .ok (.aload_n 0, 1) := by decide +kernel
theorem dX9_fretOf_14 : decode cX9_fretOf 14 = .ok (.iconst 1, 1) := by decide +kernel
theorem dX9_fretOf_15 : decode cX9_fretOf 15 = .ok (.invokevirtual 57, 3) := by decide +kernel
theorem dX9_fretOf_18 : decode cX9_fretOf 18 = .ok (.ireturn, 1) := by decide +kernel
theorem dX9_fretOf_19 : decode cX9_fretOf 19 = .ok (.iload_n 2, 1) := by decide +kernel
theorem dX9_fretOf_20 : decode cX9_fretOf 20 = .ok (.iconst 0, 1) := by decide +kernel
theorem dX9_fretOf_21 : decode cX9_fretOf 21 = .ok (.bipush 80, 2) := by decide +kernel
theorem dX9_fretOf_23 : decode cX9_fretOf 23 = .ok (.invokestatic 50, 3) := by decide +kernel
theorem dX9_fretOf_26 : decode cX9_fretOf 26 = .ok (.ifCond .eq 12, 3) := by decide +kernel
theorem dX9_fretOf_29 : decode cX9_fretOf 29 = .ok (.aload_n 0, 1) := by decide +kernel
theorem dX9_fretOf_30 : decode cX9_fretOf 30 = .ok (.iload_n 1, 1) := by decide +kernel
theorem dX9_fretOf_31 : decode cX9_fretOf 31 = .ok (.iload_n 2, 1) := by decide +kernel
theorem dX9_fretOf_32 : decode cX9_fretOf 32 = .ok (.invokevirtual 72, 3) := by decide +kernel
theorem dX9_fretOf_35 : decode cX9_fretOf 35 = .ok (.goto 8, 3) := by decide +kernel
theorem dX9_fretOf_38 : decode cX9_fretOf 38 = .ok (.aload_n 0, 1) := by decide +kernel
theorem dX9_fretOf_39 : decode cX9_fretOf 39 = .ok (.iconst 2, 1) := by decide +kernel
theorem dX9_fretOf_40 : decode cX9_fretOf 40 = .ok (.invokevirtual 57, 3) := by decide +kernel
theorem dX9_fretOf_43 : decode cX9_fretOf 43 = .ok (.ireturn, 1) := by decide +kernel
theorem dX9_chord_0 : decode cX9_chord 0 = .ok (.aload_n 0, 1) := by decide +kernel
theorem dX9_chord_1 : decode cX9_chord 1 = .ok (.iconst 0, 1) := by decide +kernel
theorem dX9_chord_2 : decode cX9_chord 2 = .ok (.putfield 44, 3) := by decide +kernel
theorem dX9_chord_5 : decode cX9_chord 5 = .ok (.iconst 4, 1) := by decide +kernel
theorem dX9_chord_6 : decode cX9_chord 6 = .ok (.newarray .int, 2) := by decide +kernel
theorem dX9_chord_8 : decode cX9_chord 8 = .ok (.dup, 1) := by decide +kernel
theorem dX9_chord_9 : decode cX9_chord 9 = .ok (.iconst 0, 1) := by decide +kernel
theorem dX9_chord_10 : decode cX9_chord 10 = .ok (.iload_n 1, 1) := by decide +kernel
theorem dX9_chord_11 : decode cX9_chord 11 = .ok (.iastore, 1) := by decide +kernel
theorem dX9_chord_12 : decode cX9_chord 12 = .ok (.dup, 1) := by decide +kernel
theorem dX9_chord_13 : decode cX9_chord 13 = .ok (.iconst 1, 1) := by decide +kernel
theorem dX9_chord_14 : decode cX9_chord 14 = .ok (.iload_n 2, 1) := by decide +kernel
theorem dX9_chord_15 : decode cX9_chord 15 = .ok (.iastore, 1) := by decide +kernel
theorem dX9_chord_16 : decode cX9_chord 16 = .ok (.dup, 1) := by decide +kernel
theorem dX9_chord_17 : decode cX9_chord 17 = .ok (.iconst 2, 1) := by decide +kernel
theorem dX9_chord_18 : decode cX9_chord 18 = .ok (.iload_n 3, 1) := by decide +kernel
theorem dX9_chord_19 : decode cX9_chord 19 = .ok (.iastore, 1) := by decide +kernel
theorem dX9_chord_20 : decode cX9_chord 20 = .ok (.dup, 1) := by decide +kernel
theorem dX9_chord_21 : decode cX9_chord 21 = .ok (.iconst 3, 1) := by decide +kernel
theorem dX9_chord_22 : decode cX9_chord 22 = .ok (.iload 4, 2) := by decide +kernel
theorem dX9_chord_24 : decode cX9_chord 24 = .ok (.iastore, 1) := by decide +kernel
theorem dX9_chord_25 : decode cX9_chord 25 = .ok (.astore 6, 2) := by decide +kernel
theorem dX9_chord_27 : decode cX9_chord 27 = .ok (.iconst 0, 1) := by decide +kernel
theorem dX9_chord_28 : decode cX9_chord 28 = .ok (.istore 7, 2) := by decide +kernel
theorem dX9_chord_30 : decode cX9_chord 30 = .ok (.iload_n 1, 1) := by decide +kernel
theorem dX9_chord_31 : decode cX9_chord 31 = .ok (.iconst 0, 1) := by decide +kernel
theorem dX9_chord_32 : decode cX9_chord 32 = .ok (.bipush 80, 2) := by decide +kernel
theorem dX9_chord_34 : decode cX9_chord 34 = .ok (.invokestatic 50, 3) := by decide +kernel
theorem dX9_chord_37 : decode cX9_chord 37 = .ok (.ifCond .eq 18, 3) := by decide +kernel
theorem dX9_chord_40 : decode cX9_chord 40 = .ok (.iload 5, 2) := by decide +kernel
theorem dX9_chord_42 : decode cX9_chord 42 = .ok (.iconst 1, 1) := by decide +kernel
theorem dX9_chord_43 : decode cX9_chord 43 = .ok (.bipush 8, 2) := by decide +kernel
theorem dX9_chord_45 : decode cX9_chord 45 = .ok (.invokestatic 50, 3) := by decide +kernel
theorem dX9_chord_48 : decode cX9_chord 48 = .ok (.ifCond .eq 7, 3) := by decide +kernel
theorem dX9_chord_51 : decode cX9_chord 51 = .ok (.iconst 1, 1) := by decide +kernel
theorem dX9_chord_52 : decode cX9_chord 52 = .ok (.goto 4, 3) := by decide +kernel
theorem dX9_chord_55 : decode cX9_chord 55 = .ok (.iconst 0, 1) := by decide +kernel
theorem dX9_chord_56 : decode cX9_chord 56 = .ok (.istore 8, 2) := by decide +kernel
theorem dX9_chord_58 : decode cX9_chord 58 = .ok (.iconst 0, 1) := by decide +kernel
theorem dX9_chord_59 : decode cX9_chord 59 = .ok (.istore 9, 2) := by decide +kernel
theorem dX9_chord_61 : decode cX9_chord 61 = .ok (.iload 9, 2) := by decide +kernel
theorem dX9_chord_63 : decode cX9_chord 63 = .ok (.iconst 4, 1) := by decide +kernel
theorem dX9_chord_64 : decode cX9_chord 64 = .ok (.if_icmp .ge 92, 3) := by decide +kernel
theorem dX9_chord_67 : decode cX9_chord 67 = .ok (.iload 8, 2) := by decide +kernel
theorem dX9_chord_69 : decode cX9_chord 69 = .ok (.aload 6, 2) := by decide +kernel
theorem dX9_chord_71 : decode cX9_chord 71 = .ok (.iload 9, 2) := by decide +kernel
theorem dX9_chord_73 : decode cX9_chord 73 = .ok (.iaload, 1) := by decide +kernel
theorem dX9_chord_74 : decode cX9_chord 74 = .ok (.iconst (-1), 1) := by decide +kernel
theorem dX9_chord_75 : decode cX9_chord 75 = .ok (.bipush 80, 2) := by decide +kernel
theorem dX9_chord_77 : decode cX9_chord 77 = .ok (.invokestatic 50, 3) := by decide +kernel
theorem dX9_chord_80 : decode cX9_chord 80 = .ok (.iand, 1) := by decide +kernel
theorem dX9_chord_81 : decode cX9_chord 81 = .ok (.istore 8, 2) := by decide +kernel
theorem dX9_chord_83 : decode cX9_chord 83 = .ok (.iconst 0, 1) := by decide +kernel
theorem dX9_chord_84 : decode cX9_chord 84 = .ok (.istore 10, 2) := by decide +kernel
theorem dX9_chord_86 : decode cX9_chord 86 = .ok (.iload 10, 2) := by decide +kernel
theorem dX9_chord_88 : decode cX9_chord 88 = .ok (.iload 9, 2) := by decide +kernel
theorem dX9_chord_90 : decode cX9_chord 90 = .ok (.if_icmp .ge 41, 3) := by decide +kernel
theorem dX9_chord_93 : decode cX9_chord 93 = .ok (.iload 8, 2) := by decide +kernel
theorem dX9_chord_95 : decode cX9_chord 95 = .ok (.aload 6, 2) := by decide +kernel
theorem dX9_chord_97 : decode cX9_chord 97 = .ok (.iload 9, 2) := by decide +kernel
theorem dX9_chord_99 : decode cX9_chord 99 = .ok (.iaload, 1) := by decide +kernel
theorem dX9_chord_100 : decode cX9_chord 100 = .ok (.iconst (-1), 1) := by decide +kernel
theorem dX9_chord_101 : decode cX9_chord 101 = .ok (.if_icmp .eq 16, 3) := by decide +kernel
theorem dX9_chord_104 : decode cX9_chord 104 = .ok (.aload 6, 2) := by decide +kernel
theorem dX9_chord_106 : decode cX9_chord 106 = .ok (.iload 10, 2) := by decide +kernel
theorem dX9_chord_108 : decode cX9_chord 108 = .ok (.iaload, 1) := by decide +kernel
theorem dX9_chord_109 : decode cX9_chord 109 = .ok (.aload 6, 2) := by decide +kernel
theorem dX9_chord_111 : decode cX9_chord 111 = .ok (.iload 9, 2) := by decide +kernel
theorem dX9_chord_113 : decode cX9_chord 113 = .ok (.iaload, 1) := by decide +kernel
theorem dX9_chord_114 : decode cX9_chord 114 = .ok (.if_icmp .eq 7, 3) := by decide +kernel
theorem dX9_chord_117 : decode cX9_chord 117 = .ok (.iconst 1, 1) := by decide +kernel
theorem dX9_chord_118 : decode cX9_chord 118 = .ok (.goto 4, 3) := by decide +kernel
theorem dX9_chord_121 : decode cX9_chord 121 = .ok (.iconst 0, 1) := by decide +kernel
theorem dX9_chord_122 : decode cX9_chord 122 = .ok (.iand, 1) := by decide +kernel
theorem dX9_chord_123 : decode cX9_chord 123 = .ok (.istore 8, 2) := by decide +kernel
theorem dX9_chord_125 : decode cX9_chord 125 = .ok (.iinc 10 1, 3) := by decide +kernel
theorem dX9_chord_128 : decode cX9_chord 128 = .ok (.goto (-42), 3) := by decide +kernel
theorem dX9_chord_131 : decode cX9_chord 131 = .ok (.iload 7, 2) := by decide +kernel
theorem dX9_chord_133 : decode cX9_chord 133 = .ok (.aload 6, 2) := by decide +kernel
theorem dX9_chord_135 : decode cX9_chord 135 = .ok (.iload 9, 2) := by decide +kernel
theorem dX9_chord_137 : decode cX9_chord 137 = .ok (.iaload, 1) := by decide +kernel
theorem dX9_chord_138 : decode cX9_chord 138 = .ok (.iconst (-1), 1) := by decide +kernel
theorem dX9_chord_139 : decode cX9_chord 139 = .ok (.if_icmp .ne 7, 3) := by decide +kernel
theorem dX9_chord_142 : decode cX9_chord 142 = .ok (.iconst 0, 1) := by decide +kernel
theorem dX9_chord_143 : decode cX9_chord 143 = .ok (.goto 4, 3) := by decide +kernel
theorem dX9_chord_146 : decode cX9_chord 146 = .ok (.iconst 1, 1) := by decide +kernel
theorem dX9_chord_147 : decode cX9_chord 147 = .ok (.iadd, 1) := by decide +kernel
theorem dX9_chord_148 : decode cX9_chord 148 = .ok (.istore 7, 2) := by decide +kernel
theorem dX9_chord_150 : decode cX9_chord 150 = .ok (.iinc 9 1, 3) := by decide +kernel
theorem dX9_chord_153 : decode cX9_chord 153 = .ok (.goto (-92), 3) := by decide +kernel
theorem dX9_chord_156 : decode cX9_chord 156 = .ok (.iload 8, 2) := by decide +kernel
theorem dX9_chord_158 : decode cX9_chord 158 = .ok (.ifCond .ne 9, 3) := by decide +kernel
theorem dX9_chord_161 : decode cX9_chord 161 = .ok (.aload_n 0, 1) := by decide +kernel
theorem dX9_chord_162 : decode cX9_chord 162 = .ok (.iconst 1, 1) := by decide +kernel
theorem dX9_chord_163 : decode cX9_chord 163 = .ok (.invokevirtual 57, 3) := by decide +kernel
theorem dX9_chord_166 : decode cX9_chord 166 = .ok (.ireturn, 1) := by decide +kernel
theorem dX9_chord_167 : decode cX9_chord 167 = .ok (.aload_n 0, 1) := by decide +kernel
theorem dX9_chord_168 : decode cX9_chord 168 = .ok (.getfield 54, 3) := by decide +kernel
theorem dX9_chord_171 : decode cX9_chord 171 = .ok (.bipush 12, 2) := by decide +kernel
theorem dX9_chord_173 : decode cX9_chord 173 = .ok (.if_icmp .ne 9, 3) := by decide +kernel
theorem dX9_chord_176 : decode cX9_chord 176 = .ok (.aload_n 0, 1) := by decide +kernel
theorem dX9_chord_177 : decode cX9_chord 177 = .ok (.iconst 2, 1) := by decide +kernel
theorem dX9_chord_178 : decode cX9_chord 178 = .ok (.invokevirtual 57, 3) := by decide +kernel
theorem dX9_chord_181 : decode cX9_chord 181 = .ok (.ireturn, 1) := by decide +kernel
theorem dX9_chord_182 : decode cX9_chord 182 = .ok (.iload 7, 2) := by decide +kernel
theorem dX9_chord_184 : decode cX9_chord 184 = .ok (.newarray .int, 2) := by decide +kernel
theorem dX9_chord_186 : decode cX9_chord 186 = .ok (.astore 9, 2) := by decide +kernel
theorem dX9_chord_188 : decode cX9_chord 188 = .ok (.iconst 0, 1) := by decide +kernel
theorem dX9_chord_189 : decode cX9_chord 189 = .ok (.istore 10, 2) := by decide +kernel
theorem dX9_chord_191 : decode cX9_chord 191 = .ok (.aload 6, 2) := by decide +kernel
theorem dX9_chord_193 : decode cX9_chord 193 = .ok (.astore 11, 2) := by decide +kernel
theorem dX9_chord_195 : decode cX9_chord 195 = .ok (.aload 11, 2) := by decide +kernel
theorem dX9_chord_197 : decode cX9_chord 197 = .ok (.arraylength, 1) := by decide +kernel
theorem dX9_chord_198 : decode cX9_chord 198 = .ok (.istore 12, 2) := by decide +kernel
theorem dX9_chord_200 : decode cX9_chord 200 = .ok (.iconst 0, 1) := by decide +kernel
theorem dX9_chord_201 : decode cX9_chord 201 = .ok (.istore 13, 2) := by decide +kernel
theorem dX9_chord_203 : decode cX9_chord 203 = .ok (.iload 13, 2) := by decide +kernel
theorem dX9_chord_205 : decode cX9_chord 205 = .ok (.iload 12, 2) := by decide +kernel
theorem dX9_chord_207 : decode cX9_chord 207 = .ok (.if_icmp .ge 32, 3) := by decide +kernel
theorem dX9_chord_210 : decode cX9_chord 210 = .ok (.aload 11, 2) := by decide +kernel
theorem dX9_chord_212 : decode cX9_chord 212 = .ok (.iload 13, 2) := by decide +kernel
theorem dX9_chord_214 : decode cX9_chord 214 = .ok (.iaload, 1) := by decide +kernel
theorem dX9_chord_215 : decode cX9_chord 215 = .ok (.istore 14, 2) := by decide +kernel
theorem dX9_chord_217 : decode cX9_chord 217 = .ok (.iload 14, 2) := by decide +kernel
theorem dX9_chord_219 : decode cX9_chord 219 = .ok (.iconst (-1), 1) := by decide +kernel
theorem dX9_chord_220 : decode cX9_chord 220 = .ok (.if_icmp .eq 13, 3) := by decide +kernel
theorem dX9_chord_223 : decode cX9_chord 223 = .ok (.aload 9, 2) := by decide +kernel
theorem dX9_chord_225 : decode cX9_chord 225 = .ok (.iload 10, 2) := by decide +kernel
theorem dX9_chord_227 : decode cX9_chord 227 = .ok (.iinc 10 1, 3) := by decide +kernel
theorem dX9_chord_230 : decode cX9_chord 230 = .ok (.iload 14, 2) := by decide +kernel
theorem dX9_chord_232 : decode cX9_chord 232 = .ok (.iastore, 1) := by decide +kernel
theorem dX9_chord_233 : decode cX9_chord 233 = .ok (.iinc 13 1, 3) := by decide +kernel
theorem dX9_chord_236 : decode cX9_chord 236 = .ok (.goto (-33), 3) := by decide +kernel
theorem dX9_chord_239 : decode cX9_chord 239 = .ok (.aload_n 0, 1) := by decide +kernel
theorem dX9_chord_240 : decode cX9_chord 240 = .ok (.getfield 22, 3) := by decide +kernel
theorem dX9_chord_243 : decode cX9_chord 243 = .ok (.aload_n 0, 1) := by decide +kernel
theorem dX9_chord_244 : decode cX9_chord 244 = .ok (.getfield 54, 3) := by decide +kernel
theorem dX9_chord_247 : decode cX9_chord 247 = .ok (.aload 9, 2) := by decide +kernel
theorem dX9_chord_249 : decode cX9_chord 249 = .ok (.aastore, 1) := by decide +kernel
theorem dX9_chord_250 : decode cX9_chord 250 = .ok (.aload_n 0, 1) := by decide +kernel
theorem dX9_chord_251 : decode cX9_chord 251 = .ok (.getfield 26, 3) := by decide +kernel
theorem dX9_chord_254 : decode cX9_chord 254 = .ok (.aload_n 0, 1) := by decide +kernel
theorem dX9_chord_255 : decode cX9_chord 255 = .ok (.getfield 54, 3) := by decide +kernel
theorem dX9_chord_258 : decode cX9_chord 258 = .ok (.iload 5, 2) := by decide +kernel
theorem dX9_chord_260 : decode cX9_chord 260 = .ok (.iastore, 1) := by decide +kernel
theorem dX9_chord_261 : decode cX9_chord 261 = .ok (.aload_n 0, 1) := by decide +kernel
theorem dX9_chord_262 : decode cX9_chord 262 = .ok (.getfield 29, 3) := by decide +kernel
theorem dX9_chord_265 : decode cX9_chord 265 = .ok (.aload_n 0, 1) := by decide +kernel
theorem dX9_chord_266 : decode cX9_chord 266 = .ok (.getfield 54, 3) := by decide +kernel
theorem dX9_chord_269 : decode cX9_chord 269 = .ok (.iconst 0, 1) := by decide +kernel
theorem dX9_chord_270 : decode cX9_chord 270 = .ok (.bastore, 1) := by decide +kernel
theorem dX9_chord_271 : decode cX9_chord 271 = .ok (.aload_n 0, 1) := by decide +kernel
theorem dX9_chord_272 : decode cX9_chord 272 = .ok (.dup, 1) := by decide +kernel
theorem dX9_chord_273 : decode cX9_chord 273 = .ok (.getfield 54, 3) := by decide +kernel
theorem dX9_chord_276 : decode cX9_chord 276 = .ok (.dup_x1, 1) := by decide +kernel
theorem dX9_chord_277 : decode cX9_chord 277 = .ok (.iconst 1, 1) := by decide +kernel
theorem dX9_chord_278 : decode cX9_chord 278 = .ok (.iadd, 1) := by decide +kernel
theorem dX9_chord_279 : decode cX9_chord 279 = .ok (.putfield 54, 3) := by decide +kernel
theorem dX9_chord_282 : decode cX9_chord 282 = .ok (.ireturn, 1) := by decide +kernel
theorem dX9_strike_0 : decode cX9_strike 0 = .ok (.aload_n 0, 1) := by decide +kernel
theorem dX9_strike_1 : decode cX9_strike 1 = .ok (.iconst 0, 1) := by decide +kernel
theorem dX9_strike_2 : decode cX9_strike 2 = .ok (.putfield 44, 3) := by decide +kernel
theorem dX9_strike_5 : decode cX9_strike 5 = .ok (.aload_n 0, 1) := by decide +kernel
theorem dX9_strike_6 : decode cX9_strike 6 = .ok (.iload_n 1, 1) := by decide +kernel
theorem dX9_strike_7 : decode cX9_strike 7 = .ok (.invokevirtual 76, 3) := by decide +kernel
theorem dX9_strike_10 : decode cX9_strike 10 = .ok (.ifCond .ne 9, 3) := by decide +kernel
theorem dX9_strike_13 : decode cX9_strike 13 = .ok (.aload_n 0, 1) := by decide +kernel
theorem dX9_strike_14 : decode cX9_strike 14 = .ok (.iconst 1, 1) := by decide +kernel
theorem dX9_strike_15 : decode cX9_strike 15 = .ok (.invokevirtual 57, 3) := by decide +kernel
theorem dX9_strike_18 : decode cX9_strike 18 = .ok (.ireturn, 1) := by decide +kernel
theorem dX9_strike_19 : decode cX9_strike 19 = .ok (.aload_n 0, 1) := by decide +kernel
theorem dX9_strike_20 : decode cX9_strike 20 = .ok (.dup, 1) := by decide +kernel
theorem dX9_strike_21 : decode cX9_strike 21 = .ok (.getfield 54, 3) := by decide +kernel
theorem dX9_strike_24 : decode cX9_strike 24 = .ok (.iconst 1, 1) := by decide +kernel
theorem dX9_strike_25 : decode cX9_strike 25 = .ok (.isub, 1) := by decide +kernel
theorem dX9_strike_26 : decode cX9_strike 26 = .ok (.putfield 54, 3) := by decide +kernel
theorem dX9_strike_29 : decode cX9_strike 29 = .ok (.iload_n 1, 1) := by decide +kernel
theorem dX9_strike_30 : decode cX9_strike 30 = .ok (.istore_n 2, 1) := by decide +kernel
theorem dX9_strike_31 : decode cX9_strike 31 = .ok (.iload_n 2, 1) := by decide +kernel
theorem dX9_strike_32 : decode cX9_strike 32 = .ok (.aload_n 0, 1) := by decide +kernel
theorem dX9_strike_33 : decode cX9_strike 33 = .ok (.getfield 54, 3) := by decide +kernel
theorem dX9_strike_36 : decode cX9_strike 36 = .ok (.if_icmp .ge 65, 3) := by decide +kernel
theorem dX9_strike_39 : decode cX9_strike 39 = .ok (.aload_n 0, 1) := by decide +kernel
theorem dX9_strike_40 : decode cX9_strike 40 = .ok (.getfield 22, 3) := by decide +kernel
theorem dX9_strike_43 : decode cX9_strike 43 = .ok (.iload_n 2, 1) := by decide +kernel
theorem dX9_strike_44 : decode cX9_strike 44 = .ok (.aload_n 0, 1) := by decide +kernel
theorem dX9_strike_45 : decode cX9_strike 45 = .ok (.getfield 22, 3) := by decide +kernel
theorem dX9_strike_48 : decode cX9_strike 48 = .ok (.iload_n 2, 1) := by decide +kernel
theorem dX9_strike_49 : decode cX9_strike 49 = .ok (.iconst 1, 1) := by decide +kernel
theorem dX9_strike_50 : decode cX9_strike 50 = .ok (.iadd, 1) := by decide +kernel
theorem dX9_strike_51 : decode cX9_strike 51 = .ok (.aaload, 1) := by decide +kernel
theorem dX9_strike_52 : decode cX9_strike 52 = .ok (.aastore, 1) := by decide +kernel
theorem dX9_strike_53 : decode cX9_strike 53 = .ok (.aload_n 0, 1) := by decide +kernel
theorem dX9_strike_54 : decode cX9_strike 54 = .ok (.getfield 26, 3) := by decide +kernel
theorem dX9_strike_57 : decode cX9_strike 57 = .ok (.iload_n 2, 1) := by decide +kernel
theorem dX9_strike_58 : decode cX9_strike 58 = .ok (.aload_n 0, 1) := by decide +kernel
theorem dX9_strike_59 : decode cX9_strike 59 = .ok (.getfield 26, 3) := by decide +kernel
theorem dX9_strike_62 : decode cX9_strike 62 = .ok (.iload_n 2, 1) := by decide +kernel
theorem dX9_strike_63 : decode cX9_strike 63 = .ok (.iconst 1, 1) := by decide +kernel
theorem dX9_strike_64 : decode cX9_strike 64 = .ok (.iadd, 1) := by decide +kernel
theorem dX9_strike_65 : decode cX9_strike 65 = .ok (.iaload, 1) := by decide +kernel
theorem dX9_strike_66 : decode cX9_strike 66 = .ok (.iastore, 1) := by decide +kernel
theorem dX9_strike_67 : decode cX9_strike 67 = .ok (.aload_n 0, 1) := by decide +kernel
theorem dX9_strike_68 : decode cX9_strike 68 = .ok (.getfield 29, 3) := by decide +kernel
theorem dX9_strike_71 : decode cX9_strike 71 = .ok (.iload_n 2, 1) := by decide +kernel
theorem dX9_strike_72 : decode cX9_strike 72 = .ok (.aload_n 0, 1) := by decide +kernel
theorem dX9_strike_73 : decode cX9_strike 73 = .ok (.getfield 29, 3) := by decide +kernel
theorem dX9_strike_76 : decode cX9_strike 76 = .ok (.iload_n 2, 1) := by decide +kernel
theorem dX9_strike_77 : decode cX9_strike 77 = .ok (.iconst 1, 1) := by decide +kernel
theorem dX9_strike_78 : decode cX9_strike 78 = .ok (.iadd, 1) := by decide +kernel
theorem dX9_strike_79 : decode cX9_strike 79 = .ok (.baload, 1) := by decide +kernel
theorem dX9_strike_80 : decode cX9_strike 80 = .ok (.bastore, 1) := by decide +kernel
theorem dX9_strike_81 : decode cX9_strike 81 = .ok (.aload_n 0, 1) := by decide +kernel
theorem dX9_strike_82 : decode cX9_strike 82 = .ok (.getfield 32, 3) := by decide +kernel
theorem dX9_strike_85 : decode cX9_strike 85 = .ok (.iload_n 2, 1) := by decide +kernel
theorem dX9_strike_86 : decode cX9_strike 86 = .ok (.aload_n 0, 1) := by decide +kernel
theorem dX9_strike_87 : decode cX9_strike 87 = .ok (.getfield 32, 3) := by decide +kernel
theorem dX9_strike_90 : decode cX9_strike 90 = .ok (.iload_n 2, 1) := by decide +kernel
theorem dX9_strike_91 : decode cX9_strike 91 = .ok (.iconst 1, 1) := by decide +kernel
theorem dX9_strike_92 : decode cX9_strike 92 = .ok (.iadd, 1) := by decide +kernel
theorem dX9_strike_93 : decode cX9_strike 93 = .ok (.aaload, 1) := by decide +kernel
theorem dX9_strike_94 : decode cX9_strike 94 = .ok (.aastore, 1) := by decide +kernel
theorem dX9_strike_95 : decode cX9_strike 95 = .ok (.iinc 2 1, 3) := by decide +kernel
theorem dX9_strike_98 : decode cX9_strike 98 = .ok (.goto (-67), 3) := by decide +kernel
theorem dX9_strike_101 : decode cX9_strike 101 = .ok (.aload_n 0, 1) := by decide +kernel
theorem dX9_strike_102 : decode cX9_strike 102 = .ok (.getfield 54, 3) := by decide +kernel
theorem dX9_strike_105 : decode cX9_strike 105 = .ok (.ireturn, 1) := by decide +kernel
theorem dX9_low_0 : decode cX9_low 0 = .ok (.iconst 0, 1) := by decide +kernel
theorem dX9_low_1 : decode cX9_low 1 = .ok (.istore_n 1, 1) := by decide +kernel
theorem dX9_low_2 : decode cX9_low 2 = .ok (.aload_n 0, 1) := by decide +kernel
theorem dX9_low_3 : decode cX9_low 3 = .ok (.astore_n 2, 1) := by decide +kernel
theorem dX9_low_4 : decode cX9_low 4 = .ok (.aload_n 2, 1) := by decide +kernel
theorem dX9_low_5 : decode cX9_low 5 = .ok (.arraylength, 1) := by decide +kernel
theorem dX9_low_6 : decode cX9_low 6 = .ok (.istore_n 3, 1) := by decide +kernel
theorem dX9_low_7 : decode cX9_low 7 = .ok (.iconst 0, 1) := by decide +kernel
theorem dX9_low_8 : decode cX9_low 8 = .ok (.istore 4, 2) := by decide +kernel
theorem dX9_low_10 : decode cX9_low 10 = .ok (.iload 4, 2) := by decide +kernel
theorem dX9_low_12 : decode cX9_low 12 = .ok (.iload_n 3, 1) := by decide +kernel
theorem dX9_low_13 : decode cX9_low 13 = .ok (.if_icmp .ge 33, 3) := by decide +kernel
theorem dX9_low_16 : decode cX9_low 16 = .ok (.aload_n 2, 1) := by decide +kernel
theorem dX9_low_17 : decode cX9_low 17 = .ok (.iload 4, 2) := by decide +kernel
theorem dX9_low_19 : decode cX9_low 19 = .ok (.iaload, 1) := by decide +kernel
theorem dX9_low_20 : decode cX9_low 20 = .ok (.istore 5, 2) := by decide +kernel
theorem dX9_low_22 : decode cX9_low 22 = .ok (.iload 5, 2) := by decide +kernel
theorem dX9_low_24 : decode cX9_low 24 = .ok (.ifCond .le 16, 3) := by decide +kernel
theorem dX9_low_27 : decode cX9_low 27 = .ok (.iload_n 1, 1) := by decide +kernel
theorem dX9_low_28 : decode cX9_low 28 = .ok (.ifCond .eq 9, 3) := by decide +kernel
theorem dX9_low_31 : decode cX9_low 31 = .ok (.iload 5, 2) := by decide +kernel
theorem dX9_low_33 : decode cX9_low 33 = .ok (.iload_n 1, 1) := by decide +kernel
theorem dX9_low_34 : decode cX9_low 34 = .ok (.if_icmp .ge 6, 3) := by decide +kernel
theorem dX9_low_37 : decode cX9_low 37 = .ok (.iload 5, 2) := by decide +kernel
theorem dX9_low_39 : decode cX9_low 39 = .ok (.istore_n 1, 1) := by decide +kernel
theorem dX9_low_40 : decode cX9_low 40 = .ok (.iinc 4 1, 3) := by decide +kernel
theorem dX9_low_43 : decode cX9_low 43 = .ok (.goto (-33), 3) := by decide +kernel
theorem dX9_low_46 : decode cX9_low 46 = .ok (.iload_n 1, 1) := by decide +kernel
theorem dX9_low_47 : decode cX9_low 47 = .ok (.ireturn, 1) := by decide +kernel
theorem dX9_high_0 : decode cX9_high 0 = .ok (.iconst 0, 1) := by decide +kernel
theorem dX9_high_1 : decode cX9_high 1 = .ok (.istore_n 1, 1) := by decide +kernel
theorem dX9_high_2 : decode cX9_high 2 = .ok (.aload_n 0, 1) := by decide +kernel
theorem dX9_high_3 : decode cX9_high 3 = .ok (.astore_n 2, 1) := by decide +kernel
theorem dX9_high_4 : decode cX9_high 4 = .ok (.aload_n 2, 1) := by decide +kernel
theorem dX9_high_5 : decode cX9_high 5 = .ok (.arraylength, 1) := by decide +kernel
theorem dX9_high_6 : decode cX9_high 6 = .ok (.istore_n 3, 1) := by decide +kernel
theorem dX9_high_7 : decode cX9_high 7 = .ok (.iconst 0, 1) := by decide +kernel
theorem dX9_high_8 : decode cX9_high 8 = .ok (.istore 4, 2) := by decide +kernel
theorem dX9_high_10 : decode cX9_high 10 = .ok (.iload 4, 2) := by decide +kernel
theorem dX9_high_12 : decode cX9_high 12 = .ok (.iload_n 3, 1) := by decide +kernel
theorem dX9_high_13 : decode cX9_high 13 = .ok (.if_icmp .ge 22, 3) := by decide +kernel
theorem dX9_high_16 : decode cX9_high 16 = .ok (.aload_n 2, 1) := by decide +kernel
theorem dX9_high_17 : decode cX9_high 17 = .ok (.iload 4, 2) := by decide +kernel
theorem dX9_high_19 : decode cX9_high 19 = .ok (.iaload, 1) := by decide +kernel
theorem dX9_high_20 : decode cX9_high 20 = .ok (.istore 5, 2) := by decide +kernel
theorem dX9_high_22 : decode cX9_high 22 = .ok (.iload_n 1, 1) := by decide +kernel
theorem dX9_high_23 : decode cX9_high 23 = .ok (.iload 5, 2) := by decide +kernel
theorem dX9_high_25 : decode cX9_high 25 = .ok (.invokestatic 79, 3) := by decide +kernel
theorem dX9_high_28 : decode cX9_high 28 = .ok (.istore_n 1, 1) := by decide +kernel
theorem dX9_high_29 : decode cX9_high 29 = .ok (.iinc 4 1, 3) := by decide +kernel
theorem dX9_high_32 : decode cX9_high 32 = .ok (.goto (-22), 3) := by decide +kernel
theorem dX9_high_35 : decode cX9_high 35 = .ok (.iload_n 1, 1) := by decide +kernel
theorem dX9_high_36 : decode cX9_high 36 = .ok (.ireturn, 1) := by decide +kernel
theorem dX9_hasBarre_0 : decode cX9_hasBarre 0 = .ok (.aload_n 0, 1) := by decide +kernel
theorem dX9_hasBarre_1 : decode cX9_hasBarre 1 = .ok (.invokestatic 84, 3) := by decide +kernel
theorem dX9_hasBarre_4 : decode cX9_hasBarre 4 = .ok (.istore_n 1, 1) := by decide +kernel
theorem dX9_hasBarre_5 : decode cX9_hasBarre 5 = .ok (.iconst (-1), 1) := by decide +kernel
theorem dX9_hasBarre_6 : decode cX9_hasBarre 6 = .ok (.istore_n 2, 1) := by decide +kernel
theorem dX9_hasBarre_7 : decode cX9_hasBarre 7 = .ok (.iconst (-1), 1) := by decide +kernel
theorem dX9_hasBarre_8 : decode cX9_hasBarre 8 = .ok (.istore_n 3, 1) := by decide +kernel
theorem dX9_hasBarre_9 : decode cX9_hasBarre 9 = .ok (.iconst 0, 1) := by decide +kernel
theorem dX9_hasBarre_10 : decode cX9_hasBarre 10 = .ok (.istore 4, 2) := by decide +kernel
theorem dX9_hasBarre_12 : decode cX9_hasBarre 12 = .ok (.iload 4, 2) := by decide +kernel
theorem dX9_hasBarre_14 : decode cX9_hasBarre 14 = .ok (.aload_n 0, 1) := by decide +kernel
theorem dX9_hasBarre_15 : decode cX9_hasBarre 15 = .ok (.arraylength, 1) := by decide +kernel
theorem dX9_hasBarre_16 : decode cX9_hasBarre 16 = .ok (.if_icmp .ge 39, 3) := by decide +kernel
theorem dX9_hasBarre_19 : decode cX9_hasBarre 19 = .ok (.iload_n 1, 1) := by decide +kernel
theorem dX9_hasBarre_20 : decode cX9_hasBarre 20 = .ok (.ifCond .le 35, 3) := by decide +kernel
theorem dX9_hasBarre_23 : decode cX9_hasBarre 23 = .ok (.aload_n 0, 1) := by decide +kernel
theorem dX9_hasBarre_24 : decode cX9_hasBarre 24 = .ok (.iload 4, 2) := by decide +kernel
theorem dX9_hasBarre_26 : decode cX9_hasBarre 26 = .ok (.iaload, 1) := by decide +kernel
theorem dX9_hasBarre_27 : decode cX9_hasBarre 27 = .ok (.iload_n 1, 1) := by decide +kernel
theorem dX9_hasBarre_28 : decode cX9_hasBarre 28 = .ok (.if_icmp .eq 6, 3) := by decide +kernel
theorem dX9_hasBarre_31 : decode cX9_hasBarre 31 = .ok (.goto 18, 3) := by decide +kernel
theorem dX9_hasBarre_34 : decode cX9_hasBarre 34 = .ok (.iload_n 2, 1) := by decide +kernel
theorem dX9_hasBarre_35 : decode cX9_hasBarre 35 = .ok (.iconst (-1), 1) := by decide +kernel
theorem dX9_hasBarre_36 : decode cX9_hasBarre 36 = .ok (.if_icmp .ne 8, 3) := by decide +kernel
theorem dX9_hasBarre_39 : decode cX9_hasBarre 39 = .ok (.iload 4, 2) := by decide +kernel
theorem dX9_hasBarre_41 : decode cX9_hasBarre 41 = .ok (.goto 4, 3) := by decide +kernel
theorem dX9_hasBarre_44 : decode cX9_hasBarre 44 = .ok (.iload_n 2, 1) := by decide +kernel
theorem dX9_hasBarre_45 : decode cX9_hasBarre 45 = .ok (.istore_n 2, 1) := by decide +kernel
theorem dX9_hasBarre_46 : decode cX9_hasBarre 46 = .ok (.iload 4, 2) := by decide +kernel
theorem dX9_hasBarre_48 : decode cX9_hasBarre 48 = .ok (.istore_n 3, 1) := by decide +kernel
theorem dX9_hasBarre_49 : decode cX9_hasBarre 49 = .ok (.iinc 4 1, 3) := by decide +kernel
theorem dX9_hasBarre_52 : decode cX9_hasBarre 52 = .ok (.goto (-40), 3) := by decide +kernel
theorem dX9_hasBarre_55 : decode cX9_hasBarre 55 = .ok (.iload_n 2, 1) := by decide +kernel
theorem dX9_hasBarre_56 : decode cX9_hasBarre 56 = .ok (.istore 4, 2) := by decide +kernel
theorem dX9_hasBarre_58 : decode cX9_hasBarre 58 = .ok (.iload 4, 2) := by decide +kernel
theorem dX9_hasBarre_60 : decode cX9_hasBarre 60 = .ok (.ifCond .lt 24, 3) := by decide +kernel
theorem dX9_hasBarre_63 : decode cX9_hasBarre 63 = .ok (.iload 4, 2) := by decide +kernel
theorem dX9_hasBarre_65 : decode cX9_hasBarre 65 = .ok (.iload_n 3, 1) := by decide +kernel
theorem dX9_hasBarre_66 : decode cX9_hasBarre 66 = .ok (.if_icmp .gt 18, 3) := by decide +kernel
theorem dX9_hasBarre_69 : decode cX9_hasBarre 69 = .ok (.aload_n 0, 1) := by decide +kernel
theorem dX9_hasBarre_70 : decode cX9_hasBarre 70 = .ok (.iload 4, 2) := by decide +kernel
theorem dX9_hasBarre_72 : decode cX9_hasBarre 72 = .ok (.iaload, 1) := by decide +kernel
theorem dX9_hasBarre_73 : decode cX9_hasBarre 73 = .ok (.ifCond .ne 5, 3) := by decide +kernel
theorem dX9_hasBarre_76 : decode cX9_hasBarre 76 = .ok (.iconst 0, 1) := by decide +kernel
theorem dX9_hasBarre_77 : decode cX9_hasBarre 77 = .ok (.ireturn, 1) := by decide +kernel
theorem dX9_hasBarre_78 : decode cX9_hasBarre 78 = .ok (.iinc 4 1, 3) := by decide +kernel
theorem dX9_hasBarre_81 : decode cX9_hasBarre 81 = .ok (.goto (-23), 3) := by decide +kernel
theorem dX9_hasBarre_84 : decode cX9_hasBarre 84 = .ok (.iload_n 2, 1) := by decide +kernel
theorem dX9_hasBarre_85 : decode cX9_hasBarre 85 = .ok (.iload_n 3, 1) := by decide +kernel
theorem dX9_hasBarre_86 : decode cX9_hasBarre 86 = .ok (.if_icmp .eq 7, 3) := by decide +kernel
theorem dX9_hasBarre_89 : decode cX9_hasBarre 89 = .ok (.iconst 1, 1) := by decide +kernel
theorem dX9_hasBarre_90 : decode cX9_hasBarre 90 = .ok (.goto 4, 3) := by decide +kernel
theorem dX9_hasBarre_93 : decode cX9_hasBarre 93 = .ok (.iconst 0, 1) := by decide +kernel
theorem dX9_hasBarre_94 : decode cX9_hasBarre 94 = .ok (.ireturn, 1) := by decide +kernel
theorem dX9_fingerNow_0 : decode cX9_fingerNow 0 = .ok (.aload_n 0, 1) := by decide +kernel
theorem dX9_fingerNow_1 : decode cX9_fingerNow 1 = .ok (.iload_n 1, 1) := by decide +kernel
theorem dX9_fingerNow_2 : decode cX9_fingerNow 2 = .ok (.iaload, 1) := by decide +kernel
theorem dX9_fingerNow_3 : decode cX9_fingerNow 3 = .ok (.ifCond .gt 5, 3) := by decide +kernel
theorem dX9_fingerNow_6 : decode cX9_fingerNow 6 = .ok (.iconst 0, 1) := by decide +kernel
theorem dX9_fingerNow_7 : decode cX9_fingerNow 7 = .ok (.ireturn, 1) := by decide +kernel
theorem dX9_fingerNow_8 : decode cX9_fingerNow 8 = .ok (.aload_n 0, 1) := by decide +kernel
theorem dX9_fingerNow_9 : decode cX9_fingerNow 9 = .ok (.invokestatic 88, 3) := by decide +kernel
theorem dX9_fingerNow_12 : decode cX9_fingerNow 12 = .ok (.istore_n 2, 1) := by decide +kernel
theorem dX9_fingerNow_13 : decode cX9_fingerNow 13 = .ok (.aload_n 0, 1) := by decide +kernel
theorem dX9_fingerNow_14 : decode cX9_fingerNow 14 = .ok (.invokestatic 84, 3) := by decide +kernel
theorem dX9_fingerNow_17 : decode cX9_fingerNow 17 = .ok (.istore_n 3, 1) := by decide +kernel
theorem dX9_fingerNow_18 : decode cX9_fingerNow 18 = .ok (.iload_n 2, 1) := by decide +kernel
theorem dX9_fingerNow_19 : decode cX9_fingerNow 19 = .ok (.ifCond .eq 12, 3) := by decide +kernel
theorem dX9_fingerNow_22 : decode cX9_fingerNow 22 = .ok (.aload_n 0, 1) := by decide +kernel
theorem dX9_fingerNow_23 : decode cX9_fingerNow 23 = .ok (.iload_n 1, 1) := by decide +kernel
theorem dX9_fingerNow_24 : decode cX9_fingerNow 24 = .ok (.iaload, 1) := by decide +kernel
theorem dX9_fingerNow_25 : decode cX9_fingerNow 25 = .ok (.iload_n 3, 1) := by decide +kernel
theorem dX9_fingerNow_26 : decode cX9_fingerNow 26 = .ok (.if_icmp .ne 5, 3) := by decide +kernel
theorem dX9_fingerNow_29 : decode cX9_fingerNow 29 = .ok (.iconst 1, 1) := by decide +kernel
theorem dX9_fingerNow_30 : decode cX9_fingerNow 30 = .ok (.ireturn, 1) := by decide +kernel
theorem dX9_fingerNow_31 : decode cX9_fingerNow 31 = .ok (.iload_n 2, 1) := by decide +kernel
theorem dX9_fingerNow_32 : decode cX9_fingerNow 32 = .ok (.ifCond .eq 7, 3) := by decide +kernel
theorem dX9_fingerNow_35 : decode cX9_fingerNow 35 = .ok (.iconst 2, 1) := by decide +kernel
theorem dX9_fingerNow_36 : decode cX9_fingerNow 36 = .ok (.goto 4, 3) := by decide +kernel
theorem dX9_fingerNow_39 : decode cX9_fingerNow 39 = .ok (.iconst 1, 1) := by decide +kernel
theorem dX9_fingerNow_40 : decode cX9_fingerNow 40 = .ok (.istore 4, 2) := by decide +kernel
theorem dX9_fingerNow_42 : decode cX9_fingerNow 42 = .ok (.iconst 0, 1) := by decide +kernel
theorem dX9_fingerNow_43 : decode cX9_fingerNow 43 = .ok (.istore 5, 2) := by decide +kernel
theorem dX9_fingerNow_45 : decode cX9_fingerNow 45 = .ok (.iload 5, 2) := by decide +kernel
theorem dX9_fingerNow_47 : decode cX9_fingerNow 47 = .ok (.aload_n 0, 1) := by decide +kernel
theorem dX9_fingerNow_48 : decode cX9_fingerNow 48 = .ok (.arraylength, 1) := by decide +kernel
theorem dX9_fingerNow_49 : decode cX9_fingerNow 49 = .ok (.if_icmp .ge 76, 3) := by decide +kernel
theorem dX9_fingerNow_52 : decode cX9_fingerNow 52 = .ok (.aload_n 0, 1) := by decide +kernel
theorem dX9_fingerNow_53 : decode cX9_fingerNow 53 = .ok (.iload 5, 2) := by decide +kernel
theorem dX9_fingerNow_55 : decode cX9_fingerNow 55 = .ok (.iaload, 1) := by decide +kernel
theorem dX9_fingerNow_56 : decode cX9_fingerNow 56 = .ok (.ifCond .le 33, 3) := by decide +kernel
theorem dX9_fingerNow_59 : decode cX9_fingerNow 59 = .ok (.aload_n 0, 1) := by decide +kernel
theorem dX9_fingerNow_60 : decode cX9_fingerNow 60 = .ok (.iload 5, 2) := by decide +kernel
theorem dX9_fingerNow_62 : decode cX9_fingerNow 62 = .ok (.iaload, 1) := by decide +kernel
theorem dX9_fingerNow_63 : decode cX9_fingerNow 63 = .ok (.aload_n 0, 1) := by decide +kernel
theorem dX9_fingerNow_64 : decode cX9_fingerNow 64 = .ok (.iload_n 1, 1) := by decide +kernel
theorem dX9_fingerNow_65 : decode cX9_fingerNow 65 = .ok (.iaload, 1) := by decide +kernel
theorem dX9_fingerNow_66 : decode cX9_fingerNow 66 = .ok (.if_icmp .lt 19, 3) := by decide +kernel
theorem dX9_fingerNow_69 : decode cX9_fingerNow 69 = .ok (.aload_n 0, 1) := by decide +kernel
theorem dX9_fingerNow_70 : decode cX9_fingerNow 70 = .ok (.iload 5, 2) := by decide +kernel
theorem dX9_fingerNow_72 : decode cX9_fingerNow 72 = .ok (.iaload, 1) := by decide +kernel
theorem dX9_fingerNow_73 : decode cX9_fingerNow 73 = .ok (.aload_n 0, 1) := by decide +kernel
theorem dX9_fingerNow_74 : decode cX9_fingerNow 74 = .ok (.iload_n 1, 1) := by decide +kernel
theorem dX9_fingerNow_75 : decode cX9_fingerNow 75 = .ok (.iaload, 1) := by decide +kernel
theorem dX9_fingerNow_76 : decode cX9_fingerNow 76 = .ok (.if_icmp .ne 13, 3) := by decide +kernel
theorem dX9_fingerNow_79 : decode cX9_fingerNow 79 = .ok (.iload 5, 2) := by decide +kernel
theorem dX9_fingerNow_81 : decode cX9_fingerNow 81 = .ok (.iload_n 1, 1) := by decide +kernel
theorem dX9_fingerNow_82 : decode cX9_fingerNow 82 = .ok (.if_icmp .ge 7, 3) := by decide +kernel
theorem dX9_fingerNow_85 : decode cX9_fingerNow 85 = .ok (.iconst 1, 1) := by decide +kernel
theorem dX9_fingerNow_86 : decode cX9_fingerNow 86 = .ok (.goto 4, 3) := by decide +kernel
theorem dX9_fingerNow_89 : decode cX9_fingerNow 89 = .ok (.iconst 0, 1) := by decide +kernel
theorem dX9_fingerNow_90 : decode cX9_fingerNow 90 = .ok (.istore 6, 2) := by decide +kernel
theorem dX9_fingerNow_92 : decode cX9_fingerNow 92 = .ok (.iload 4, 2) := by decide +kernel
theorem dX9_fingerNow_94 : decode cX9_fingerNow 94 = .ok (.iload 6, 2) := by decide +kernel
theorem dX9_fingerNow_96 : decode cX9_fingerNow 96 = .ok (.ifCond .eq 19, 3) := by decide +kernel
theorem dX9_fingerNow_99 : decode cX9_fingerNow 99 = .ok (.iload_n 2, 1) := by decide +kernel
theorem dX9_fingerNow_100 : decode cX9_fingerNow 100 = .ok (.ifCond .eq 11, 3) := by decide +kernel
theorem dX9_fingerNow_103 : decode cX9_fingerNow 103 = .ok (.aload_n 0, 1) := by decide +kernel
theorem dX9_fingerNow_104 : decode cX9_fingerNow 104 = .ok (.iload 5, 2) := by decide +kernel
theorem dX9_fingerNow_106 : decode cX9_fingerNow 106 = .ok (.iaload, 1) := by decide +kernel
theorem dX9_fingerNow_107 : decode cX9_fingerNow 107 = .ok (.iload_n 3, 1) := by decide +kernel
theorem dX9_fingerNow_108 : decode cX9_fingerNow 108 = .ok (.if_icmp .eq 7, 3) := by decide +kernel
theorem dX9_fingerNow_111 : decode cX9_fingerNow 111 = .ok (.iconst 1, 1) := by decide +kernel
theorem dX9_fingerNow_112 : decode cX9_fingerNow 112 = .ok (.goto 4, 3) := by decide +kernel
theorem dX9_fingerNow_115 : decode cX9_fingerNow 115 = .ok (.iconst 0, 1) := by decide +kernel
theorem dX9_fingerNow_116 : decode cX9_fingerNow 116 = .ok (.iadd, 1) := by decide +kernel
theorem dX9_fingerNow_117 : decode cX9_fingerNow 117 = .ok (.istore 4, 2) := by decide +kernel
theorem dX9_fingerNow_119 : decode cX9_fingerNow 119 = .ok (.iinc 5 1, 3) := by decide +kernel
theorem dX9_fingerNow_122 : decode cX9_fingerNow 122 = .ok (.goto (-77), 3) := by decide +kernel
theorem dX9_fingerNow_125 : decode cX9_fingerNow 125 = .ok (.iload 4, 2) := by decide +kernel
theorem dX9_fingerNow_127 : decode cX9_fingerNow 127 = .ok (.ireturn, 1) := by decide +kernel
theorem dX9_fingers_0 : decode cX9_fingers 0 = .ok (.iconst 0, 1) := by decide +kernel
theorem dX9_fingers_1 : decode cX9_fingers 1 = .ok (.istore_n 1, 1) := by decide +kernel
theorem dX9_fingers_2 : decode cX9_fingers 2 = .ok (.iconst 0, 1) := by decide +kernel
theorem dX9_fingers_3 : decode cX9_fingers 3 = .ok (.istore_n 2, 1) := by decide +kernel
theorem dX9_fingers_4 : decode cX9_fingers 4 = .ok (.iload_n 2, 1) := by decide +kernel
theorem dX9_fingers_5 : decode cX9_fingers 5 = .ok (.aload_n 0, 1) := by decide +kernel
theorem dX9_fingers_6 : decode cX9_fingers 6 = .ok (.arraylength, 1) := by decide +kernel
theorem dX9_fingers_7 : decode cX9_fingers 7 = .ok (.if_icmp .ge 19, 3) := by decide +kernel
theorem dX9_fingers_10 : decode cX9_fingers 10 = .ok (.iload_n 1, 1) := by decide +kernel
theorem dX9_fingers_11 : decode cX9_fingers 11 = .ok (.aload_n 0, 1) := by decide +kernel
theorem dX9_fingers_12 : decode cX9_fingers 12 = .ok (.iload_n 2, 1) := by decide +kernel
theorem dX9_fingers_13 : decode cX9_fingers 13 = .ok (.invokestatic 92, 3) := by decide +kernel
theorem dX9_fingers_16 : decode cX9_fingers 16 = .ok (.invokestatic 79, 3) := by decide +kernel
theorem dX9_fingers_19 : decode cX9_fingers 19 = .ok (.istore_n 1, 1) := by decide +kernel
theorem dX9_fingers_20 : decode cX9_fingers 20 = .ok (.iinc 2 1, 3) := by decide +kernel
theorem dX9_fingers_23 : decode cX9_fingers 23 = .ok (.goto (-19), 3) := by decide +kernel
theorem dX9_fingers_26 : decode cX9_fingers 26 = .ok (.iload_n 1, 1) := by decide +kernel
theorem dX9_fingers_27 : decode cX9_fingers 27 = .ok (.ireturn, 1) := by decide +kernel
theorem dX9_sounding_0 : decode cX9_sounding 0 = .ok (.iconst 0, 1) := by decide +kernel
theorem dX9_sounding_1 : decode cX9_sounding 1 = .ok (.istore_n 1, 1) := by decide +kernel
theorem dX9_sounding_2 : decode cX9_sounding 2 = .ok (.aload_n 0, 1) := by decide +kernel
theorem dX9_sounding_3 : decode cX9_sounding 3 = .ok (.astore_n 2, 1) := by decide +kernel
theorem dX9_sounding_4 : decode cX9_sounding 4 = .ok (.aload_n 2, 1) := by decide +kernel
theorem dX9_sounding_5 : decode cX9_sounding 5 = .ok (.arraylength, 1) := by decide +kernel
theorem dX9_sounding_6 : decode cX9_sounding 6 = .ok (.istore_n 3, 1) := by decide +kernel
theorem dX9_sounding_7 : decode cX9_sounding 7 = .ok (.iconst 0, 1) := by decide +kernel
theorem dX9_sounding_8 : decode cX9_sounding 8 = .ok (.istore 4, 2) := by decide +kernel
theorem dX9_sounding_10 : decode cX9_sounding 10 = .ok (.iload 4, 2) := by decide +kernel
theorem dX9_sounding_12 : decode cX9_sounding 12 = .ok (.iload_n 3, 1) := by decide +kernel
theorem dX9_sounding_13 : decode cX9_sounding 13 = .ok (.if_icmp .ge 29, 3) := by decide +kernel
theorem dX9_sounding_16 : decode cX9_sounding 16 = .ok (.aload_n 2, 1) := by decide +kernel
theorem dX9_sounding_17 : decode cX9_sounding 17 = .ok (.iload 4, 2) := by decide +kernel
theorem dX9_sounding_19 : decode cX9_sounding 19 = .ok (.iaload, 1) := by decide +kernel
theorem dX9_sounding_20 : decode cX9_sounding 20 = .ok (.istore 5, 2) := by decide +kernel
theorem dX9_sounding_22 : decode cX9_sounding 22 = .ok (.iload_n 1, 1) := by decide +kernel
theorem dX9_sounding_23 : decode cX9_sounding 23 = .ok (.iload 5, 2) := by decide +kernel
theorem dX9_sounding_25 : decode cX9_sounding 25 = .ok (.iconst (-1), 1) := by decide +kernel
theorem dX9_sounding_26 : decode cX9_sounding 26 = .ok (.if_icmp .ne 7, 3) := by decide +kernel
theorem dX9_sounding_29 : decode cX9_sounding 29 = .ok (.iconst 0, 1) := by decide +kernel
theorem dX9_sounding_30 : decode cX9_sounding 30 = .ok (.goto 4, 3) := by decide +kernel
theorem dX9_sounding_33 : decode cX9_sounding 33 = .ok (.iconst 1, 1) := by decide +kernel
theorem dX9_sounding_34 : decode cX9_sounding 34 = .ok (.iadd, 1) := by decide +kernel
theorem dX9_sounding_35 : decode cX9_sounding 35 = .ok (.istore_n 1, 1) := by decide +kernel
theorem dX9_sounding_36 : decode cX9_sounding 36 = .ok (.iinc 4 1, 3) := by decide +kernel
theorem dX9_sounding_39 : decode cX9_sounding 39 = .ok (.goto (-29), 3) := by decide +kernel
theorem dX9_sounding_42 : decode cX9_sounding 42 = .ok (.iload_n 1, 1) := by decide +kernel
theorem dX9_sounding_43 : decode cX9_sounding 43 = .ok (.ireturn, 1) := by decide +kernel
theorem dX9_gaps_0 : decode cX9_gaps 0 = .ok (.iconst 0, 1) := by decide +kernel
theorem dX9_gaps_1 : decode cX9_gaps 1 = .ok (.istore_n 1, 1) := by decide +kernel
theorem dX9_gaps_2 : decode cX9_gaps 2 = .ok (.iconst 0, 1) := by decide +kernel
theorem dX9_gaps_3 : decode cX9_gaps 3 = .ok (.istore_n 2, 1) := by decide +kernel
theorem dX9_gaps_4 : decode cX9_gaps 4 = .ok (.aload_n 0, 1) := by decide +kernel
theorem dX9_gaps_5 : decode cX9_gaps 5 = .ok (.invokestatic 96, 3) := by decide +kernel
theorem dX9_gaps_8 : decode cX9_gaps 8 = .ok (.istore_n 3, 1) := by decide +kernel
theorem dX9_gaps_9 : decode cX9_gaps 9 = .ok (.aload_n 0, 1) := by decide +kernel
theorem dX9_gaps_10 : decode cX9_gaps 10 = .ok (.astore 4, 2) := by decide +kernel
theorem dX9_gaps_12 : decode cX9_gaps 12 = .ok (.aload 4, 2) := by decide +kernel
theorem dX9_gaps_14 : decode cX9_gaps 14 = .ok (.arraylength, 1) := by decide +kernel
theorem dX9_gaps_15 : decode cX9_gaps 15 = .ok (.istore 5, 2) := by decide +kernel
theorem dX9_gaps_17 : decode cX9_gaps 17 = .ok (.iconst 0, 1) := by decide +kernel
theorem dX9_gaps_18 : decode cX9_gaps 18 = .ok (.istore 6, 2) := by decide +kernel
theorem dX9_gaps_20 : decode cX9_gaps 20 = .ok (.iload 6, 2) := by decide +kernel
theorem dX9_gaps_22 : decode cX9_gaps 22 = .ok (.iload 5, 2) := by decide +kernel
theorem dX9_gaps_24 : decode cX9_gaps 24 = .ok (.if_icmp .ge 40, 3) := by decide +kernel
theorem dX9_gaps_27 : decode cX9_gaps 27 = .ok (.aload 4, 2) := by decide +kernel
theorem dX9_gaps_29 : decode cX9_gaps 29 = .ok (.iload 6, 2) := by decide +kernel
theorem dX9_gaps_31 : decode cX9_gaps 31 = .ok (.iaload, 1) := by decide +kernel
theorem dX9_gaps_32 : decode cX9_gaps 32 = .ok (.istore 7, 2) := by decide +kernel
theorem dX9_gaps_34 : decode cX9_gaps 34 = .ok (.iload 7, 2) := by decide +kernel
theorem dX9_gaps_36 : decode cX9_gaps 36 = .ok (.iconst (-1), 1) := by decide +kernel
theorem dX9_gaps_37 : decode cX9_gaps 37 = .ok (.if_icmp .eq 9, 3) := by decide +kernel
theorem dX9_gaps_40 : decode cX9_gaps 40 = .ok (.iinc 1 1, 3) := by decide +kernel
theorem dX9_gaps_43 : decode cX9_gaps 43 = .ok (.goto 15, 3) := by decide +kernel
theorem dX9_gaps_46 : decode cX9_gaps 46 = .ok (.iload_n 1, 1) := by decide +kernel
theorem dX9_gaps_47 : decode cX9_gaps 47 = .ok (.ifCond .le 11, 3) := by decide +kernel
theorem dX9_gaps_50 : decode cX9_gaps 50 = .ok (.iload_n 1, 1) := by decide +kernel
theorem dX9_gaps_51 : decode cX9_gaps 51 = .ok (.iload_n 3, 1) := by decide +kernel
theorem dX9_gaps_52 : decode cX9_gaps 52 = .ok (.if_icmp .ge 6, 3) := by decide +kernel
theorem dX9_gaps_55 : decode cX9_gaps 55 = .ok (.iinc 2 1, 3) := by decide +kernel
theorem dX9_gaps_58 : decode cX9_gaps 58 = .ok (.iinc 6 1, 3) := by decide +kernel
theorem dX9_gaps_61 : decode cX9_gaps 61 = .ok (.goto (-41), 3) := by decide +kernel
theorem dX9_gaps_64 : decode cX9_gaps 64 = .ok (.iload_n 2, 1) := by decide +kernel
theorem dX9_gaps_65 : decode cX9_gaps 65 = .ok (.ireturn, 1) := by decide +kernel
theorem dX9_effort_0 : decode cX9_effort 0 = .ok (.iconst 2, 1) := by decide +kernel
theorem dX9_effort_1 : decode cX9_effort 1 = .ok (.aload_n 0, 1) := by decide +kernel
theorem dX9_effort_2 : decode cX9_effort 2 = .ok (.invokestatic 99, 3) := by decide +kernel
theorem dX9_effort_5 : decode cX9_effort 5 = .ok (.aload_n 0, 1) := by decide +kernel
theorem dX9_effort_6 : decode cX9_effort 6 = .ok (.invokestatic 84, 3) := by decide +kernel
theorem dX9_effort_9 : decode cX9_effort 9 = .ok (.isub, 1) := by decide +kernel
theorem dX9_effort_10 : decode cX9_effort 10 = .ok (.imul, 1) := by decide +kernel
theorem dX9_effort_11 : decode cX9_effort 11 = .ok (.aload_n 0, 1) := by decide +kernel
theorem dX9_effort_12 : decode cX9_effort 12 = .ok (.invokestatic 102, 3) := by decide +kernel
theorem dX9_effort_15 : decode cX9_effort 15 = .ok (.iadd, 1) := by decide +kernel
theorem dX9_effort_16 : decode cX9_effort 16 = .ok (.aload_n 0, 1) := by decide +kernel
theorem dX9_effort_17 : decode cX9_effort 17 = .ok (.invokestatic 88, 3) := by decide +kernel
theorem dX9_effort_20 : decode cX9_effort 20 = .ok (.ifCond .eq 7, 3) := by decide +kernel
theorem dX9_effort_23 : decode cX9_effort 23 = .ok (.iconst 3, 1) := by decide +kernel
theorem dX9_effort_24 : decode cX9_effort 24 = .ok (.goto 4, 3) := by decide +kernel
theorem dX9_effort_27 : decode cX9_effort 27 = .ok (.iconst 0, 1) := by decide +kernel
theorem dX9_effort_28 : decode cX9_effort 28 = .ok (.iadd, 1) := by decide +kernel
theorem dX9_effort_29 : decode cX9_effort 29 = .ok (.aload_n 0, 1) := by decide +kernel
theorem dX9_effort_30 : decode cX9_effort 30 = .ok (.invokestatic 105, 3) := by decide +kernel
theorem dX9_effort_33 : decode cX9_effort 33 = .ok (.iadd, 1) := by decide +kernel
theorem dX9_effort_34 : decode cX9_effort 34 = .ok (.ireturn, 1) := by decide +kernel
theorem dX9_isPlayable_0 : decode cX9_isPlayable 0 = .ok (.aload_n 1, 1) := by decide +kernel
theorem dX9_isPlayable_1 : decode cX9_isPlayable 1 = .ok (.invokestatic 99, 3) := by decide +kernel
theorem dX9_isPlayable_4 : decode cX9_isPlayable 4 = .ok (.aload_n 1, 1) := by decide +kernel
theorem dX9_isPlayable_5 : decode cX9_isPlayable 5 = .ok (.invokestatic 84, 3) := by decide +kernel
theorem dX9_isPlayable_8 : decode cX9_isPlayable 8 = .ok (.isub, 1) := by decide +kernel
theorem dX9_isPlayable_9 : decode cX9_isPlayable 9 = .ok (.aload_n 0, 1) := by decide +kernel
theorem dX9_isPlayable_10 : decode cX9_isPlayable 10 = .ok (.getfield 17, 3) := by decide +kernel
theorem dX9_isPlayable_13 : decode cX9_isPlayable 13 = .ok (.if_icmp .gt 15, 3) := by decide +kernel
theorem dX9_isPlayable_16 : decode cX9_isPlayable 16 = .ok (.aload_n 1, 1) := by decide +kernel
theorem dX9_isPlayable_17 : decode cX9_isPlayable 17 = .ok (.invokestatic 102, 3) := by decide +kernel
theorem dX9_isPlayable_20 : decode cX9_isPlayable 20 = .ok (.iconst 4, 1) := by decide +kernel
theorem dX9_isPlayable_21 : decode cX9_isPlayable 21 = .ok (.if_icmp .gt 7, 3) := by decide +kernel
theorem dX9_isPlayable_24 : decode cX9_isPlayable 24 = .ok (.iconst 1, 1) := by decide +kernel
theorem dX9_isPlayable_25 : decode cX9_isPlayable 25 = .ok (.goto 4, 3) := by decide +kernel
theorem dX9_isPlayable_28 : decode cX9_isPlayable 28 = .ok (.iconst 0, 1) := by decide +kernel
theorem dX9_isPlayable_29 : decode cX9_isPlayable 29 = .ok (.ireturn, 1) := by decide +kernel
theorem dX9_isSmaller_0 : decode cX9_isSmaller 0 = .ok (.iconst 0, 1) := by decide +kernel
theorem dX9_isSmaller_1 : decode cX9_isSmaller 1 = .ok (.istore_n 2, 1) := by decide +kernel
theorem dX9_isSmaller_2 : decode cX9_isSmaller 2 = .ok (.iload_n 2, 1) := by decide +kernel
theorem dX9_isSmaller_3 : decode cX9_isSmaller 3 = .ok (.aload_n 0, 1) := by decide +kernel
theorem dX9_isSmaller_4 : decode cX9_isSmaller 4 = .ok (.arraylength, 1) := by decide +kernel
theorem dX9_isSmaller_5 : decode cX9_isSmaller 5 = .ok (.if_icmp .ge 33, 3) := by decide +kernel
theorem dX9_isSmaller_8 : decode cX9_isSmaller 8 = .ok (.aload_n 0, 1) := by decide +kernel
theorem dX9_isSmaller_9 : decode cX9_isSmaller 9 = .ok (.iload_n 2, 1) := by decide +kernel
theorem dX9_isSmaller_10 : decode cX9_isSmaller 10 = .ok (.iaload, 1) := by decide +kernel
theorem dX9_isSmaller_11 : decode cX9_isSmaller 11 = .ok (.aload_n 1, 1) := by decide +kernel
theorem dX9_isSmaller_12 : decode cX9_isSmaller 12 = .ok (.iload_n 2, 1) := by decide +kernel
theorem dX9_isSmaller_13 : decode cX9_isSmaller 13 = .ok (.iaload, 1) := by decide +kernel
theorem dX9_isSmaller_14 : decode cX9_isSmaller 14 = .ok (.if_icmp .eq 18, 3) := by decide +kernel
theorem dX9_isSmaller_17 : decode cX9_isSmaller 17 = .ok (.aload_n 0, 1) := by decide +kernel
theorem dX9_isSmaller_18 : decode cX9_isSmaller 18 = .ok (.iload_n 2, 1) := by decide +kernel
theorem dX9_isSmaller_19 : decode cX9_isSmaller 19 = .ok (.iaload, 1) := by decide +kernel
theorem dX9_isSmaller_20 : decode cX9_isSmaller 20 = .ok (.aload_n 1, 1) := by decide +kernel
theorem dX9_isSmaller_21 : decode cX9_isSmaller 21 = .ok (.iload_n 2, 1) := by decide +kernel
theorem dX9_isSmaller_22 : decode cX9_isSmaller 22 = .ok (.iaload, 1) := by decide +kernel
theorem dX9_isSmaller_23 : decode cX9_isSmaller 23 = .ok (.if_icmp .ge 7, 3) := by decide +kernel
theorem dX9_isSmaller_26 : decode cX9_isSmaller 26 = .ok (.iconst 1, 1) := by decide +kernel
theorem dX9_isSmaller_27 : decode cX9_isSmaller 27 = .ok (.goto 4, 3) := by decide +kernel
theorem dX9_isSmaller_30 : decode cX9_isSmaller 30 = .ok (.iconst 0, 1) := by decide +kernel
theorem dX9_isSmaller_31 : decode cX9_isSmaller 31 = .ok (.ireturn, 1) := by decide +kernel
theorem dX9_isSmaller_32 : decode cX9_isSmaller 32 = .ok (.iinc 2 1, 3) := by decide +kernel
theorem dX9_isSmaller_35 : decode cX9_isSmaller 35 = .ok (.goto (-33), 3) := by decide +kernel
theorem dX9_isSmaller_38 : decode cX9_isSmaller 38 = .ok (.iconst 0, 1) := by decide +kernel
theorem dX9_isSmaller_39 : decode cX9_isSmaller 39 = .ok (.ireturn, 1) := by decide +kernel
theorem dX9_copy_0 : decode cX9_copy 0 = .ok (.aload_n 0, 1) := by decide +kernel
theorem dX9_copy_1 : decode cX9_copy 1 = .ok (.arraylength, 1) := by decide +kernel
theorem dX9_copy_2 : decode cX9_copy 2 = .ok (.newarray .int, 2) := by decide +kernel
theorem dX9_copy_4 : decode cX9_copy 4 = .ok (.astore_n 1, 1) := by decide +kernel
theorem dX9_copy_5 : decode cX9_copy 5 = .ok (.aload_n 0, 1) := by decide +kernel
theorem dX9_copy_6 : decode cX9_copy 6 = .ok (.iconst 0, 1) := by decide +kernel
theorem dX9_copy_7 : decode cX9_copy 7 = .ok (.aload_n 1, 1) := by decide +kernel
theorem dX9_copy_8 : decode cX9_copy 8 = .ok (.iconst 0, 1) := by decide +kernel
theorem dX9_copy_9 : decode cX9_copy 9 = .ok (.aload_n 0, 1) := by decide +kernel
theorem dX9_copy_10 : decode cX9_copy 10 = .ok (.arraylength, 1) := by decide +kernel
theorem dX9_copy_11 : decode cX9_copy 11 = .ok (.invokestatic 108, 3) := by decide +kernel
theorem dX9_copy_14 : decode cX9_copy 14 = .ok (.aload_n 1, 1) := by decide +kernel
theorem dX9_copy_15 : decode cX9_copy 15 = .ok (.areturn, 1) := by decide +kernel
theorem dX9_put_0 : decode cX9_put 0 = .ok (.aload_n 1, 1) := by decide +kernel
theorem dX9_put_1 : decode cX9_put 1 = .ok (.invokestatic 114, 3) := by decide +kernel
theorem dX9_put_4 : decode cX9_put 4 = .ok (.istore_n 2, 1) := by decide +kernel
theorem dX9_put_5 : decode cX9_put 5 = .ok (.aload_n 0, 1) := by decide +kernel
theorem dX9_put_6 : decode cX9_put 6 = .ok (.getfield 117, 3) := by decide +kernel
theorem dX9_put_9 : decode cX9_put 9 = .ok (.istore_n 3, 1) := by decide +kernel
theorem dX9_put_10 : decode cX9_put 10 = .ok (.iload_n 3, 1) := by decide +kernel
theorem dX9_put_11 : decode cX9_put 11 = .ok (.ifCond .le 48, 3) := by decide +kernel
theorem dX9_put_14 : decode cX9_put 14 = .ok (.aload_n 0, 1) := by decide +kernel
theorem dX9_put_15 : decode cX9_put 15 = .ok (.getfield 38, 3) := by decide +kernel
theorem dX9_put_18 : decode cX9_put 18 = .ok (.iload_n 3, 1) := by decide +kernel
theorem dX9_put_19 : decode cX9_put 19 = .ok (.iconst 1, 1) := by decide +kernel
theorem dX9_put_20 : decode cX9_put 20 = .ok (.isub, 1) := by decide +kernel
theorem dX9_put_21 : decode cX9_put 21 = .ok (.iaload, 1) := by decide +kernel
theorem dX9_put_22 : decode cX9_put 22 = .ok (.iload_n 2, 1) := by decide +kernel
theorem dX9_put_23 : decode cX9_put 23 = .ok (.if_icmp .gt 30, 3) := by decide +kernel
theorem dX9_put_26 : decode cX9_put 26 = .ok (.aload_n 0, 1) := by decide +kernel
theorem dX9_put_27 : decode cX9_put 27 = .ok (.getfield 38, 3) := by decide +kernel
theorem dX9_put_30 : decode cX9_put 30 = .ok (.iload_n 3, 1) := by decide +kernel
theorem dX9_put_31 : decode cX9_put 31 = .ok (.iconst 1, 1) := by decide +kernel
theorem dX9_put_32 : decode cX9_put 32 = .ok (.isub, 1) := by decide +kernel
theorem dX9_put_33 : decode cX9_put 33 = .ok (.iaload, 1) := by decide +kernel
theorem dX9_put_34 : decode cX9_put 34 = .ok (.iload_n 2, 1) := by decide +kernel
theorem dX9_put_35 : decode cX9_put 35 = .ok (.if_icmp .ne 24, 3) := by decide +kernel
theorem dX9_put_38 : decode cX9_put 38 = .ok (.aload_n 1, 1) := by decide +kernel
theorem dX9_put_39 : decode cX9_put 39 = .ok (.aload_n 0, 1) := by decide +kernel
theorem dX9_put_40 : decode cX9_put 40 = .ok (.getfield 35, 3) := by decide +kernel
theorem dX9_put_43 : decode cX9_put 43 = .ok (.iload_n 3, 1) := by decide +kernel
theorem dX9_put_44 : decode cX9_put 44 = .ok (.iconst 1, 1) := by decide +kernel
theorem dX9_put_45 : decode cX9_put 45 = .ok (.isub, 1) := by decide +kernel
theorem dX9_put_46 : decode cX9_put 46 = .ok (.aaload, 1) := by decide +kernel
theorem dX9_put_47 : decode cX9_put 47 = .ok (.invokestatic 120, 3) := by decide +kernel
theorem dX9_put_50 : decode cX9_put 50 = .ok (.ifCond .eq 9, 3) := by decide +kernel
theorem dX9_put_53 : decode cX9_put 53 = .ok (.iinc 3 (-1), 3) := by decide +kernel
theorem dX9_put_56 : decode cX9_put 56 = .ok (.goto (-46), 3) := by decide +kernel
theorem dX9_put_59 : decode cX9_put 59 = .ok (.iload_n 3, 1) := by decide +kernel
theorem dX9_put_60 : decode cX9_put 60 = .ok (.bipush 30, 2) := by decide +kernel
theorem dX9_put_62 : decode cX9_put 62 = .ok (.if_icmp .ne 4, 3) := by decide +kernel
theorem dX9_put_65 : decode cX9_put 65 = .ok (.return_, 1) := by decide +kernel
theorem dX9_put_66 : decode cX9_put 66 = .ok (.aload_n 0, 1) := by decide +kernel
theorem dX9_put_67 : decode cX9_put 67 = .ok (.bipush 30, 2) := by decide +kernel
theorem dX9_put_69 : decode cX9_put 69 = .ok (.aload_n 0, 1) := by decide +kernel
theorem dX9_put_70 : decode cX9_put 70 = .ok (.getfield 117, 3) := by decide +kernel
theorem dX9_put_73 : decode cX9_put 73 = .ok (.iconst 1, 1) := by decide +kernel
theorem dX9_put_74 : decode cX9_put 74 = .ok (.iadd, 1) := by decide +kernel
theorem dX9_put_75 : decode cX9_put 75 = .ok (.invokestatic 124, 3) := by decide +kernel
theorem dX9_put_78 : decode cX9_put 78 = .ok (.putfield 117, 3) := by decide +kernel
theorem dX9_put_81 : decode cX9_put 81 = .ok (.aload_n 0, 1) := by decide +kernel
theorem dX9_put_82 : decode cX9_put 82 = .ok (.getfield 117, 3) := by decide +kernel
theorem dX9_put_85 : decode cX9_put 85 = .ok (.iconst 1, 1) := by decide +kernel
theorem dX9_put_86 : decode cX9_put 86 = .ok (.isub, 1) := by decide +kernel
theorem dX9_put_87 : decode cX9_put 87 = .ok (.istore 4, 2) := by decide +kernel
theorem dX9_put_89 : decode cX9_put 89 = .ok (.iload 4, 2) := by decide +kernel
theorem dX9_put_91 : decode cX9_put 91 = .ok (.iload_n 3, 1) := by decide +kernel
theorem dX9_put_92 : decode cX9_put 92 = .ok (.if_icmp .le 41, 3) := by decide +kernel
theorem dX9_put_95 : decode cX9_put 95 = .ok (.aload_n 0, 1) := by decide +kernel
theorem dX9_put_96 : decode cX9_put 96 = .ok (.getfield 35, 3) := by decide +kernel
theorem dX9_put_99 : decode cX9_put 99 = .ok (.iload 4, 2) := by decide +kernel
theorem dX9_put_101 : decode cX9_put 101 = .ok (.aload_n 0, 1) := by decide +kernel
theorem dX9_put_102 : decode cX9_put 102 = .ok (.getfield 35, 3) := by decide +kernel
theorem dX9_put_105 : decode cX9_put 105 = .ok (.iload 4, 2) := by decide +kernel
theorem dX9_put_107 : decode cX9_put 107 = .ok (.iconst 1, 1) := by decide +kernel
theorem dX9_put_108 : decode cX9_put 108 = .ok (.isub, 1) := by decide +kernel
theorem dX9_put_109 : decode cX9_put 109 = .ok (.aaload, 1) := by decide +kernel
theorem dX9_put_110 : decode cX9_put 110 = .ok (.aastore, 1) := by decide +kernel
theorem dX9_put_111 : decode cX9_put 111 = .ok (.aload_n 0, 1) := by decide +kernel
theorem dX9_put_112 : decode cX9_put 112 = .ok (.getfield 38, 3) := by decide +kernel
theorem dX9_put_115 : decode cX9_put 115 = .ok (.iload 4, 2) := by decide +kernel
theorem dX9_put_117 : decode cX9_put 117 = .ok (.aload_n 0, 1) := by decide +kernel
theorem dX9_put_118 : decode cX9_put 118 = .ok (.getfield 38, 3) := by decide +kernel
theorem dX9_put_121 : decode cX9_put 121 = .ok (.iload 4, 2) := by decide +kernel
theorem dX9_put_123 : decode cX9_put 123 = .ok (.iconst 1, 1) := by decide +kernel
theorem dX9_put_124 : decode cX9_put 124 = .ok (.isub, 1) := by decide +kernel
theorem dX9_put_125 : decode cX9_put 125 = .ok (.iaload, 1) := by decide +kernel
theorem dX9_put_126 : decode cX9_put 126 = .ok (.iastore, 1) := by decide +kernel
theorem dX9_put_127 : decode cX9_put 127 = .ok (.iinc 4 (-1), 3) := by decide +kernel
theorem dX9_put_130 : decode cX9_put 130 = .ok (.goto (-41), 3) := by decide +kernel
theorem dX9_put_133 : decode cX9_put 133 = .ok (.aload_n 0, 1) := by decide +kernel
theorem dX9_put_134 : decode cX9_put 134 = .ok (.getfield 35, 3) := by decide +kernel
theorem dX9_put_137 : decode cX9_put 137 = .ok (.iload_n 3, 1) := by decide +kernel
theorem dX9_put_138 : decode cX9_put 138 = .ok (.aload_n 1, 1) := by decide +kernel
theorem dX9_put_139 : decode cX9_put 139 = .ok (.invokestatic 127, 3) := by decide +kernel
theorem dX9_put_142 : decode cX9_put 142 = .ok (.aastore, 1) := by decide +kernel
theorem dX9_put_143 : decode cX9_put 143 = .ok (.aload_n 0, 1) := by decide +kernel
theorem dX9_put_144 : decode cX9_put 144 = .ok (.getfield 38, 3) := by decide +kernel
theorem dX9_put_147 : decode cX9_put 147 = .ok (.iload_n 3, 1) := by decide +kernel
theorem dX9_put_148 : decode cX9_put 148 = .ok (.iload_n 2, 1) := by decide +kernel
theorem dX9_put_149 : decode cX9_put 149 = .ok (.iastore, 1) := by decide +kernel
theorem dX9_put_150 : decode cX9_put 150 = .ok (.return_, 1) := by decide +kernel
theorem dX9_go_0 : decode cX9_go 0 = .ok (.iload_n 2, 1) := by decide +kernel
theorem dX9_go_1 : decode cX9_go 1 = .ok (.aload_n 1, 1) := by decide +kernel
theorem dX9_go_2 : decode cX9_go 2 = .ok (.arraylength, 1) := by decide +kernel
theorem dX9_go_3 : decode cX9_go 3 = .ok (.if_icmp .ne 17, 3) := by decide +kernel
theorem dX9_go_6 : decode cX9_go 6 = .ok (.aload_n 0, 1) := by decide +kernel
theorem dX9_go_7 : decode cX9_go 7 = .ok (.aload_n 3, 1) := by decide +kernel
theorem dX9_go_8 : decode cX9_go 8 = .ok (.invokevirtual 131, 3) := by decide +kernel
theorem dX9_go_11 : decode cX9_go 11 = .ok (.ifCond .eq 8, 3) := by decide +kernel
theorem dX9_go_14 : decode cX9_go 14 = .ok (.aload_n 0, 1) := by decide +kernel
theorem dX9_go_15 : decode cX9_go 15 = .ok (.aload_n 3, 1) := by decide +kernel
theorem dX9_go_16 : decode cX9_go 16 = .ok (.invokevirtual 134, 3) := by decide +kernel
theorem dX9_go_19 : decode cX9_go 19 = .ok (.return_, 1) := by decide +kernel
theorem dX9_go_20 : decode cX9_go 20 = .ok (.iconst 0, 1) := by decide +kernel
theorem dX9_go_21 : decode cX9_go 21 = .ok (.istore 4, 2) := by decide +kernel
theorem dX9_go_23 : decode cX9_go 23 = .ok (.iload 4, 2) := by decide +kernel
theorem dX9_go_25 : decode cX9_go 25 = .ok (.aload_n 0, 1) := by decide +kernel
theorem dX9_go_26 : decode cX9_go 26 = .ok (.getfield 47, 3) := by decide +kernel
theorem dX9_go_29 : decode cX9_go 29 = .ok (.if_icmp .ge 60, 3) := by decide +kernel
theorem dX9_go_32 : decode cX9_go 32 = .ok (.aload_n 3, 1) := by decide +kernel
theorem dX9_go_33 : decode cX9_go 33 = .ok (.iload 4, 2) := by decide +kernel
theorem dX9_go_35 : decode cX9_go 35 = .ok (.iaload, 1) := by decide +kernel
theorem dX9_go_36 : decode cX9_go 36 = .ok (.iconst (-1), 1) := by decide +kernel
theorem dX9_go_37 : decode cX9_go 37 = .ok (.if_icmp .ne 46, 3) := by decide +kernel
theorem dX9_go_40 : decode cX9_go 40 = .ok (.aload_n 0, 1) := by decide +kernel
theorem dX9_go_41 : decode cX9_go 41 = .ok (.iload 4, 2) := by decide +kernel
theorem dX9_go_43 : decode cX9_go 43 = .ok (.aload_n 1, 1) := by decide +kernel
theorem dX9_go_44 : decode cX9_go 44 = .ok (.iload_n 2, 1) := by decide +kernel
theorem dX9_go_45 : decode cX9_go 45 = .ok (.iaload, 1) := by decide +kernel
theorem dX9_go_46 : decode cX9_go 46 = .ok (.invokevirtual 72, 3) := by decide +kernel
theorem dX9_go_49 : decode cX9_go 49 = .ok (.iconst (-1), 1) := by decide +kernel
theorem dX9_go_50 : decode cX9_go 50 = .ok (.if_icmp .ne 6, 3) := by decide +kernel
theorem dX9_go_53 : decode cX9_go 53 = .ok (.goto 30, 3) := by decide +kernel
theorem dX9_go_56 : decode cX9_go 56 = .ok (.aload_n 3, 1) := by decide +kernel
theorem dX9_go_57 : decode cX9_go 57 = .ok (.iload 4, 2) := by decide +kernel
theorem dX9_go_59 : decode cX9_go 59 = .ok (.aload_n 0, 1) := by decide +kernel
theorem dX9_go_60 : decode cX9_go 60 = .ok (.iload 4, 2) := by decide +kernel
theorem dX9_go_62 : decode cX9_go 62 = .ok (.aload_n 1, 1) := by decide +kernel
theorem dX9_go_63 : decode cX9_go 63 = .ok (.iload_n 2, 1) := by decide +kernel
theorem dX9_go_64 : decode cX9_go 64 = .ok (.iaload, 1) := by decide +kernel
theorem dX9_go_65 : decode cX9_go 65 = .ok (.invokevirtual 72, 3) := by decide +kernel
theorem dX9_go_68 : decode cX9_go 68 = .ok (.iastore, 1) := by decide +kernel
theorem dX9_go_69 : decode cX9_go 69 = .ok (.aload_n 0, 1) := by decide +kernel
theorem dX9_go_70 : decode cX9_go 70 = .ok (.aload_n 1, 1) := by decide +kernel
theorem dX9_go_71 : decode cX9_go 71 = .ok (.iload_n 2, 1) := by decide +kernel
theorem dX9_go_72 : decode cX9_go 72 = .ok (.iconst 1, 1) := by decide +kernel
theorem dX9_go_73 : decode cX9_go 73 = .ok (.iadd, 1) := by decide +kernel
theorem dX9_go_74 : decode cX9_go 74 = .ok (.aload_n 3, 1) := by decide +kernel
theorem dX9_go_75 : decode cX9_go 75 = .ok (.invokevirtual 138, 3) := by decide +kernel
theorem dX9_go_78 : decode cX9_go 78 = .ok (.aload_n 3, 1) := by decide +kernel
theorem dX9_go_79 : decode cX9_go 79 = .ok (.iload 4, 2) := by decide +kernel
theorem dX9_go_81 : decode cX9_go 81 = .ok (.iconst (-1), 1) := by decide +kernel
theorem dX9_go_82 : decode cX9_go 82 = .ok (.iastore, 1) := by decide +kernel
theorem dX9_go_83 : decode cX9_go 83 = .ok (.iinc 4 1, 3) := by decide +kernel
theorem dX9_go_86 : decode cX9_go 86 = .ok (.goto (-63), 3) := by decide +kernel
theorem dX9_go_89 : decode cX9_go 89 = .ok (.return_, 1) := by decide +kernel
theorem dX9_silent_0 : decode cX9_silent 0 = .ok (.aload_n 0, 1) := by decide +kernel
theorem dX9_silent_1 : decode cX9_silent 1 = .ok (.getfield 47, 3) := by decide +kernel
theorem dX9_silent_4 : decode cX9_silent 4 = .ok (.newarray .int, 2) := by decide +kernel
theorem dX9_silent_6 : decode cX9_silent 6 = .ok (.astore_n 1, 1) := by decide +kernel
theorem dX9_silent_7 : decode cX9_silent 7 = .ok (.iconst 0, 1) := by decide +kernel
theorem dX9_silent_8 : decode cX9_silent 8 = .ok (.istore_n 2, 1) := by decide +kernel
theorem dX9_silent_9 : decode cX9_silent 9 = .ok (.iload_n 2, 1) := by decide +kernel
theorem dX9_silent_10 : decode cX9_silent 10 = .ok (.aload_n 0, 1) := by decide +kernel
theorem dX9_silent_11 : decode cX9_silent 11 = .ok (.getfield 47, 3) := by decide +kernel
theorem dX9_silent_14 : decode cX9_silent 14 = .ok (.if_icmp .ge 13, 3) := by decide +kernel
theorem dX9_silent_17 : decode cX9_silent 17 = .ok (.aload_n 1, 1) := by decide +kernel
theorem dX9_silent_18 : decode cX9_silent 18 = .ok (.iload_n 2, 1) := by decide +kernel
theorem dX9_silent_19 : decode cX9_silent 19 = .ok (.iconst (-1), 1) := by decide +kernel
theorem dX9_silent_20 : decode cX9_silent 20 = .ok (.iastore, 1) := by decide +kernel
theorem dX9_silent_21 : decode cX9_silent 21 = .ok (.iinc 2 1, 3) := by decide +kernel
theorem dX9_silent_24 : decode cX9_silent 24 = .ok (.goto (-15), 3) := by decide +kernel
theorem dX9_silent_27 : decode cX9_silent 27 = .ok (.aload_n 1, 1) := by decide +kernel
theorem dX9_silent_28 : decode cX9_silent 28 = .ok (.areturn, 1) := by decide +kernel
theorem dX9_grips_0 : decode cX9_grips 0 = .ok (.aload_n 0, 1) := by decide +kernel
theorem dX9_grips_1 : decode cX9_grips 1 = .ok (.iconst 0, 1) := by decide +kernel
theorem dX9_grips_2 : decode cX9_grips 2 = .ok (.putfield 117, 3) := by decide +kernel
theorem dX9_grips_5 : decode cX9_grips 5 = .ok (.aload_n 0, 1) := by decide +kernel
theorem dX9_grips_6 : decode cX9_grips 6 = .ok (.aload_n 0, 1) := by decide +kernel
theorem dX9_grips_7 : decode cX9_grips 7 = .ok (.getfield 22, 3) := by decide +kernel
theorem dX9_grips_10 : decode cX9_grips 10 = .ok (.iload_n 1, 1) := by decide +kernel
theorem dX9_grips_11 : decode cX9_grips 11 = .ok (.aaload, 1) := by decide +kernel
theorem dX9_grips_12 : decode cX9_grips 12 = .ok (.iconst 0, 1) := by decide +kernel
theorem dX9_grips_13 : decode cX9_grips 13 = .ok (.aload_n 0, 1) := by decide +kernel
theorem dX9_grips_14 : decode cX9_grips 14 = .ok (.invokevirtual 142, 3) := by decide +kernel
theorem dX9_grips_17 : decode cX9_grips 17 = .ok (.invokevirtual 138, 3) := by decide +kernel
theorem dX9_grips_20 : decode cX9_grips 20 = .ok (.aload_n 0, 1) := by decide +kernel
theorem dX9_grips_21 : decode cX9_grips 21 = .ok (.getfield 117, 3) := by decide +kernel
theorem dX9_grips_24 : decode cX9_grips 24 = .ok (.anewarray 21, 3) := by decide +kernel
theorem dX9_grips_27 : decode cX9_grips 27 = .ok (.astore_n 2, 1) := by decide +kernel
theorem dX9_grips_28 : decode cX9_grips 28 = .ok (.aload_n 0, 1) := by decide +kernel
theorem dX9_grips_29 : decode cX9_grips 29 = .ok (.getfield 35, 3) := by decide +kernel
theorem dX9_grips_32 : decode cX9_grips 32 = .ok (.iconst 0, 1) := by decide +kernel
theorem dX9_grips_33 : decode cX9_grips 33 = .ok (.aload_n 2, 1) := by decide +kernel
theorem dX9_grips_34 : decode cX9_grips 34 = .ok (.iconst 0, 1) := by decide +kernel
theorem dX9_grips_35 : decode cX9_grips 35 = .ok (.aload_n 0, 1) := by decide +kernel
theorem dX9_grips_36 : decode cX9_grips 36 = .ok (.getfield 117, 3) := by decide +kernel
theorem dX9_grips_39 : decode cX9_grips 39 = .ok (.invokestatic 108, 3) := by decide +kernel
theorem dX9_grips_42 : decode cX9_grips 42 = .ok (.aload_n 2, 1) := by decide +kernel
theorem dX9_grips_43 : decode cX9_grips 43 = .ok (.areturn, 1) := by decide +kernel
theorem dX9_fixedNow_0 : decode cX9_fixedNow 0 = .ok (.iconst 0, 1) := by decide +kernel
theorem dX9_fixedNow_1 : decode cX9_fixedNow 1 = .ok (.istore_n 3, 1) := by decide +kernel
theorem dX9_fixedNow_2 : decode cX9_fixedNow 2 = .ok (.iload_n 3, 1) := by decide +kernel
theorem dX9_fixedNow_3 : decode cX9_fixedNow 3 = .ok (.aload_n 2, 1) := by decide +kernel
theorem dX9_fixedNow_4 : decode cX9_fixedNow 4 = .ok (.arraylength, 1) := by decide +kernel
theorem dX9_fixedNow_5 : decode cX9_fixedNow 5 = .ok (.if_icmp .ge 90, 3) := by decide +kernel
theorem dX9_fixedNow_8 : decode cX9_fixedNow 8 = .ok (.aload_n 0, 1) := by decide +kernel
theorem dX9_fixedNow_9 : decode cX9_fixedNow 9 = .ok (.getfield 29, 3) := by decide +kernel
theorem dX9_fixedNow_12 : decode cX9_fixedNow 12 = .ok (.iload_n 1, 1) := by decide +kernel
theorem dX9_fixedNow_13 : decode cX9_fixedNow 13 = .ok (.baload, 1) := by decide +kernel
theorem dX9_fixedNow_14 : decode cX9_fixedNow 14 = .ok (.ifCond .eq 81, 3) := by decide +kernel
theorem dX9_fixedNow_17 : decode cX9_fixedNow 17 = .ok (.iconst 1, 1) := by decide +kernel
theorem dX9_fixedNow_18 : decode cX9_fixedNow 18 = .ok (.istore 4, 2) := by decide +kernel
theorem dX9_fixedNow_20 : decode cX9_fixedNow 20 = .ok (.iconst 0, 1) := by decide +kernel
theorem dX9_fixedNow_21 : decode cX9_fixedNow 21 = .ok (.istore 5, 2) := by decide +kernel
theorem dX9_fixedNow_23 : decode cX9_fixedNow 23 = .ok (.iload 5, 2) := by decide +kernel
theorem dX9_fixedNow_25 : decode cX9_fixedNow 25 = .ok (.aload_n 0, 1) := by decide +kernel
theorem dX9_fixedNow_26 : decode cX9_fixedNow 26 = .ok (.getfield 47, 3) := by decide +kernel
theorem dX9_fixedNow_29 : decode cX9_fixedNow 29 = .ok (.if_icmp .ge 53, 3) := by decide +kernel
theorem dX9_fixedNow_32 : decode cX9_fixedNow 32 = .ok (.iload 4, 2) := by decide +kernel
theorem dX9_fixedNow_34 : decode cX9_fixedNow 34 = .ok (.aload_n 2, 1) := by decide +kernel
theorem dX9_fixedNow_35 : decode cX9_fixedNow 35 = .ok (.iload_n 3, 1) := by decide +kernel
theorem dX9_fixedNow_36 : decode cX9_fixedNow 36 = .ok (.aaload, 1) := by decide +kernel
theorem dX9_fixedNow_37 : decode cX9_fixedNow 37 = .ok (.iload 5, 2) := by decide +kernel
theorem dX9_fixedNow_39 : decode cX9_fixedNow 39 = .ok (.iaload, 1) := by decide +kernel
theorem dX9_fixedNow_40 : decode cX9_fixedNow 40 = .ok (.iload 5, 2) := by decide +kernel
theorem dX9_fixedNow_42 : decode cX9_fixedNow 42 = .ok (.aload_n 0, 1) := by decide +kernel
theorem dX9_fixedNow_43 : decode cX9_fixedNow 43 = .ok (.getfield 32, 3) := by decide +kernel
theorem dX9_fixedNow_46 : decode cX9_fixedNow 46 = .ok (.iload_n 1, 1) := by decide +kernel
theorem dX9_fixedNow_47 : decode cX9_fixedNow 47 = .ok (.aaload, 1) := by decide +kernel
theorem dX9_fixedNow_48 : decode cX9_fixedNow 48 = .ok (.arraylength, 1) := by decide +kernel
theorem dX9_fixedNow_49 : decode cX9_fixedNow 49 = .ok (.if_icmp .ge 15, 3) := by decide +kernel
theorem dX9_fixedNow_52 : decode cX9_fixedNow 52 = .ok (.aload_n 0, 1) := by decide +kernel
theorem dX9_fixedNow_53 : decode cX9_fixedNow 53 = .ok (.getfield 32, 3) := by decide +kernel
theorem dX9_fixedNow_56 : decode cX9_fixedNow 56 = .ok (.iload_n 1, 1) := by decide +kernel
theorem dX9_fixedNow_57 : decode cX9_fixedNow 57 = .ok (.aaload, 1) := by decide +kernel
theorem dX9_fixedNow_58 : decode cX9_fixedNow 58 = .ok (.iload 5, 2) := by decide +kernel
theorem dX9_fixedNow_60 : decode cX9_fixedNow 60 = .ok (.iaload, 1) := by decide +kernel
theorem dX9_fixedNow_61 : decode cX9_fixedNow 61 = .ok (.goto 4, 3) := by decide +kernel
theorem dX9_fixedNow_64 : decode cX9_fixedNow 64 = .ok (.iconst (-1), 1) := by decide +kernel
theorem dX9_fixedNow_65 : decode cX9_fixedNow 65 = .ok (.if_icmp .ne 7, 3) := by decide +kernel
theorem dX9_fixedNow_68 : decode cX9_fixedNow 68 = .ok (.iconst 1, 1) := by decide +kernel
theorem dX9_fixedNow_69 : decode cX9_fixedNow 69 = .ok (.goto 4, 3) := by decide +kernel
theorem dX9_fixedNow_72 : decode cX9_fixedNow 72 = .ok (.iconst 0, 1) := by decide +kernel
theorem dX9_fixedNow_73 : decode cX9_fixedNow 73 = .ok (.iand, 1) := by decide +kernel
theorem dX9_fixedNow_74 : decode cX9_fixedNow 74 = .ok (.istore 4, 2) := by decide +kernel
theorem dX9_fixedNow_76 : decode cX9_fixedNow 76 = .ok (.iinc 5 1, 3) := by decide +kernel
theorem dX9_fixedNow_79 : decode cX9_fixedNow 79 = .ok (.goto (-56), 3) := by decide +kernel
theorem dX9_fixedNow_82 : decode cX9_fixedNow 82 = .ok (.iload 4, 2) := by decide +kernel
theorem dX9_fixedNow_84 : decode cX9_fixedNow 84 = .ok (.ifCond .eq 5, 3) := by decide +kernel
theorem dX9_fixedNow_87 : decode cX9_fixedNow 87 = .ok (.iload_n 3, 1) := by decide +kernel
theorem dX9_fixedNow_88 : decode cX9_fixedNow 88 = .ok (.ireturn, 1) := by decide +kernel
theorem dX9_fixedNow_89 : decode cX9_fixedNow 89 = .ok (.iinc 3 1, 3) := by decide +kernel
theorem dX9_fixedNow_92 : decode cX9_fixedNow 92 = .ok (.goto (-90), 3) := by decide +kernel
theorem dX9_fixedNow_95 : decode cX9_fixedNow 95 = .ok (.iconst (-1), 1) := by decide +kernel
theorem dX9_fixedNow_96 : decode cX9_fixedNow 96 = .ok (.ireturn, 1) := by decide +kernel
theorem dX9_fix_0 : decode cX9_fix 0 = .ok (.aload_n 0, 1) := by decide +kernel
theorem dX9_fix_1 : decode cX9_fix 1 = .ok (.iconst 0, 1) := by decide +kernel
theorem dX9_fix_2 : decode cX9_fix 2 = .ok (.putfield 44, 3) := by decide +kernel
theorem dX9_fix_5 : decode cX9_fix 5 = .ok (.aload_n 0, 1) := by decide +kernel
theorem dX9_fix_6 : decode cX9_fix 6 = .ok (.iload_n 1, 1) := by decide +kernel
theorem dX9_fix_7 : decode cX9_fix 7 = .ok (.invokevirtual 76, 3) := by decide +kernel
theorem dX9_fix_10 : decode cX9_fix 10 = .ok (.ifCond .ne 9, 3) := by decide +kernel
theorem dX9_fix_13 : decode cX9_fix 13 = .ok (.aload_n 0, 1) := by decide +kernel
theorem dX9_fix_14 : decode cX9_fix 14 = .ok (.iconst 1, 1) := by decide +kernel
theorem dX9_fix_15 : decode cX9_fix 15 = .ok (.invokevirtual 57, 3) := by decide +kernel
theorem dX9_fix_18 : decode cX9_fix 18 = .ok (.ireturn, 1) := by decide +kernel
theorem dX9_fix_19 : decode cX9_fix 19 = .ok (.aload_n 0, 1) := by decide +kernel
theorem dX9_fix_20 : decode cX9_fix 20 = .ok (.iload_n 1, 1) := by decide +kernel
theorem dX9_fix_21 : decode cX9_fix 21 = .ok (.invokevirtual 146, 3) := by decide +kernel
theorem dX9_fix_24 : decode cX9_fix 24 = .ok (.astore_n 3, 1) := by decide +kernel
theorem dX9_fix_25 : decode cX9_fix 25 = .ok (.iload_n 2, 1) := by decide +kernel
theorem dX9_fix_26 : decode cX9_fix 26 = .ok (.iconst (-1), 1) := by decide +kernel
theorem dX9_fix_27 : decode cX9_fix 27 = .ok (.aload_n 3, 1) := by decide +kernel
theorem dX9_fix_28 : decode cX9_fix 28 = .ok (.arraylength, 1) := by decide +kernel
theorem dX9_fix_29 : decode cX9_fix 29 = .ok (.iconst 1, 1) := by decide +kernel
theorem dX9_fix_30 : decode cX9_fix 30 = .ok (.isub, 1) := by decide +kernel
theorem dX9_fix_31 : decode cX9_fix 31 = .ok (.invokestatic 50, 3) := by decide +kernel
theorem dX9_fix_34 : decode cX9_fix 34 = .ok (.ifCond .ne 9, 3) := by decide +kernel
theorem dX9_fix_37 : decode cX9_fix 37 = .ok (.aload_n 0, 1) := by decide +kernel
theorem dX9_fix_38 : decode cX9_fix 38 = .ok (.iconst 1, 1) := by decide +kernel
theorem dX9_fix_39 : decode cX9_fix 39 = .ok (.invokevirtual 57, 3) := by decide +kernel
theorem dX9_fix_42 : decode cX9_fix 42 = .ok (.ireturn, 1) := by decide +kernel
theorem dX9_fix_43 : decode cX9_fix 43 = .ok (.aload_n 0, 1) := by decide +kernel
theorem dX9_fix_44 : decode cX9_fix 44 = .ok (.getfield 29, 3) := by decide +kernel
theorem dX9_fix_47 : decode cX9_fix 47 = .ok (.iload_n 1, 1) := by decide +kernel
theorem dX9_fix_48 : decode cX9_fix 48 = .ok (.iload_n 2, 1) := by decide +kernel
theorem dX9_fix_49 : decode cX9_fix 49 = .ok (.iconst (-1), 1) := by decide +kernel
theorem dX9_fix_50 : decode cX9_fix 50 = .ok (.if_icmp .eq 7, 3) := by decide +kernel
theorem dX9_fix_53 : decode cX9_fix 53 = .ok (.iconst 1, 1) := by decide +kernel
theorem dX9_fix_54 : decode cX9_fix 54 = .ok (.goto 4, 3) := by decide +kernel
theorem dX9_fix_57 : decode cX9_fix 57 = .ok (.iconst 0, 1) := by decide +kernel
theorem dX9_fix_58 : decode cX9_fix 58 = .ok (.bastore, 1) := by decide +kernel
theorem dX9_fix_59 : decode cX9_fix 59 = .ok (.iload_n 2, 1) := by decide +kernel
theorem dX9_fix_60 : decode cX9_fix 60 = .ok (.iconst (-1), 1) := by decide +kernel
theorem dX9_fix_61 : decode cX9_fix 61 = .ok (.if_icmp .ne 5, 3) := by decide +kernel
theorem dX9_fix_64 : decode cX9_fix 64 = .ok (.iconst 0, 1) := by decide +kernel
theorem dX9_fix_65 : decode cX9_fix 65 = .ok (.ireturn, 1) := by decide +kernel
theorem dX9_fix_66 : decode cX9_fix 66 = .ok (.aload_n 0, 1) := by decide +kernel
theorem dX9_fix_67 : decode cX9_fix 67 = .ok (.getfield 32, 3) := by decide +kernel
theorem dX9_fix_70 : decode cX9_fix 70 = .ok (.iload_n 1, 1) := by decide +kernel
theorem dX9_fix_71 : decode cX9_fix 71 = .ok (.aload_n 3, 1) := by decide +kernel
theorem dX9_fix_72 : decode cX9_fix 72 = .ok (.iload_n 2, 1) := by decide +kernel
theorem dX9_fix_73 : decode cX9_fix 73 = .ok (.aaload, 1) := by decide +kernel
theorem dX9_fix_74 : decode cX9_fix 74 = .ok (.aastore, 1) := by decide +kernel
theorem dX9_fix_75 : decode cX9_fix 75 = .ok (.aload_n 3, 1) := by decide +kernel
theorem dX9_fix_76 : decode cX9_fix 76 = .ok (.iload_n 2, 1) := by decide +kernel
theorem dX9_fix_77 : decode cX9_fix 77 = .ok (.aaload, 1) := by decide +kernel
theorem dX9_fix_78 : decode cX9_fix 78 = .ok (.invokestatic 114, 3) := by decide +kernel
theorem dX9_fix_81 : decode cX9_fix 81 = .ok (.ireturn, 1) := by decide +kernel
theorem dX9_ofChordNow_0 : decode cX9_ofChordNow 0 = .ok (.aload_n 0, 1) := by decide +kernel
theorem dX9_ofChordNow_1 : decode cX9_ofChordNow 1 = .ok (.iload_n 1, 1) := by decide +kernel
theorem dX9_ofChordNow_2 : decode cX9_ofChordNow 2 = .ok (.invokevirtual 146, 3) := by decide +kernel
theorem dX9_ofChordNow_5 : decode cX9_ofChordNow 5 = .ok (.astore_n 3, 1) := by decide +kernel
theorem dX9_ofChordNow_6 : decode cX9_ofChordNow 6 = .ok (.aload_n 0, 1) := by decide +kernel
theorem dX9_ofChordNow_7 : decode cX9_ofChordNow 7 = .ok (.getfield 22, 3) := by decide +kernel
theorem dX9_ofChordNow_10 : decode cX9_ofChordNow 10 = .ok (.iload_n 1, 1) := by decide +kernel
theorem dX9_ofChordNow_11 : decode cX9_ofChordNow 11 = .ok (.aaload, 1) := by decide +kernel
theorem dX9_ofChordNow_12 : decode cX9_ofChordNow 12 = .ok (.iconst 0, 1) := by decide +kernel
theorem dX9_ofChordNow_13 : decode cX9_ofChordNow 13 = .ok (.iaload, 1) := by decide +kernel
theorem dX9_ofChordNow_14 : decode cX9_ofChordNow 14 = .ok (.istore 4, 2) := by decide +kernel
theorem dX9_ofChordNow_16 : decode cX9_ofChordNow 16 = .ok (.aload_n 0, 1) := by decide +kernel
theorem dX9_ofChordNow_17 : decode cX9_ofChordNow 17 = .ok (.getfield 22, 3) := by decide +kernel
theorem dX9_ofChordNow_20 : decode cX9_ofChordNow 20 = .ok (.iload_n 1, 1) := by decide +kernel
theorem dX9_ofChordNow_21 : decode cX9_ofChordNow 21 = .ok (.aaload, 1) := by decide +kernel
theorem dX9_ofChordNow_22 : decode cX9_ofChordNow 22 = .ok (.astore 5, 2) := by decide +kernel
theorem dX9_ofChordNow_24 : decode cX9_ofChordNow 24 = .ok (.aload 5, 2) := by decide +kernel
theorem dX9_ofChordNow_26 : decode cX9_ofChordNow 26 = .ok (.arraylength, 1) := by decide +kernel
theorem dX9_ofChordNow_27 : decode cX9_ofChordNow 27 = .ok (.istore 6, 2) := by decide +kernel
theorem dX9_ofChordNow_29 : decode cX9_ofChordNow 29 = .ok (.iconst 0, 1) := by decide +kernel
theorem dX9_ofChordNow_30 : decode cX9_ofChordNow 30 = .ok (.istore 7, 2) := by decide +kernel
theorem dX9_ofChordNow_32 : decode cX9_ofChordNow 32 = .ok (.iload 7, 2) := by decide +kernel
theorem dX9_ofChordNow_34 : decode cX9_ofChordNow 34 = .ok (.iload 6, 2) := by decide +kernel
theorem dX9_ofChordNow_36 : decode cX9_ofChordNow 36 = .ok (.if_icmp .ge 40, 3) := by decide +kernel
theorem dX9_ofChordNow_39 : decode cX9_ofChordNow 39 = .ok (.aload 5, 2) := by decide +kernel
theorem dX9_ofChordNow_41 : decode cX9_ofChordNow 41 = .ok (.iload 7, 2) := by decide +kernel
theorem dX9_ofChordNow_43 : decode cX9_ofChordNow 43 = .ok (.iaload, 1) := by decide +kernel
theorem dX9_ofChordNow_44 : decode cX9_ofChordNow 44 = .ok (.istore 8, 2) := by decide +kernel
theorem dX9_ofChordNow_46 : decode cX9_ofChordNow 46 = .ok (.iload_n 2, 1) := by decide +kernel
theorem dX9_ofChordNow_47 : decode cX9_ofChordNow 47 = .ok (.iconst 1, 1) := by decide +kernel
theorem dX9_ofChordNow_48 : decode cX9_ofChordNow 48 = .ok (.if_icmp .ne 13, 3) := by decide +kernel
theorem dX9_ofChordNow_51 : decode cX9_ofChordNow 51 = .ok (.iload 4, 2) := by decide +kernel
theorem dX9_ofChordNow_53 : decode cX9_ofChordNow 53 = .ok (.iload 8, 2) := by decide +kernel
theorem dX9_ofChordNow_55 : decode cX9_ofChordNow 55 = .ok (.invokestatic 124, 3) := by decide +kernel
theorem dX9_ofChordNow_58 : decode cX9_ofChordNow 58 = .ok (.goto 10, 3) := by decide +kernel
theorem dX9_ofChordNow_61 : decode cX9_ofChordNow 61 = .ok (.iload 4, 2) := by decide +kernel
theorem dX9_ofChordNow_63 : decode cX9_ofChordNow 63 = .ok (.iload 8, 2) := by decide +kernel
theorem dX9_ofChordNow_65 : decode cX9_ofChordNow 65 = .ok (.invokestatic 79, 3) := by decide +kernel
theorem dX9_ofChordNow_68 : decode cX9_ofChordNow 68 = .ok (.istore 4, 2) := by decide +kernel
theorem dX9_ofChordNow_70 : decode cX9_ofChordNow 70 = .ok (.iinc 7 1, 3) := by decide +kernel
theorem dX9_ofChordNow_73 : decode cX9_ofChordNow 73 = .ok (.goto (-41), 3) := by decide +kernel
theorem dX9_ofChordNow_76 : decode cX9_ofChordNow 76 = .ok (.iload_n 2, 1) := by decide +kernel
theorem dX9_ofChordNow_77 : decode cX9_ofChordNow 77 = .ok (.tableswitch 56 0 4 #[35, 43, 43, 46, 53], 35) := by decide +kernel
theorem dX9_ofChordNow_112 : decode cX9_ofChordNow 112 = .ok (.aload_n 0, 1) := by decide +kernel
theorem dX9_ofChordNow_113 : decode cX9_ofChordNow 113 = .ok (.getfield 22, 3) := by decide +kernel
theorem dX9_ofChordNow_116 : decode cX9_ofChordNow 116 = .ok (.iload_n 1, 1) := by decide +kernel
theorem dX9_ofChordNow_117 : decode cX9_ofChordNow 117 = .ok (.aaload, 1) := by decide +kernel
theorem dX9_ofChordNow_118 : decode cX9_ofChordNow 118 = .ok (.arraylength, 1) := by decide +kernel
theorem dX9_ofChordNow_119 : decode cX9_ofChordNow 119 = .ok (.ireturn, 1) := by decide +kernel
theorem dX9_ofChordNow_120 : decode cX9_ofChordNow 120 = .ok (.iload 4, 2) := by decide +kernel
theorem dX9_ofChordNow_122 : decode cX9_ofChordNow 122 = .ok (.ireturn, 1) := by decide +kernel
theorem dX9_ofChordNow_123 : decode cX9_ofChordNow 123 = .ok (.aload_n 0, 1) := by decide +kernel
theorem dX9_ofChordNow_124 : decode cX9_ofChordNow 124 = .ok (.getfield 26, 3) := by decide +kernel
theorem dX9_ofChordNow_127 : decode cX9_ofChordNow 127 = .ok (.iload_n 1, 1) := by decide +kernel
theorem dX9_ofChordNow_128 : decode cX9_ofChordNow 128 = .ok (.iaload, 1) := by decide +kernel
theorem dX9_ofChordNow_129 : decode cX9_ofChordNow 129 = .ok (.ireturn, 1) := by decide +kernel
theorem dX9_ofChordNow_130 : decode cX9_ofChordNow 130 = .ok (.aload_n 3, 1) := by decide +kernel
theorem dX9_ofChordNow_131 : decode cX9_ofChordNow 131 = .ok (.arraylength, 1) := by decide +kernel
theorem dX9_ofChordNow_132 : decode cX9_ofChordNow 132 = .ok (.ireturn, 1) := by decide +kernel
theorem dX9_ofChordNow_133 : decode cX9_ofChordNow 133 = .ok (.aload_n 0, 1) := by decide +kernel
theorem dX9_ofChordNow_134 : decode cX9_ofChordNow 134 = .ok (.iload_n 1, 1) := by decide +kernel
theorem dX9_ofChordNow_135 : decode cX9_ofChordNow 135 = .ok (.aload_n 3, 1) := by decide +kernel
theorem dX9_ofChordNow_136 : decode cX9_ofChordNow 136 = .ok (.invokevirtual 150, 3) := by decide +kernel
theorem dX9_ofChordNow_139 : decode cX9_ofChordNow 139 = .ok (.ireturn, 1) := by decide +kernel
theorem dX9_ofChord_0 : decode cX9_ofChord 0 = .ok (.aload_n 0, 1) := by decide +kernel
theorem dX9_ofChord_1 : decode cX9_ofChord 1 = .ok (.iconst 0, 1) := by decide +kernel
theorem dX9_ofChord_2 : decode cX9_ofChord 2 = .ok (.putfield 44, 3) := by decide +kernel
theorem dX9_ofChord_5 : decode cX9_ofChord 5 = .ok (.aload_n 0, 1) := by decide +kernel
theorem dX9_ofChord_6 : decode cX9_ofChord 6 = .ok (.iload_n 1, 1) := by decide +kernel
theorem dX9_ofChord_7 : decode cX9_ofChord 7 = .ok (.invokevirtual 76, 3) := by decide +kernel
theorem dX9_ofChord_10 : decode cX9_ofChord 10 = .ok (.ifCond .ne 9, 3) := by decide +kernel
theorem dX9_ofChord_13 : decode cX9_ofChord 13 = .ok (.aload_n 0, 1) := by decide +kernel
theorem dX9_ofChord_14 : decode cX9_ofChord 14 = .ok (.iconst 1, 1) := by decide +kernel
theorem dX9_ofChord_15 : decode cX9_ofChord 15 = .ok (.invokevirtual 57, 3) := by decide +kernel
theorem dX9_ofChord_18 : decode cX9_ofChord 18 = .ok (.ireturn, 1) := by decide +kernel
theorem dX9_ofChord_19 : decode cX9_ofChord 19 = .ok (.iload_n 2, 1) := by decide +kernel
theorem dX9_ofChord_20 : decode cX9_ofChord 20 = .ok (.iconst 0, 1) := by decide +kernel
theorem dX9_ofChord_21 : decode cX9_ofChord 21 = .ok (.iconst 5, 1) := by decide +kernel
theorem dX9_ofChord_22 : decode cX9_ofChord 22 = .ok (.invokestatic 50, 3) := by decide +kernel
theorem dX9_ofChord_25 : decode cX9_ofChord 25 = .ok (.ifCond .eq 12, 3) := by decide +kernel
theorem dX9_ofChord_28 : decode cX9_ofChord 28 = .ok (.aload_n 0, 1) := by decide +kernel
theorem dX9_ofChord_29 : decode cX9_ofChord 29 = .ok (.iload_n 1, 1) := by decide +kernel
theorem dX9_ofChord_30 : decode cX9_ofChord 30 = .ok (.iload_n 2, 1) := by decide +kernel
theorem dX9_ofChord_31 : decode cX9_ofChord 31 = .ok (.invokevirtual 154, 3) := by decide +kernel
theorem dX9_ofChord_34 : decode cX9_ofChord 34 = .ok (.goto 8, 3) := by decide +kernel
theorem dX9_ofChord_37 : decode cX9_ofChord 37 = .ok (.aload_n 0, 1) := by decide +kernel
theorem dX9_ofChord_38 : decode cX9_ofChord 38 = .ok (.iconst 2, 1) := by decide +kernel
theorem dX9_ofChord_39 : decode cX9_ofChord 39 = .ok (.invokevirtual 57, 3) := by decide +kernel
theorem dX9_ofChord_42 : decode cX9_ofChord 42 = .ok (.ireturn, 1) := by decide +kernel
theorem dX9_ofGripNow_0 : decode cX9_ofGripNow 0 = .ok (.iload_n 1, 1) := by decide +kernel
theorem dX9_ofGripNow_1 : decode cX9_ofGripNow 1 = .ok (.tableswitch 68 0 4 #[35, 40, 45, 50, 55], 35) := by decide +kernel
theorem dX9_ofGripNow_36 : decode cX9_ofGripNow 36 = .ok (.aload_n 0, 1) := by decide +kernel
theorem dX9_ofGripNow_37 : decode cX9_ofGripNow 37 = .ok (.invokestatic 114, 3) := by decide +kernel
theorem dX9_ofGripNow_40 : decode cX9_ofGripNow 40 = .ok (.ireturn, 1) := by decide +kernel
theorem dX9_ofGripNow_41 : decode cX9_ofGripNow 41 = .ok (.aload_n 0, 1) := by decide +kernel
theorem dX9_ofGripNow_42 : decode cX9_ofGripNow 42 = .ok (.invokestatic 84, 3) := by decide +kernel
theorem dX9_ofGripNow_45 : decode cX9_ofGripNow 45 = .ok (.ireturn, 1) := by decide +kernel
theorem dX9_ofGripNow_46 : decode cX9_ofGripNow 46 = .ok (.aload_n 0, 1) := by decide +kernel
theorem dX9_ofGripNow_47 : decode cX9_ofGripNow 47 = .ok (.invokestatic 99, 3) := by decide +kernel
theorem dX9_ofGripNow_50 : decode cX9_ofGripNow 50 = .ok (.ireturn, 1) := by decide +kernel
theorem dX9_ofGripNow_51 : decode cX9_ofGripNow 51 = .ok (.aload_n 0, 1) := by decide +kernel
theorem dX9_ofGripNow_52 : decode cX9_ofGripNow 52 = .ok (.invokestatic 102, 3) := by decide +kernel
theorem dX9_ofGripNow_55 : decode cX9_ofGripNow 55 = .ok (.ireturn, 1) := by decide +kernel
theorem dX9_ofGripNow_56 : decode cX9_ofGripNow 56 = .ok (.aload_n 0, 1) := by decide +kernel
theorem dX9_ofGripNow_57 : decode cX9_ofGripNow 57 = .ok (.invokestatic 88, 3) := by decide +kernel
theorem dX9_ofGripNow_60 : decode cX9_ofGripNow 60 = .ok (.ifCond .eq 7, 3) := by decide +kernel
theorem dX9_ofGripNow_63 : decode cX9_ofGripNow 63 = .ok (.iconst 1, 1) := by decide +kernel
theorem dX9_ofGripNow_64 : decode cX9_ofGripNow 64 = .ok (.goto 4, 3) := by decide +kernel
theorem dX9_ofGripNow_67 : decode cX9_ofGripNow 67 = .ok (.iconst 0, 1) := by decide +kernel
theorem dX9_ofGripNow_68 : decode cX9_ofGripNow 68 = .ok (.ireturn, 1) := by decide +kernel
theorem dX9_ofGripNow_69 : decode cX9_ofGripNow 69 = .ok (.aload_n 0, 1) := by decide +kernel
theorem dX9_ofGripNow_70 : decode cX9_ofGripNow 70 = .ok (.invokestatic 96, 3) := by decide +kernel
theorem dX9_ofGripNow_73 : decode cX9_ofGripNow 73 = .ok (.ireturn, 1) := by decide +kernel
theorem dX9_ofGrip_0 : decode cX9_ofGrip 0 = .ok (.aload_n 0, 1) := by decide +kernel
theorem dX9_ofGrip_1 : decode cX9_ofGrip 1 = .ok (.iconst 0, 1) := by decide +kernel
theorem dX9_ofGrip_2 : decode cX9_ofGrip 2 = .ok (.putfield 44, 3) := by decide +kernel
theorem dX9_ofGrip_5 : decode cX9_ofGrip 5 = .ok (.aload_n 0, 1) := by decide +kernel
theorem dX9_ofGrip_6 : decode cX9_ofGrip 6 = .ok (.iload_n 1, 1) := by decide +kernel
theorem dX9_ofGrip_7 : decode cX9_ofGrip 7 = .ok (.invokevirtual 76, 3) := by decide +kernel
theorem dX9_ofGrip_10 : decode cX9_ofGrip 10 = .ok (.ifCond .ne 9, 3) := by decide +kernel
theorem dX9_ofGrip_13 : decode cX9_ofGrip 13 = .ok (.aload_n 0, 1) := by decide +kernel
theorem dX9_ofGrip_14 : decode cX9_ofGrip 14 = .ok (.iconst 1, 1) := by decide +kernel
theorem dX9_ofGrip_15 : decode cX9_ofGrip 15 = .ok (.invokevirtual 57, 3) := by decide +kernel
theorem dX9_ofGrip_18 : decode cX9_ofGrip 18 = .ok (.ireturn, 1) := by decide +kernel
theorem dX9_ofGrip_19 : decode cX9_ofGrip 19 = .ok (.aload_n 0, 1) := by decide +kernel
theorem dX9_ofGrip_20 : decode cX9_ofGrip 20 = .ok (.iload_n 1, 1) := by decide +kernel
theorem dX9_ofGrip_21 : decode cX9_ofGrip 21 = .ok (.invokevirtual 146, 3) := by decide +kernel
theorem dX9_ofGrip_24 : decode cX9_ofGrip 24 = .ok (.astore 4, 2) := by decide +kernel
theorem dX9_ofGrip_26 : decode cX9_ofGrip 26 = .ok (.iload_n 2, 1) := by decide +kernel
theorem dX9_ofGrip_27 : decode cX9_ofGrip 27 = .ok (.iconst 0, 1) := by decide +kernel
theorem dX9_ofGrip_28 : decode cX9_ofGrip 28 = .ok (.aload 4, 2) := by decide +kernel
theorem dX9_ofGrip_30 : decode cX9_ofGrip 30 = .ok (.arraylength, 1) := by decide +kernel
theorem dX9_ofGrip_31 : decode cX9_ofGrip 31 = .ok (.iconst 1, 1) := by decide +kernel
theorem dX9_ofGrip_32 : decode cX9_ofGrip 32 = .ok (.isub, 1) := by decide +kernel
theorem dX9_ofGrip_33 : decode cX9_ofGrip 33 = .ok (.invokestatic 50, 3) := by decide +kernel
theorem dX9_ofGrip_36 : decode cX9_ofGrip 36 = .ok (.ifCond .ne 9, 3) := by decide +kernel
theorem dX9_ofGrip_39 : decode cX9_ofGrip 39 = .ok (.aload_n 0, 1) := by decide +kernel
theorem dX9_ofGrip_40 : decode cX9_ofGrip 40 = .ok (.iconst 1, 1) := by decide +kernel
theorem dX9_ofGrip_41 : decode cX9_ofGrip 41 = .ok (.invokevirtual 57, 3) := by decide +kernel
theorem dX9_ofGrip_44 : decode cX9_ofGrip 44 = .ok (.ireturn, 1) := by decide +kernel
theorem dX9_ofGrip_45 : decode cX9_ofGrip 45 = .ok (.iload_n 3, 1) := by decide +kernel
theorem dX9_ofGrip_46 : decode cX9_ofGrip 46 = .ok (.iconst 0, 1) := by decide +kernel
theorem dX9_ofGrip_47 : decode cX9_ofGrip 47 = .ok (.iconst 5, 1) := by decide +kernel
theorem dX9_ofGrip_48 : decode cX9_ofGrip 48 = .ok (.invokestatic 50, 3) := by decide +kernel
theorem dX9_ofGrip_51 : decode cX9_ofGrip 51 = .ok (.ifCond .eq 14, 3) := by decide +kernel
theorem dX9_ofGrip_54 : decode cX9_ofGrip 54 = .ok (.aload 4, 2) := by decide +kernel
theorem dX9_ofGrip_56 : decode cX9_ofGrip 56 = .ok (.iload_n 2, 1) := by decide +kernel
theorem dX9_ofGrip_57 : decode cX9_ofGrip 57 = .ok (.aaload, 1) := by decide +kernel
theorem dX9_ofGrip_58 : decode cX9_ofGrip 58 = .ok (.iload_n 3, 1) := by decide +kernel
theorem dX9_ofGrip_59 : decode cX9_ofGrip 59 = .ok (.invokestatic 157, 3) := by decide +kernel
theorem dX9_ofGrip_62 : decode cX9_ofGrip 62 = .ok (.goto 8, 3) := by decide +kernel
theorem dX9_ofGrip_65 : decode cX9_ofGrip 65 = .ok (.aload_n 0, 1) := by decide +kernel
theorem dX9_ofGrip_66 : decode cX9_ofGrip 66 = .ok (.iconst 2, 1) := by decide +kernel
theorem dX9_ofGrip_67 : decode cX9_ofGrip 67 = .ok (.invokevirtual 57, 3) := by decide +kernel
theorem dX9_ofGrip_70 : decode cX9_ofGrip 70 = .ok (.ireturn, 1) := by decide +kernel
theorem dX9_onString_0 : decode cX9_onString 0 = .ok (.aload_n 0, 1) := by decide +kernel
theorem dX9_onString_1 : decode cX9_onString 1 = .ok (.iconst 0, 1) := by decide +kernel
theorem dX9_onString_2 : decode cX9_onString 2 = .ok (.putfield 44, 3) := by decide +kernel
theorem dX9_onString_5 : decode cX9_onString 5 = .ok (.aload_n 0, 1) := by decide +kernel
theorem dX9_onString_6 : decode cX9_onString 6 = .ok (.iload_n 1, 1) := by decide +kernel
theorem dX9_onString_7 : decode cX9_onString 7 = .ok (.invokevirtual 76, 3) := by decide +kernel
theorem dX9_onString_10 : decode cX9_onString 10 = .ok (.ifCond .ne 9, 3) := by decide +kernel
theorem dX9_onString_13 : decode cX9_onString 13 = .ok (.aload_n 0, 1) := by decide +kernel
theorem dX9_onString_14 : decode cX9_onString 14 = .ok (.iconst 1, 1) := by decide +kernel
theorem dX9_onString_15 : decode cX9_onString 15 = .ok (.invokevirtual 57, 3) := by decide +kernel
theorem dX9_onString_18 : decode cX9_onString 18 = .ok (.ireturn, 1) := by decide +kernel
theorem dX9_onString_19 : decode cX9_onString 19 = .ok (.aload_n 0, 1) := by decide +kernel
theorem dX9_onString_20 : decode cX9_onString 20 = .ok (.iload_n 1, 1) := by decide +kernel
theorem dX9_onString_21 : decode cX9_onString 21 = .ok (.invokevirtual 146, 3) := by decide +kernel
theorem dX9_onString_24 : decode cX9_onString 24 = .ok (.astore 5, 2) := by decide +kernel
theorem dX9_onString_26 : decode cX9_onString 26 = .ok (.iload_n 2, 1) := by decide +kernel
theorem dX9_onString_27 : decode cX9_onString 27 = .ok (.iconst 0, 1) := by decide +kernel
theorem dX9_onString_28 : decode cX9_onString 28 = .ok (.aload 5, 2) := by decide +kernel
theorem dX9_onString_30 : decode cX9_onString 30 = .ok (.arraylength, 1) := by decide +kernel
theorem dX9_onString_31 : decode cX9_onString 31 = .ok (.iconst 1, 1) := by decide +kernel
theorem dX9_onString_32 : decode cX9_onString 32 = .ok (.isub, 1) := by decide +kernel
theorem dX9_onString_33 : decode cX9_onString 33 = .ok (.invokestatic 50, 3) := by decide +kernel
theorem dX9_onString_36 : decode cX9_onString 36 = .ok (.ifCond .eq 11, 3) := by decide +kernel
theorem dX9_onString_39 : decode cX9_onString 39 = .ok (.aload_n 0, 1) := by decide +kernel
theorem dX9_onString_40 : decode cX9_onString 40 = .ok (.iload_n 3, 1) := by decide +kernel
theorem dX9_onString_41 : decode cX9_onString 41 = .ok (.invokevirtual 61, 3) := by decide +kernel
theorem dX9_onString_44 : decode cX9_onString 44 = .ok (.ifCond .ne 9, 3) := by decide +kernel
theorem dX9_onString_47 : decode cX9_onString 47 = .ok (.aload_n 0, 1) := by decide +kernel
theorem dX9_onString_48 : decode cX9_onString 48 = .ok (.iconst 1, 1) := by decide +kernel
theorem dX9_onString_49 : decode cX9_onString 49 = .ok (.invokevirtual 57, 3) := by decide +kernel
theorem dX9_onString_52 : decode cX9_onString 52 = .ok (.ireturn, 1) := by decide +kernel
theorem dX9_onString_53 : decode cX9_onString 53 = .ok (.iload 4, 2) := by decide +kernel
theorem dX9_onString_55 : decode cX9_onString 55 = .ok (.ifCond .eq 14, 3) := by decide +kernel
theorem dX9_onString_58 : decode cX9_onString 58 = .ok (.aload 5, 2) := by decide +kernel
theorem dX9_onString_60 : decode cX9_onString 60 = .ok (.iload_n 2, 1) := by decide +kernel
theorem dX9_onString_61 : decode cX9_onString 61 = .ok (.aaload, 1) := by decide +kernel
theorem dX9_onString_62 : decode cX9_onString 62 = .ok (.iload_n 3, 1) := by decide +kernel
theorem dX9_onString_63 : decode cX9_onString 63 = .ok (.invokestatic 92, 3) := by decide +kernel
theorem dX9_onString_66 : decode cX9_onString 66 = .ok (.goto 9, 3) := by decide +kernel
theorem dX9_onString_69 : decode cX9_onString 69 = .ok (.aload 5, 2) := by decide +kernel
theorem dX9_onString_71 : decode cX9_onString 71 = .ok (.iload_n 2, 1) := by decide +kernel
theorem dX9_onString_72 : decode cX9_onString 72 = .ok (.aaload, 1) := by decide +kernel
theorem dX9_onString_73 : decode cX9_onString 73 = .ok (.iload_n 3, 1) := by decide +kernel
theorem dX9_onString_74 : decode cX9_onString 74 = .ok (.iaload, 1) := by decide +kernel
theorem dX9_onString_75 : decode cX9_onString 75 = .ok (.ireturn, 1) := by decide +kernel
theorem dX9_fret_0 : decode cX9_fret 0 = .ok (.aload_n 0, 1) := by decide +kernel
theorem dX9_fret_1 : decode cX9_fret 1 = .ok (.iload_n 1, 1) := by decide +kernel
theorem dX9_fret_2 : decode cX9_fret 2 = .ok (.iload_n 2, 1) := by decide +kernel
theorem dX9_fret_3 : decode cX9_fret 3 = .ok (.iload_n 3, 1) := by decide +kernel
theorem dX9_fret_4 : decode cX9_fret 4 = .ok (.iconst 0, 1) := by decide +kernel
theorem dX9_fret_5 : decode cX9_fret 5 = .ok (.invokevirtual 160, 3) := by decide +kernel
theorem dX9_fret_8 : decode cX9_fret 8 = .ok (.ireturn, 1) := by decide +kernel
theorem dX9_finger_0 : decode cX9_finger 0 = .ok (.aload_n 0, 1) := by decide +kernel
theorem dX9_finger_1 : decode cX9_finger 1 = .ok (.iload_n 1, 1) := by decide +kernel
theorem dX9_finger_2 : decode cX9_finger 2 = .ok (.iload_n 2, 1) := by decide +kernel
theorem dX9_finger_3 : decode cX9_finger 3 = .ok (.iload_n 3, 1) := by decide +kernel
theorem dX9_finger_4 : decode cX9_finger 4 = .ok (.iconst 1, 1) := by decide +kernel
theorem dX9_finger_5 : decode cX9_finger 5 = .ok (.invokevirtual 160, 3) := by decide +kernel
theorem dX9_finger_8 : decode cX9_finger 8 = .ok (.ireturn, 1) := by decide +kernel
theorem dX9_moveNow_0 : decode cX9_moveNow 0 = .ok (.aload_n 2, 1) := by decide +kernel
theorem dX9_moveNow_1 : decode cX9_moveNow 1 = .ok (.invokestatic 99, 3) := by decide +kernel
theorem dX9_moveNow_4 : decode cX9_moveNow 4 = .ok (.ifCond .eq 10, 3) := by decide +kernel
theorem dX9_moveNow_7 : decode cX9_moveNow 7 = .ok (.aload_n 3, 1) := by decide +kernel
theorem dX9_moveNow_8 : decode cX9_moveNow 8 = .ok (.invokestatic 99, 3) := by decide +kernel
theorem dX9_moveNow_11 : decode cX9_moveNow 11 = .ok (.ifCond .ne 5, 3) := by decide +kernel
theorem dX9_moveNow_14 : decode cX9_moveNow 14 = .ok (.iconst 0, 1) := by decide +kernel
theorem dX9_moveNow_15 : decode cX9_moveNow 15 = .ok (.ireturn, 1) := by decide +kernel
theorem dX9_moveNow_16 : decode cX9_moveNow 16 = .ok (.iconst 3, 1) := by decide +kernel
theorem dX9_moveNow_17 : decode cX9_moveNow 17 = .ok (.aload_n 2, 1) := by decide +kernel
theorem dX9_moveNow_18 : decode cX9_moveNow 18 = .ok (.invokestatic 84, 3) := by decide +kernel
theorem dX9_moveNow_21 : decode cX9_moveNow 21 = .ok (.aload_n 3, 1) := by decide +kernel
theorem dX9_moveNow_22 : decode cX9_moveNow 22 = .ok (.invokestatic 84, 3) := by decide +kernel
theorem dX9_moveNow_25 : decode cX9_moveNow 25 = .ok (.isub, 1) := by decide +kernel
theorem dX9_moveNow_26 : decode cX9_moveNow 26 = .ok (.invokestatic 164, 3) := by decide +kernel
theorem dX9_moveNow_29 : decode cX9_moveNow 29 = .ok (.imul, 1) := by decide +kernel
theorem dX9_moveNow_30 : decode cX9_moveNow 30 = .ok (.aload_n 0, 1) := by decide +kernel
theorem dX9_moveNow_31 : decode cX9_moveNow 31 = .ok (.getfield 26, 3) := by decide +kernel
theorem dX9_moveNow_34 : decode cX9_moveNow 34 = .ok (.iload_n 1, 1) := by decide +kernel
theorem dX9_moveNow_35 : decode cX9_moveNow 35 = .ok (.iaload, 1) := by decide +kernel
theorem dX9_moveNow_36 : decode cX9_moveNow 36 = .ok (.iconst 1, 1) := by decide +kernel
theorem dX9_moveNow_37 : decode cX9_moveNow 37 = .ok (.if_icmp .ne 7, 3) := by decide +kernel
theorem dX9_moveNow_40 : decode cX9_moveNow 40 = .ok (.iconst 2, 1) := by decide +kernel
theorem dX9_moveNow_41 : decode cX9_moveNow 41 = .ok (.goto 4, 3) := by decide +kernel
theorem dX9_moveNow_44 : decode cX9_moveNow 44 = .ok (.iconst 1, 1) := by decide +kernel
theorem dX9_moveNow_45 : decode cX9_moveNow 45 = .ok (.imul, 1) := by decide +kernel
theorem dX9_moveNow_46 : decode cX9_moveNow 46 = .ok (.istore 4, 2) := by decide +kernel
theorem dX9_moveNow_48 : decode cX9_moveNow 48 = .ok (.iconst 0, 1) := by decide +kernel
theorem dX9_moveNow_49 : decode cX9_moveNow 49 = .ok (.istore 5, 2) := by decide +kernel
theorem dX9_moveNow_51 : decode cX9_moveNow 51 = .ok (.iload 5, 2) := by decide +kernel
theorem dX9_moveNow_53 : decode cX9_moveNow 53 = .ok (.aload_n 0, 1) := by decide +kernel
theorem dX9_moveNow_54 : decode cX9_moveNow 54 = .ok (.getfield 47, 3) := by decide +kernel
theorem dX9_moveNow_57 : decode cX9_moveNow 57 = .ok (.if_icmp .ge 37, 3) := by decide +kernel
theorem dX9_moveNow_60 : decode cX9_moveNow 60 = .ok (.iload 4, 2) := by decide +kernel
theorem dX9_moveNow_62 : decode cX9_moveNow 62 = .ok (.aload_n 3, 1) := by decide +kernel
theorem dX9_moveNow_63 : decode cX9_moveNow 63 = .ok (.iload 5, 2) := by decide +kernel
theorem dX9_moveNow_65 : decode cX9_moveNow 65 = .ok (.iaload, 1) := by decide +kernel
theorem dX9_moveNow_66 : decode cX9_moveNow 66 = .ok (.ifCond .le 18, 3) := by decide +kernel
theorem dX9_moveNow_69 : decode cX9_moveNow 69 = .ok (.aload_n 2, 1) := by decide +kernel
theorem dX9_moveNow_70 : decode cX9_moveNow 70 = .ok (.iload 5, 2) := by decide +kernel
theorem dX9_moveNow_72 : decode cX9_moveNow 72 = .ok (.iaload, 1) := by decide +kernel
theorem dX9_moveNow_73 : decode cX9_moveNow 73 = .ok (.aload_n 3, 1) := by decide +kernel
theorem dX9_moveNow_74 : decode cX9_moveNow 74 = .ok (.iload 5, 2) := by decide +kernel
theorem dX9_moveNow_76 : decode cX9_moveNow 76 = .ok (.iaload, 1) := by decide +kernel
theorem dX9_moveNow_77 : decode cX9_moveNow 77 = .ok (.if_icmp .eq 7, 3) := by decide +kernel
theorem dX9_moveNow_80 : decode cX9_moveNow 80 = .ok (.iconst 1, 1) := by decide +kernel
theorem dX9_moveNow_81 : decode cX9_moveNow 81 = .ok (.goto 4, 3) := by decide +kernel
theorem dX9_moveNow_84 : decode cX9_moveNow 84 = .ok (.iconst 0, 1) := by decide +kernel
theorem dX9_moveNow_85 : decode cX9_moveNow 85 = .ok (.iadd, 1) := by decide +kernel
theorem dX9_moveNow_86 : decode cX9_moveNow 86 = .ok (.istore 4, 2) := by decide +kernel
theorem dX9_moveNow_88 : decode cX9_moveNow 88 = .ok (.iinc 5 1, 3) := by decide +kernel
theorem dX9_moveNow_91 : decode cX9_moveNow 91 = .ok (.goto (-40), 3) := by decide +kernel
theorem dX9_moveNow_94 : decode cX9_moveNow 94 = .ok (.iload 4, 2) := by decide +kernel
theorem dX9_moveNow_96 : decode cX9_moveNow 96 = .ok (.ireturn, 1) := by decide +kernel
theorem dX9_move_0 : decode cX9_move 0 = .ok (.aload_n 0, 1) := by decide +kernel
theorem dX9_move_1 : decode cX9_move 1 = .ok (.iconst 0, 1) := by decide +kernel
theorem dX9_move_2 : decode cX9_move 2 = .ok (.putfield 44, 3) := by decide +kernel
theorem dX9_move_5 : decode cX9_move 5 = .ok (.iload_n 1, 1) := by decide +kernel
theorem dX9_move_6 : decode cX9_move 6 = .ok (.iconst 0, 1) := by decide +kernel
theorem dX9_move_7 : decode cX9_move 7 = .ok (.aload_n 0, 1) := by decide +kernel
theorem dX9_move_8 : decode cX9_move 8 = .ok (.getfield 54, 3) := by decide +kernel
theorem dX9_move_11 : decode cX9_move 11 = .ok (.iconst 2, 1) := by decide +kernel
theorem dX9_move_12 : decode cX9_move 12 = .ok (.isub, 1) := by decide +kernel
theorem dX9_move_13 : decode cX9_move 13 = .ok (.invokestatic 50, 3) := by decide +kernel
theorem dX9_move_16 : decode cX9_move 16 = .ok (.ifCond .ne 9, 3) := by decide +kernel
theorem dX9_move_19 : decode cX9_move 19 = .ok (.aload_n 0, 1) := by decide +kernel
theorem dX9_move_20 : decode cX9_move 20 = .ok (.iconst 1, 1) := by decide +kernel
theorem dX9_move_21 : decode cX9_move 21 = .ok (.invokevirtual 57, 3) := by decide +kernel
theorem dX9_move_24 : decode cX9_move 24 = .ok (.ireturn, 1) := by decide +kernel
theorem dX9_move_25 : decode cX9_move 25 = .ok (.aload_n 0, 1) := by decide +kernel
theorem dX9_move_26 : decode cX9_move 26 = .ok (.iload_n 1, 1) := by decide +kernel
theorem dX9_move_27 : decode cX9_move 27 = .ok (.invokevirtual 146, 3) := by decide +kernel
theorem dX9_move_30 : decode cX9_move 30 = .ok (.astore 4, 2) := by decide +kernel
theorem dX9_move_32 : decode cX9_move 32 = .ok (.aload_n 0, 1) := by decide +kernel
theorem dX9_move_33 : decode cX9_move 33 = .ok (.iload_n 1, 1) := by decide +kernel
theorem dX9_move_34 : decode cX9_move 34 = .ok (.iconst 1, 1) := by decide +kernel
theorem dX9_move_35 : decode cX9_move 35 = .ok (.iadd, 1) := by decide +kernel
theorem dX9_move_36 : decode cX9_move 36 = .ok (.invokevirtual 146, 3) := by decide +kernel
theorem dX9_move_39 : decode cX9_move 39 = .ok (.astore 5, 2) := by decide +kernel
theorem dX9_move_41 : decode cX9_move 41 = .ok (.iload_n 2, 1) := by decide +kernel
theorem dX9_move_42 : decode cX9_move 42 = .ok (.iconst 0, 1) := by decide +kernel
theorem dX9_move_43 : decode cX9_move 43 = .ok (.aload 4, 2) := by decide +kernel
theorem dX9_move_45 : decode cX9_move 45 = .ok (.arraylength, 1) := by decide +kernel
theorem dX9_move_46 : decode cX9_move 46 = .ok (.iconst 1, 1) := by decide +kernel
theorem dX9_move_47 : decode cX9_move 47 = .ok (.isub, 1) := by decide +kernel
theorem dX9_move_48 : decode cX9_move 48 = .ok (.invokestatic 50, 3) := by decide +kernel
theorem dX9_move_51 : decode cX9_move 51 = .ok (.ifCond .eq 32, 3) := by decide +kernel
theorem dX9_move_54 : decode cX9_move 54 = .ok (.iload_n 3, 1) := by decide +kernel
theorem dX9_move_55 : decode cX9_move 55 = .ok (.iconst 0, 1) := by decide +kernel
theorem dX9_move_56 : decode cX9_move 56 = .ok (.aload 5, 2) := by decide +kernel
theorem dX9_move_58 : decode cX9_move 58 = .ok (.arraylength, 1) := by decide +kernel
theorem dX9_move_59 : decode cX9_move 59 = .ok (.iconst 1, 1) := by decide +kernel
theorem dX9_move_60 : decode cX9_move 60 = .ok (.isub, 1) := by decide +kernel
theorem dX9_move_61 : decode cX9_move 61 = .ok (.invokestatic 50, 3) := by decide +kernel
theorem dX9_move_64 : decode cX9_move 64 = .ok (.ifCond .eq 19, 3) := by decide +kernel
theorem dX9_move_67 : decode cX9_move 67 = .ok (.aload_n 0, 1) := by decide +kernel
theorem dX9_move_68 : decode cX9_move 68 = .ok (.iload_n 1, 1) := by decide +kernel
theorem dX9_move_69 : decode cX9_move 69 = .ok (.aload 4, 2) := by decide +kernel
theorem dX9_move_71 : decode cX9_move 71 = .ok (.iload_n 2, 1) := by decide +kernel
theorem dX9_move_72 : decode cX9_move 72 = .ok (.aaload, 1) := by decide +kernel
theorem dX9_move_73 : decode cX9_move 73 = .ok (.aload 5, 2) := by decide +kernel
theorem dX9_move_75 : decode cX9_move 75 = .ok (.iload_n 3, 1) := by decide +kernel
theorem dX9_move_76 : decode cX9_move 76 = .ok (.aaload, 1) := by decide +kernel
theorem dX9_move_77 : decode cX9_move 77 = .ok (.invokevirtual 167, 3) := by decide +kernel
theorem dX9_move_80 : decode cX9_move 80 = .ok (.goto 8, 3) := by decide +kernel
theorem dX9_move_83 : decode cX9_move 83 = .ok (.aload_n 0, 1) := by decide +kernel
theorem dX9_move_84 : decode cX9_move 84 = .ok (.iconst 1, 1) := by decide +kernel
theorem dX9_move_85 : decode cX9_move 85 = .ok (.invokevirtual 57, 3) := by decide +kernel
theorem dX9_move_88 : decode cX9_move 88 = .ok (.ireturn, 1) := by decide +kernel
theorem dX9_all_0 : decode cX9_all 0 = .ok (.aload_n 0, 1) := by decide +kernel
theorem dX9_all_1 : decode cX9_all 1 = .ok (.getfield 54, 3) := by decide +kernel
theorem dX9_all_4 : decode cX9_all 4 = .ok (.anewarray 171, 3) := by decide +kernel
theorem dX9_all_7 : decode cX9_all 7 = .ok (.astore_n 1, 1) := by decide +kernel
theorem dX9_all_8 : decode cX9_all 8 = .ok (.iconst 0, 1) := by decide +kernel
theorem dX9_all_9 : decode cX9_all 9 = .ok (.istore_n 2, 1) := by decide +kernel
theorem dX9_all_10 : decode cX9_all 10 = .ok (.iload_n 2, 1) := by decide +kernel
theorem dX9_all_11 : decode cX9_all 11 = .ok (.aload_n 0, 1) := by decide +kernel
theorem dX9_all_12 : decode cX9_all 12 = .ok (.getfield 54, 3) := by decide +kernel
theorem dX9_all_15 : decode cX9_all 15 = .ok (.if_icmp .ge 17, 3) := by decide +kernel
theorem dX9_all_18 : decode cX9_all 18 = .ok (.aload_n 1, 1) := by decide +kernel
theorem dX9_all_19 : decode cX9_all 19 = .ok (.iload_n 2, 1) := by decide +kernel
theorem dX9_all_20 : decode cX9_all 20 = .ok (.aload_n 0, 1) := by decide +kernel
theorem dX9_all_21 : decode cX9_all 21 = .ok (.iload_n 2, 1) := by decide +kernel
theorem dX9_all_22 : decode cX9_all 22 = .ok (.invokevirtual 146, 3) := by decide +kernel
theorem dX9_all_25 : decode cX9_all 25 = .ok (.aastore, 1) := by decide +kernel
theorem dX9_all_26 : decode cX9_all 26 = .ok (.iinc 2 1, 3) := by decide +kernel
theorem dX9_all_29 : decode cX9_all 29 = .ok (.goto (-19), 3) := by decide +kernel
theorem dX9_all_32 : decode cX9_all 32 = .ok (.aload_n 1, 1) := by decide +kernel
theorem dX9_all_33 : decode cX9_all 33 = .ok (.areturn, 1) := by decide +kernel
theorem dX9_planNow_0 : decode cX9_planNow 0 = .ok (.aload_n 0, 1) := by decide +kernel
theorem dX9_planNow_1 : decode cX9_planNow 1 = .ok (.getfield 54, 3) := by decide +kernel
theorem dX9_planNow_4 : decode cX9_planNow 4 = .ok (.anewarray 21, 3) := by decide +kernel
theorem dX9_planNow_7 : decode cX9_planNow 7 = .ok (.astore_n 2, 1) := by decide +kernel
theorem dX9_planNow_8 : decode cX9_planNow 8 = .ok (.aload_n 0, 1) := by decide +kernel
theorem dX9_planNow_9 : decode cX9_planNow 9 = .ok (.getfield 54, 3) := by decide +kernel
theorem dX9_planNow_12 : decode cX9_planNow 12 = .ok (.iconst 1, 1) := by decide +kernel
theorem dX9_planNow_13 : decode cX9_planNow 13 = .ok (.isub, 1) := by decide +kernel
theorem dX9_planNow_14 : decode cX9_planNow 14 = .ok (.istore_n 3, 1) := by decide +kernel
theorem dX9_planNow_15 : decode cX9_planNow 15 = .ok (.iload_n 3, 1) := by decide +kernel
theorem dX9_planNow_16 : decode cX9_planNow 16 = .ok (.ifCond .lt 206, 3) := by decide +kernel
theorem dX9_planNow_19 : decode cX9_planNow 19 = .ok (.aload_n 1, 1) := by decide +kernel
theorem dX9_planNow_20 : decode cX9_planNow 20 = .ok (.iload_n 3, 1) := by decide +kernel
theorem dX9_planNow_21 : decode cX9_planNow 21 = .ok (.aaload, 1) := by decide +kernel
theorem dX9_planNow_22 : decode cX9_planNow 22 = .ok (.arraylength, 1) := by decide +kernel
theorem dX9_planNow_23 : decode cX9_planNow 23 = .ok (.ifCond .ne 7, 3) := by decide +kernel
theorem dX9_planNow_26 : decode cX9_planNow 26 = .ok (.iconst 0, 1) := by decide +kernel
theorem dX9_planNow_27 : decode cX9_planNow 27 = .ok (.newarray .int, 2) := by decide +kernel
theorem dX9_planNow_29 : decode cX9_planNow 29 = .ok (.areturn, 1) := by decide +kernel
theorem dX9_planNow_30 : decode cX9_planNow 30 = .ok (.aload_n 0, 1) := by decide +kernel
theorem dX9_planNow_31 : decode cX9_planNow 31 = .ok (.iload_n 3, 1) := by decide +kernel
theorem dX9_planNow_32 : decode cX9_planNow 32 = .ok (.aload_n 1, 1) := by decide +kernel
theorem dX9_planNow_33 : decode cX9_planNow 33 = .ok (.iload_n 3, 1) := by decide +kernel
theorem dX9_planNow_34 : decode cX9_planNow 34 = .ok (.aaload, 1) := by decide +kernel
theorem dX9_planNow_35 : decode cX9_planNow 35 = .ok (.invokevirtual 150, 3) := by decide +kernel
theorem dX9_planNow_38 : decode cX9_planNow 38 = .ok (.istore 4, 2) := by decide +kernel
theorem dX9_planNow_40 : decode cX9_planNow 40 = .ok (.aload_n 2, 1) := by decide +kernel
theorem dX9_planNow_41 : decode cX9_planNow 41 = .ok (.iload_n 3, 1) := by decide +kernel
theorem dX9_planNow_42 : decode cX9_planNow 42 = .ok (.aload_n 1, 1) := by decide +kernel
theorem dX9_planNow_43 : decode cX9_planNow 43 = .ok (.iload_n 3, 1) := by decide +kernel
theorem dX9_planNow_44 : decode cX9_planNow 44 = .ok (.aaload, 1) := by decide +kernel
theorem dX9_planNow_45 : decode cX9_planNow 45 = .ok (.arraylength, 1) := by decide +kernel
theorem dX9_planNow_46 : decode cX9_planNow 46 = .ok (.newarray .int, 2) := by decide +kernel
theorem dX9_planNow_48 : decode cX9_planNow 48 = .ok (.aastore, 1) := by decide +kernel
theorem dX9_planNow_49 : decode cX9_planNow 49 = .ok (.iconst 0, 1) := by decide +kernel
theorem dX9_planNow_50 : decode cX9_planNow 50 = .ok (.istore 5, 2) := by decide +kernel
theorem dX9_planNow_52 : decode cX9_planNow 52 = .ok (.iload 5, 2) := by decide +kernel
theorem dX9_planNow_54 : decode cX9_planNow 54 = .ok (.aload_n 2, 1) := by decide +kernel
theorem dX9_planNow_55 : decode cX9_planNow 55 = .ok (.iload_n 3, 1) := by decide +kernel
theorem dX9_planNow_56 : decode cX9_planNow 56 = .ok (.aaload, 1) := by decide +kernel
theorem dX9_planNow_57 : decode cX9_planNow 57 = .ok (.arraylength, 1) := by decide +kernel
theorem dX9_planNow_58 : decode cX9_planNow 58 = .ok (.if_icmp .ge 158, 3) := by decide +kernel
theorem dX9_planNow_61 : decode cX9_planNow 61 = .ok (.iload_n 3, 1) := by decide +kernel
theorem dX9_planNow_62 : decode cX9_planNow 62 = .ok (.iconst 1, 1) := by decide +kernel
theorem dX9_planNow_63 : decode cX9_planNow 63 = .ok (.iadd, 1) := by decide +kernel
theorem dX9_planNow_64 : decode cX9_planNow 64 = .ok (.aload_n 0, 1) := by decide +kernel
theorem dX9_planNow_65 : decode cX9_planNow 65 = .ok (.getfield 54, 3) := by decide +kernel
theorem dX9_planNow_68 : decode cX9_planNow 68 = .ok (.if_icmp .ge 7, 3) := by decide +kernel
theorem dX9_planNow_71 : decode cX9_planNow 71 = .ok (.iconst (-1), 1) := by decide +kernel
theorem dX9_planNow_72 : decode cX9_planNow 72 = .ok (.goto 4, 3) := by decide +kernel
theorem dX9_planNow_75 : decode cX9_planNow 75 = .ok (.iconst 0, 1) := by decide +kernel
theorem dX9_planNow_76 : decode cX9_planNow 76 = .ok (.istore 6, 2) := by decide +kernel
theorem dX9_planNow_78 : decode cX9_planNow 78 = .ok (.iconst 0, 1) := by decide +kernel
theorem dX9_planNow_79 : decode cX9_planNow 79 = .ok (.istore 7, 2) := by decide +kernel
theorem dX9_planNow_81 : decode cX9_planNow 81 = .ok (.iload_n 3, 1) := by decide +kernel
theorem dX9_planNow_82 : decode cX9_planNow 82 = .ok (.iconst 1, 1) := by decide +kernel
theorem dX9_planNow_83 : decode cX9_planNow 83 = .ok (.iadd, 1) := by decide +kernel
theorem dX9_planNow_84 : decode cX9_planNow 84 = .ok (.aload_n 0, 1) := by decide +kernel
theorem dX9_planNow_85 : decode cX9_planNow 85 = .ok (.getfield 54, 3) := by decide +kernel
theorem dX9_planNow_88 : decode cX9_planNow 88 = .ok (.if_icmp .ge 87, 3) := by decide +kernel
theorem dX9_planNow_91 : decode cX9_planNow 91 = .ok (.iload 7, 2) := by decide +kernel
theorem dX9_planNow_93 : decode cX9_planNow 93 = .ok (.aload_n 2, 1) := by decide +kernel
theorem dX9_planNow_94 : decode cX9_planNow 94 = .ok (.iload_n 3, 1) := by decide +kernel
theorem dX9_planNow_95 : decode cX9_planNow 95 = .ok (.iconst 1, 1) := by decide +kernel
theorem dX9_planNow_96 : decode cX9_planNow 96 = .ok (.iadd, 1) := by decide +kernel
theorem dX9_planNow_97 : decode cX9_planNow 97 = .ok (.aaload, 1) := by decide +kernel
theorem dX9_planNow_98 : decode cX9_planNow 98 = .ok (.arraylength, 1) := by decide +kernel
theorem dX9_planNow_99 : decode cX9_planNow 99 = .ok (.if_icmp .ge 76, 3) := by decide +kernel
theorem dX9_planNow_102 : decode cX9_planNow 102 = .ok (.aload_n 2, 1) := by decide +kernel
theorem dX9_planNow_103 : decode cX9_planNow 103 = .ok (.iload_n 3, 1) := by decide +kernel
theorem dX9_planNow_104 : decode cX9_planNow 104 = .ok (.iconst 1, 1) := by decide +kernel
theorem dX9_planNow_105 : decode cX9_planNow 105 = .ok (.iadd, 1) := by decide +kernel
theorem dX9_planNow_106 : decode cX9_planNow 106 = .ok (.aaload, 1) := by decide +kernel
theorem dX9_planNow_107 : decode cX9_planNow 107 = .ok (.iload 7, 2) := by decide +kernel
theorem dX9_planNow_109 : decode cX9_planNow 109 = .ok (.iaload, 1) := by decide +kernel
theorem dX9_planNow_110 : decode cX9_planNow 110 = .ok (.iconst (-1), 1) := by decide +kernel
theorem dX9_planNow_111 : decode cX9_planNow 111 = .ok (.if_icmp .ne 6, 3) := by decide +kernel
theorem dX9_planNow_114 : decode cX9_planNow 114 = .ok (.goto 55, 3) := by decide +kernel
theorem dX9_planNow_117 : decode cX9_planNow 117 = .ok (.aload_n 0, 1) := by decide +kernel
theorem dX9_planNow_118 : decode cX9_planNow 118 = .ok (.iload_n 3, 1) := by decide +kernel
theorem dX9_planNow_119 : decode cX9_planNow 119 = .ok (.aload_n 1, 1) := by decide +kernel
theorem dX9_planNow_120 : decode cX9_planNow 120 = .ok (.iload_n 3, 1) := by decide +kernel
theorem dX9_planNow_121 : decode cX9_planNow 121 = .ok (.aaload, 1) := by decide +kernel
theorem dX9_planNow_122 : decode cX9_planNow 122 = .ok (.iload 5, 2) := by decide +kernel
theorem dX9_planNow_124 : decode cX9_planNow 124 = .ok (.aaload, 1) := by decide +kernel
theorem dX9_planNow_125 : decode cX9_planNow 125 = .ok (.aload_n 1, 1) := by decide +kernel
theorem dX9_planNow_126 : decode cX9_planNow 126 = .ok (.iload_n 3, 1) := by decide +kernel
theorem dX9_planNow_127 : decode cX9_planNow 127 = .ok (.iconst 1, 1) := by decide +kernel
theorem dX9_planNow_128 : decode cX9_planNow 128 = .ok (.iadd, 1) := by decide +kernel
theorem dX9_planNow_129 : decode cX9_planNow 129 = .ok (.aaload, 1) := by decide +kernel
theorem dX9_planNow_130 : decode cX9_planNow 130 = .ok (.iload 7, 2) := by decide +kernel
theorem dX9_planNow_132 : decode cX9_planNow 132 = .ok (.aaload, 1) := by decide +kernel
theorem dX9_planNow_133 : decode cX9_planNow 133 = .ok (.invokevirtual 167, 3) := by decide +kernel
theorem dX9_planNow_136 : decode cX9_planNow 136 = .ok (.aload_n 2, 1) := by decide +kernel
theorem dX9_planNow_137 : decode cX9_planNow 137 = .ok (.iload_n 3, 1) := by decide +kernel
theorem dX9_planNow_138 : decode cX9_planNow 138 = .ok (.iconst 1, 1) := by decide +kernel
theorem dX9_planNow_139 : decode cX9_planNow 139 = .ok (.iadd, 1) := by decide +kernel
theorem dX9_planNow_140 : decode cX9_planNow 140 = .ok (.aaload, 1) := by decide +kernel
theorem dX9_planNow_141 : decode cX9_planNow 141 = .ok (.iload 7, 2) := by decide +kernel
theorem dX9_planNow_143 : decode cX9_planNow 143 = .ok (.iaload, 1) := by decide +kernel
theorem dX9_planNow_144 : decode cX9_planNow 144 = .ok (.iadd, 1) := by decide +kernel
theorem dX9_planNow_145 : decode cX9_planNow 145 = .ok (.istore 8, 2) := by decide +kernel
theorem dX9_planNow_147 : decode cX9_planNow 147 = .ok (.iload 6, 2) := by decide +kernel
theorem dX9_planNow_149 : decode cX9_planNow 149 = .ok (.iconst (-1), 1) := by decide +kernel
theorem dX9_planNow_150 : decode cX9_planNow 150 = .ok (.if_icmp .eq 10, 3) := by decide +kernel
theorem dX9_planNow_153 : decode cX9_planNow 153 = .ok (.iload 8, 2) := by decide +kernel
theorem dX9_planNow_155 : decode cX9_planNow 155 = .ok (.iload 6, 2) := by decide +kernel
theorem dX9_planNow_157 : decode cX9_planNow 157 = .ok (.if_icmp .ge 8, 3) := by decide +kernel
theorem dX9_planNow_160 : decode cX9_planNow 160 = .ok (.iload 8, 2) := by decide +kernel
theorem dX9_planNow_162 : decode cX9_planNow 162 = .ok (.goto 5, 3) := by decide +kernel
theorem dX9_planNow_165 : decode cX9_planNow 165 = .ok (.iload 6, 2) := by decide +kernel
theorem dX9_planNow_167 : decode cX9_planNow 167 = .ok (.istore 6, 2) := by decide +kernel
theorem dX9_planNow_169 : decode cX9_planNow 169 = .ok (.iinc 7 1, 3) := by decide +kernel
theorem dX9_planNow_172 : decode cX9_planNow 172 = .ok (.goto (-91), 3) := by decide +kernel
theorem dX9_planNow_175 : decode cX9_planNow 175 = .ok (.aload_n 2, 1) := by decide +kernel
theorem dX9_planNow_176 : decode cX9_planNow 176 = .ok (.iload_n 3, 1) := by decide +kernel
theorem dX9_planNow_177 : decode cX9_planNow 177 = .ok (.aaload, 1) := by decide +kernel
theorem dX9_planNow_178 : decode cX9_planNow 178 = .ok (.iload 5, 2) := by decide +kernel
theorem dX9_planNow_180 : decode cX9_planNow 180 = .ok (.iload 4, 2) := by decide +kernel
theorem dX9_planNow_182 : decode cX9_planNow 182 = .ok (.iconst (-1), 1) := by decide +kernel
theorem dX9_planNow_183 : decode cX9_planNow 183 = .ok (.if_icmp .eq 14, 3) := by decide +kernel
theorem dX9_planNow_186 : decode cX9_planNow 186 = .ok (.iload 4, 2) := by decide +kernel
theorem dX9_planNow_188 : decode cX9_planNow 188 = .ok (.iload 5, 2) := by decide +kernel
theorem dX9_planNow_190 : decode cX9_planNow 190 = .ok (.if_icmp .eq 7, 3) := by decide +kernel
theorem dX9_planNow_193 : decode cX9_planNow 193 = .ok (.iconst (-1), 1) := by decide +kernel
theorem dX9_planNow_194 : decode cX9_planNow 194 = .ok (.goto 15, 3) := by decide +kernel
theorem dX9_planNow_197 : decode cX9_planNow 197 = .ok (.aload_n 1, 1) := by decide +kernel
theorem dX9_planNow_198 : decode cX9_planNow 198 = .ok (.iload_n 3, 1) := by decide +kernel
theorem dX9_planNow_199 : decode cX9_planNow 199 = .ok (.aaload, 1) := by decide +kernel
theorem dX9_planNow_200 : decode cX9_planNow 200 = .ok (.iload 5, 2) := by decide +kernel
theorem dX9_planNow_202 : decode cX9_planNow 202 = .ok (.aaload, 1) := by decide +kernel
theorem dX9_planNow_203 : decode cX9_planNow 203 = .ok (.invokestatic 114, 3) := by decide +kernel
theorem dX9_planNow_206 : decode cX9_planNow 206 = .ok (.iload 6, 2) := by decide +kernel
theorem dX9_planNow_208 : decode cX9_planNow 208 = .ok (.iadd, 1) := by decide +kernel
theorem dX9_planNow_209 : decode cX9_planNow 209 = .ok (.iastore, 1) := by decide +kernel
theorem dX9_planNow_210 : decode cX9_planNow 210 = .ok (.iinc 5 1, 3) := by decide +kernel
theorem dX9_planNow_213 : decode cX9_planNow 213 = .ok (.goto (-161), 3) := by decide +kernel
theorem dX9_planNow_216 : decode cX9_planNow 216 = .ok (.iinc 3 (-1), 3) := by decide +kernel
theorem dX9_planNow_219 : decode cX9_planNow 219 = .ok (.goto (-204), 3) := by decide +kernel
theorem dX9_planNow_222 : decode cX9_planNow 222 = .ok (.aload_n 0, 1) := by decide +kernel
theorem dX9_planNow_223 : decode cX9_planNow 223 = .ok (.getfield 54, 3) := by decide +kernel
theorem dX9_planNow_226 : decode cX9_planNow 226 = .ok (.ifCond .ne 7, 3) := by decide +kernel
theorem dX9_planNow_229 : decode cX9_planNow 229 = .ok (.iconst 0, 1) := by decide +kernel
theorem dX9_planNow_230 : decode cX9_planNow 230 = .ok (.newarray .int, 2) := by decide +kernel
theorem dX9_planNow_232 : decode cX9_planNow 232 = .ok (.areturn, 1) := by decide +kernel
theorem dX9_planNow_233 : decode cX9_planNow 233 = .ok (.aload_n 0, 1) := by decide +kernel
theorem dX9_planNow_234 : decode cX9_planNow 234 = .ok (.getfield 54, 3) := by decide +kernel
theorem dX9_planNow_237 : decode cX9_planNow 237 = .ok (.iconst 1, 1) := by decide +kernel
theorem dX9_planNow_238 : decode cX9_planNow 238 = .ok (.iadd, 1) := by decide +kernel
theorem dX9_planNow_239 : decode cX9_planNow 239 = .ok (.newarray .int, 2) := by decide +kernel
theorem dX9_planNow_241 : decode cX9_planNow 241 = .ok (.astore_n 3, 1) := by decide +kernel
theorem dX9_planNow_242 : decode cX9_planNow 242 = .ok (.iconst 0, 1) := by decide +kernel
theorem dX9_planNow_243 : decode cX9_planNow 243 = .ok (.istore 4, 2) := by decide +kernel
theorem dX9_planNow_245 : decode cX9_planNow 245 = .ok (.iload 4, 2) := by decide +kernel
theorem dX9_planNow_247 : decode cX9_planNow 247 = .ok (.aload_n 0, 1) := by decide +kernel
theorem dX9_planNow_248 : decode cX9_planNow 248 = .ok (.getfield 54, 3) := by decide +kernel
theorem dX9_planNow_251 : decode cX9_planNow 251 = .ok (.if_icmp .ge 138, 3) := by decide +kernel
theorem dX9_planNow_254 : decode cX9_planNow 254 = .ok (.iconst (-1), 1) := by decide +kernel
theorem dX9_planNow_255 : decode cX9_planNow 255 = .ok (.istore 5, 2) := by decide +kernel
theorem dX9_planNow_257 : decode cX9_planNow 257 = .ok (.iconst 0, 1) := by decide +kernel
theorem dX9_planNow_258 : decode cX9_planNow 258 = .ok (.istore 6, 2) := by decide +kernel
theorem dX9_planNow_260 : decode cX9_planNow 260 = .ok (.iconst 0, 1) := by decide +kernel
theorem dX9_planNow_261 : decode cX9_planNow 261 = .ok (.istore 7, 2) := by decide +kernel
theorem dX9_planNow_263 : decode cX9_planNow 263 = .ok (.iload 7, 2) := by decide +kernel
theorem dX9_planNow_265 : decode cX9_planNow 265 = .ok (.aload_n 2, 1) := by decide +kernel
theorem dX9_planNow_266 : decode cX9_planNow 266 = .ok (.iload 4, 2) := by decide +kernel
theorem dX9_planNow_268 : decode cX9_planNow 268 = .ok (.aaload, 1) := by decide +kernel
theorem dX9_planNow_269 : decode cX9_planNow 269 = .ok (.arraylength, 1) := by decide +kernel
theorem dX9_planNow_270 : decode cX9_planNow 270 = .ok (.if_icmp .ge 94, 3) := by decide +kernel
theorem dX9_planNow_273 : decode cX9_planNow 273 = .ok (.aload_n 2, 1) := by decide +kernel
theorem dX9_planNow_274 : decode cX9_planNow 274 = .ok (.iload 4, 2) := by decide +kernel
theorem dX9_planNow_276 : decode cX9_planNow 276 = .ok (.aaload, 1) := by decide +kernel
theorem dX9_planNow_277 : decode cX9_planNow 277 = .ok (.iload 7, 2) := by decide +kernel
theorem dX9_planNow_279 : decode cX9_planNow 279 = .ok (.iaload, 1) := by decide +kernel
theorem dX9_planNow_280 : decode cX9_planNow 280 = .ok (.iconst (-1), 1) := by decide +kernel
theorem dX9_planNow_281 : decode cX9_planNow 281 = .ok (.if_icmp .ne 6, 3) := by decide +kernel
theorem dX9_planNow_284 : decode cX9_planNow 284 = .ok (.goto 74, 3) := by decide +kernel
theorem dX9_planNow_287 : decode cX9_planNow 287 = .ok (.aload_n 2, 1) := by decide +kernel
theorem dX9_planNow_288 : decode cX9_planNow 288 = .ok (.iload 4, 2) := by decide +kernel
theorem dX9_planNow_290 : decode cX9_planNow 290 = .ok (.aaload, 1) := by decide +kernel
theorem dX9_planNow_291 : decode cX9_planNow 291 = .ok (.iload 7, 2) := by decide +kernel
theorem dX9_planNow_293 : decode cX9_planNow 293 = .ok (.iaload, 1) := by decide +kernel
theorem dX9_planNow_294 : decode cX9_planNow 294 = .ok (.iload 4, 2) := by decide +kernel
theorem dX9_planNow_296 : decode cX9_planNow 296 = .ok (.ifCond .ne 7, 3) := by decide +kernel
theorem dX9_planNow_299 : decode cX9_planNow 299 = .ok (.iconst 0, 1) := by decide +kernel
theorem dX9_planNow_300 : decode cX9_planNow 300 = .ok (.goto 31, 3) := by decide +kernel
theorem dX9_planNow_303 : decode cX9_planNow 303 = .ok (.aload_n 0, 1) := by decide +kernel
theorem dX9_planNow_304 : decode cX9_planNow 304 = .ok (.iload 4, 2) := by decide +kernel
theorem dX9_planNow_306 : decode cX9_planNow 306 = .ok (.iconst 1, 1) := by decide +kernel
theorem dX9_planNow_307 : decode cX9_planNow 307 = .ok (.isub, 1) := by decide +kernel
theorem dX9_planNow_308 : decode cX9_planNow 308 = .ok (.aload_n 1, 1) := by decide +kernel
theorem dX9_planNow_309 : decode cX9_planNow 309 = .ok (.iload 4, 2) := by decide +kernel
theorem dX9_planNow_311 : decode cX9_planNow 311 = .ok (.iconst 1, 1) := by decide +kernel
theorem dX9_planNow_312 : decode cX9_planNow 312 = .ok (.isub, 1) := by decide +kernel
theorem dX9_planNow_313 : decode cX9_planNow 313 = .ok (.aaload, 1) := by decide +kernel
theorem dX9_planNow_314 : decode cX9_planNow 314 = .ok (.aload_n 3, 1) := by decide +kernel
theorem dX9_planNow_315 : decode cX9_planNow 315 = .ok (.iload 4, 2) := by decide +kernel
theorem dX9_planNow_317 : decode cX9_planNow 317 = .ok (.iconst 1, 1) := by decide +kernel
theorem dX9_planNow_318 : decode cX9_planNow 318 = .ok (.isub, 1) := by decide +kernel
theorem dX9_planNow_319 : decode cX9_planNow 319 = .ok (.iaload, 1) := by decide +kernel
theorem dX9_planNow_320 : decode cX9_planNow 320 = .ok (.aaload, 1) := by decide +kernel
theorem dX9_planNow_321 : decode cX9_planNow 321 = .ok (.aload_n 1, 1) := by decide +kernel
theorem dX9_planNow_322 : decode cX9_planNow 322 = .ok (.iload 4, 2) := by decide +kernel
theorem dX9_planNow_324 : decode cX9_planNow 324 = .ok (.aaload, 1) := by decide +kernel
theorem dX9_planNow_325 : decode cX9_planNow 325 = .ok (.iload 7, 2) := by decide +kernel
theorem dX9_planNow_327 : decode cX9_planNow 327 = .ok (.aaload, 1) := by decide +kernel
theorem dX9_planNow_328 : decode cX9_planNow 328 = .ok (.invokevirtual 167, 3) := by decide +kernel
theorem dX9_planNow_331 : decode cX9_planNow 331 = .ok (.iadd, 1) := by decide +kernel
theorem dX9_planNow_332 : decode cX9_planNow 332 = .ok (.istore 8, 2) := by decide +kernel
theorem dX9_planNow_334 : decode cX9_planNow 334 = .ok (.iload 5, 2) := by decide +kernel
theorem dX9_planNow_336 : decode cX9_planNow 336 = .ok (.iconst (-1), 1) := by decide +kernel
theorem dX9_planNow_337 : decode cX9_planNow 337 = .ok (.if_icmp .eq 13, 3) := by decide +kernel
theorem dX9_planNow_340 : decode cX9_planNow 340 = .ok (.iload 8, 2) := by decide +kernel
theorem dX9_planNow_342 : decode cX9_planNow 342 = .ok (.iload 6, 2) := by decide +kernel
theorem dX9_planNow_344 : decode cX9_planNow 344 = .ok (.if_icmp .lt 6, 3) := by decide +kernel
theorem dX9_planNow_347 : decode cX9_planNow 347 = .ok (.goto 11, 3) := by decide +kernel
theorem dX9_planNow_350 : decode cX9_planNow 350 = .ok (.iload 7, 2) := by decide +kernel
theorem dX9_planNow_352 : decode cX9_planNow 352 = .ok (.istore 5, 2) := by decide +kernel
theorem dX9_planNow_354 : decode cX9_planNow 354 = .ok (.iload 8, 2) := by decide +kernel
theorem dX9_planNow_356 : decode cX9_planNow 356 = .ok (.istore 6, 2) := by decide +kernel
theorem dX9_planNow_358 : decode cX9_planNow 358 = .ok (.iinc 7 1, 3) := by decide +kernel
theorem dX9_planNow_361 : decode cX9_planNow 361 = .ok (.goto (-98), 3) := by decide +kernel
theorem dX9_planNow_364 : decode cX9_planNow 364 = .ok (.aload_n 3, 1) := by decide +kernel
theorem dX9_planNow_365 : decode cX9_planNow 365 = .ok (.iload 4, 2) := by decide +kernel
theorem dX9_planNow_367 : decode cX9_planNow 367 = .ok (.iload 5, 2) := by decide +kernel
theorem dX9_planNow_369 : decode cX9_planNow 369 = .ok (.iastore, 1) := by decide +kernel
theorem dX9_planNow_370 : decode cX9_planNow 370 = .ok (.iload 4, 2) := by decide +kernel
theorem dX9_planNow_372 : decode cX9_planNow 372 = .ok (.ifCond .ne 11, 3) := by decide +kernel
theorem dX9_planNow_375 : decode cX9_planNow 375 = .ok (.aload_n 3, 1) := by decide +kernel
theorem dX9_planNow_376 : decode cX9_planNow 376 = .ok (.aload_n 0, 1) := by decide +kernel
theorem dX9_planNow_377 : decode cX9_planNow 377 = .ok (.getfield 54, 3) := by decide +kernel
theorem dX9_planNow_380 : decode cX9_planNow 380 = .ok (.iload 6, 2) := by decide +kernel
theorem dX9_planNow_382 : decode cX9_planNow 382 = .ok (.iastore, 1) := by decide +kernel
theorem dX9_planNow_383 : decode cX9_planNow 383 = .ok (.iinc 4 1, 3) := by decide +kernel
theorem dX9_planNow_386 : decode cX9_planNow 386 = .ok (.goto (-141), 3) := by decide +kernel
theorem dX9_planNow_389 : decode cX9_planNow 389 = .ok (.aload_n 3, 1) := by decide +kernel
theorem dX9_planNow_390 : decode cX9_planNow 390 = .ok (.areturn, 1) := by decide +kernel
theorem dX9_totalNow_0 : decode cX9_totalNow 0 = .ok (.aload_n 0, 1) := by decide +kernel
theorem dX9_totalNow_1 : decode cX9_totalNow 1 = .ok (.aload_n 0, 1) := by decide +kernel
theorem dX9_totalNow_2 : decode cX9_totalNow 2 = .ok (.invokevirtual 172, 3) := by decide +kernel
theorem dX9_totalNow_5 : decode cX9_totalNow 5 = .ok (.invokevirtual 176, 3) := by decide +kernel
theorem dX9_totalNow_8 : decode cX9_totalNow 8 = .ok (.astore_n 1, 1) := by decide +kernel
theorem dX9_totalNow_9 : decode cX9_totalNow 9 = .ok (.aload_n 1, 1) := by decide +kernel
theorem dX9_totalNow_10 : decode cX9_totalNow 10 = .ok (.arraylength, 1) := by decide +kernel
theorem dX9_totalNow_11 : decode cX9_totalNow 11 = .ok (.ifCond .ne 7, 3) := by decide +kernel
theorem dX9_totalNow_14 : decode cX9_totalNow 14 = .ok (.iconst (-1), 1) := by decide +kernel
theorem dX9_totalNow_15 : decode cX9_totalNow 15 = .ok (.goto 9, 3) := by decide +kernel
theorem dX9_totalNow_18 : decode cX9_totalNow 18 = .ok (.aload_n 1, 1) := by decide +kernel
theorem dX9_totalNow_19 : decode cX9_totalNow 19 = .ok (.aload_n 0, 1) := by decide +kernel
theorem dX9_totalNow_20 : decode cX9_totalNow 20 = .ok (.getfield 54, 3) := by decide +kernel
theorem dX9_totalNow_23 : decode cX9_totalNow 23 = .ok (.iaload, 1) := by decide +kernel
theorem dX9_totalNow_24 : decode cX9_totalNow 24 = .ok (.ireturn, 1) := by decide +kernel
theorem dX9_plan_0 : decode cX9_plan 0 = .ok (.aload_n 0, 1) := by decide +kernel
theorem dX9_plan_1 : decode cX9_plan 1 = .ok (.iconst 0, 1) := by decide +kernel
theorem dX9_plan_2 : decode cX9_plan 2 = .ok (.putfield 44, 3) := by decide +kernel
theorem dX9_plan_5 : decode cX9_plan 5 = .ok (.aload_n 0, 1) := by decide +kernel
theorem dX9_plan_6 : decode cX9_plan 6 = .ok (.iload_n 1, 1) := by decide +kernel
theorem dX9_plan_7 : decode cX9_plan 7 = .ok (.invokevirtual 76, 3) := by decide +kernel
theorem dX9_plan_10 : decode cX9_plan 10 = .ok (.ifCond .ne 9, 3) := by decide +kernel
theorem dX9_plan_13 : decode cX9_plan 13 = .ok (.aload_n 0, 1) := by decide +kernel
theorem dX9_plan_14 : decode cX9_plan 14 = .ok (.iconst 1, 1) := by decide +kernel
theorem dX9_plan_15 : decode cX9_plan 15 = .ok (.invokevirtual 57, 3) := by decide +kernel
theorem dX9_plan_18 : decode cX9_plan 18 = .ok (.ireturn, 1) := by decide +kernel
theorem dX9_plan_19 : decode cX9_plan 19 = .ok (.aload_n 0, 1) := by decide +kernel
theorem dX9_plan_20 : decode cX9_plan 20 = .ok (.aload_n 0, 1) := by decide +kernel
theorem dX9_plan_21 : decode cX9_plan 21 = .ok (.invokevirtual 172, 3) := by decide +kernel
theorem dX9_plan_24 : decode cX9_plan 24 = .ok (.invokevirtual 176, 3) := by decide +kernel
theorem dX9_plan_27 : decode cX9_plan 27 = .ok (.astore_n 2, 1) := by decide +kernel
theorem dX9_plan_28 : decode cX9_plan 28 = .ok (.aload_n 2, 1) := by decide +kernel
theorem dX9_plan_29 : decode cX9_plan 29 = .ok (.arraylength, 1) := by decide +kernel
theorem dX9_plan_30 : decode cX9_plan 30 = .ok (.ifCond .ne 7, 3) := by decide +kernel
theorem dX9_plan_33 : decode cX9_plan 33 = .ok (.iconst (-1), 1) := by decide +kernel
theorem dX9_plan_34 : decode cX9_plan 34 = .ok (.goto 6, 3) := by decide +kernel
theorem dX9_plan_37 : decode cX9_plan 37 = .ok (.aload_n 2, 1) := by decide +kernel
theorem dX9_plan_38 : decode cX9_plan 38 = .ok (.iload_n 1, 1) := by decide +kernel
theorem dX9_plan_39 : decode cX9_plan 39 = .ok (.iaload, 1) := by decide +kernel
theorem dX9_plan_40 : decode cX9_plan 40 = .ok (.ireturn, 1) := by decide +kernel
theorem dX9_total_0 : decode cX9_total 0 = .ok (.aload_n 0, 1) := by decide +kernel
theorem dX9_total_1 : decode cX9_total 1 = .ok (.iconst 0, 1) := by decide +kernel
theorem dX9_total_2 : decode cX9_total 2 = .ok (.putfield 44, 3) := by decide +kernel
theorem dX9_total_5 : decode cX9_total 5 = .ok (.aload_n 0, 1) := by decide +kernel
theorem dX9_total_6 : decode cX9_total 6 = .ok (.invokevirtual 180, 3) := by decide +kernel
theorem dX9_total_9 : decode cX9_total 9 = .ok (.ireturn, 1) := by decide +kernel
theorem dX9_hardestNow_0 : decode cX9_hardestNow 0 = .ok (.iconst (-1), 1) := by decide +kernel
theorem dX9_hardestNow_1 : decode cX9_hardestNow 1 = .ok (.istore_n 3, 1) := by decide +kernel
theorem dX9_hardestNow_2 : decode cX9_hardestNow 2 = .ok (.iconst (-1), 1) := by decide +kernel
theorem dX9_hardestNow_3 : decode cX9_hardestNow 3 = .ok (.istore 4, 2) := by decide +kernel
theorem dX9_hardestNow_5 : decode cX9_hardestNow 5 = .ok (.iconst 0, 1) := by decide +kernel
theorem dX9_hardestNow_6 : decode cX9_hardestNow 6 = .ok (.istore 5, 2) := by decide +kernel
theorem dX9_hardestNow_8 : decode cX9_hardestNow 8 = .ok (.iload 5, 2) := by decide +kernel
theorem dX9_hardestNow_10 : decode cX9_hardestNow 10 = .ok (.iconst 1, 1) := by decide +kernel
theorem dX9_hardestNow_11 : decode cX9_hardestNow 11 = .ok (.iadd, 1) := by decide +kernel
theorem dX9_hardestNow_12 : decode cX9_hardestNow 12 = .ok (.aload_n 0, 1) := by decide +kernel
theorem dX9_hardestNow_13 : decode cX9_hardestNow 13 = .ok (.getfield 54, 3) := by decide +kernel
theorem dX9_hardestNow_16 : decode cX9_hardestNow 16 = .ok (.if_icmp .ge 61, 3) := by decide +kernel
theorem dX9_hardestNow_19 : decode cX9_hardestNow 19 = .ok (.aload_n 2, 1) := by decide +kernel
theorem dX9_hardestNow_20 : decode cX9_hardestNow 20 = .ok (.arraylength, 1) := by decide +kernel
theorem dX9_hardestNow_21 : decode cX9_hardestNow 21 = .ok (.ifCond .le 56, 3) := by decide +kernel
theorem dX9_hardestNow_24 : decode cX9_hardestNow 24 = .ok (.aload_n 0, 1) := by decide +kernel
theorem dX9_hardestNow_25 : decode cX9_hardestNow 25 = .ok (.iload 5, 2) := by decide +kernel
theorem dX9_hardestNow_27 : decode cX9_hardestNow 27 = .ok (.aload_n 1, 1) := by decide +kernel
theorem dX9_hardestNow_28 : decode cX9_hardestNow 28 = .ok (.iload 5, 2) := by decide +kernel
theorem dX9_hardestNow_30 : decode cX9_hardestNow 30 = .ok (.aaload, 1) := by decide +kernel
theorem dX9_hardestNow_31 : decode cX9_hardestNow 31 = .ok (.aload_n 2, 1) := by decide +kernel
theorem dX9_hardestNow_32 : decode cX9_hardestNow 32 = .ok (.iload 5, 2) := by decide +kernel
theorem dX9_hardestNow_34 : decode cX9_hardestNow 34 = .ok (.iaload, 1) := by decide +kernel
theorem dX9_hardestNow_35 : decode cX9_hardestNow 35 = .ok (.aaload, 1) := by decide +kernel
theorem dX9_hardestNow_36 : decode cX9_hardestNow 36 = .ok (.aload_n 1, 1) := by decide +kernel
theorem dX9_hardestNow_37 : decode cX9_hardestNow 37 = .ok (.iload 5, 2) := by decide +kernel
theorem dX9_hardestNow_39 : decode cX9_hardestNow 39 = .ok (.iconst 1, 1) := by decide +kernel
theorem dX9_hardestNow_40 : decode cX9_hardestNow 40 = .ok (.iadd, 1) := by decide +kernel
theorem dX9_hardestNow_41 : decode cX9_hardestNow 41 = .ok (.aaload, 1) := by decide +kernel
theorem dX9_hardestNow_42 : decode cX9_hardestNow 42 = .ok (.aload_n 2, 1) := by decide +kernel
theorem dX9_hardestNow_43 : decode cX9_hardestNow 43 = .ok (.iload 5, 2) := by decide +kernel
theorem dX9_hardestNow_45 : decode cX9_hardestNow 45 = .ok (.iconst 1, 1) := by decide +kernel
theorem dX9_hardestNow_46 : decode cX9_hardestNow 46 = .ok (.iadd, 1) := by decide +kernel
theorem dX9_hardestNow_47 : decode cX9_hardestNow 47 = .ok (.iaload, 1) := by decide +kernel
theorem dX9_hardestNow_48 : decode cX9_hardestNow 48 = .ok (.aaload, 1) := by decide +kernel
theorem dX9_hardestNow_49 : decode cX9_hardestNow 49 = .ok (.invokevirtual 167, 3) := by decide +kernel
theorem dX9_hardestNow_52 : decode cX9_hardestNow 52 = .ok (.istore 6, 2) := by decide +kernel
theorem dX9_hardestNow_54 : decode cX9_hardestNow 54 = .ok (.iload 6, 2) := by decide +kernel
theorem dX9_hardestNow_56 : decode cX9_hardestNow 56 = .ok (.iload 4, 2) := by decide +kernel
theorem dX9_hardestNow_58 : decode cX9_hardestNow 58 = .ok (.if_icmp .gt 6, 3) := by decide +kernel
theorem dX9_hardestNow_61 : decode cX9_hardestNow 61 = .ok (.goto 10, 3) := by decide +kernel
theorem dX9_hardestNow_64 : decode cX9_hardestNow 64 = .ok (.iload 6, 2) := by decide +kernel
theorem dX9_hardestNow_66 : decode cX9_hardestNow 66 = .ok (.istore 4, 2) := by decide +kernel
theorem dX9_hardestNow_68 : decode cX9_hardestNow 68 = .ok (.iload 5, 2) := by decide +kernel
theorem dX9_hardestNow_70 : decode cX9_hardestNow 70 = .ok (.istore_n 3, 1) := by decide +kernel
theorem dX9_hardestNow_71 : decode cX9_hardestNow 71 = .ok (.iinc 5 1, 3) := by decide +kernel
theorem dX9_hardestNow_74 : decode cX9_hardestNow 74 = .ok (.goto (-66), 3) := by decide +kernel
theorem dX9_hardestNow_77 : decode cX9_hardestNow 77 = .ok (.iload_n 3, 1) := by decide +kernel
theorem dX9_hardestNow_78 : decode cX9_hardestNow 78 = .ok (.ireturn, 1) := by decide +kernel
theorem dX9_hardest_0 : decode cX9_hardest 0 = .ok (.aload_n 0, 1) := by decide +kernel
theorem dX9_hardest_1 : decode cX9_hardest 1 = .ok (.iconst 0, 1) := by decide +kernel
theorem dX9_hardest_2 : decode cX9_hardest 2 = .ok (.putfield 44, 3) := by decide +kernel
theorem dX9_hardest_5 : decode cX9_hardest 5 = .ok (.aload_n 0, 1) := by decide +kernel
theorem dX9_hardest_6 : decode cX9_hardest 6 = .ok (.invokevirtual 172, 3) := by decide +kernel
theorem dX9_hardest_9 : decode cX9_hardest 9 = .ok (.astore_n 1, 1) := by decide +kernel
theorem dX9_hardest_10 : decode cX9_hardest 10 = .ok (.aload_n 0, 1) := by decide +kernel
theorem dX9_hardest_11 : decode cX9_hardest 11 = .ok (.aload_n 1, 1) := by decide +kernel
theorem dX9_hardest_12 : decode cX9_hardest 12 = .ok (.aload_n 0, 1) := by decide +kernel
theorem dX9_hardest_13 : decode cX9_hardest 13 = .ok (.aload_n 1, 1) := by decide +kernel
theorem dX9_hardest_14 : decode cX9_hardest 14 = .ok (.invokevirtual 176, 3) := by decide +kernel
theorem dX9_hardest_17 : decode cX9_hardest 17 = .ok (.invokevirtual 183, 3) := by decide +kernel
theorem dX9_hardest_20 : decode cX9_hardest 20 = .ok (.ireturn, 1) := by decide +kernel
theorem dX9_manyNow_0 : decode cX9_manyNow 0 = .ok (.iconst 0, 1) := by decide +kernel
theorem dX9_manyNow_1 : decode cX9_manyNow 1 = .ok (.istore 4, 2) := by decide +kernel
theorem dX9_manyNow_3 : decode cX9_manyNow 3 = .ok (.iload_n 1, 1) := by decide +kernel
theorem dX9_manyNow_4 : decode cX9_manyNow 4 = .ok (.tableswitch 164 0 6 #[44, 49, 54, 59, 64, 69, 119], 44) := by decide +kernel
theorem dX9_manyNow_48 : decode cX9_manyNow 48 = .ok (.aload_n 0, 1) := by decide +kernel
theorem dX9_manyNow_49 : decode cX9_manyNow 49 = .ok (.getfield 47, 3) := by decide +kernel
theorem dX9_manyNow_52 : decode cX9_manyNow 52 = .ok (.ireturn, 1) := by decide +kernel
theorem dX9_manyNow_53 : decode cX9_manyNow 53 = .ok (.aload_n 0, 1) := by decide +kernel
theorem dX9_manyNow_54 : decode cX9_manyNow 54 = .ok (.invokevirtual 65, 3) := by decide +kernel
theorem dX9_manyNow_57 : decode cX9_manyNow 57 = .ok (.ireturn, 1) := by decide +kernel
theorem dX9_manyNow_58 : decode cX9_manyNow 58 = .ok (.aload_n 0, 1) := by decide +kernel
theorem dX9_manyNow_59 : decode cX9_manyNow 59 = .ok (.getfield 69, 3) := by decide +kernel
theorem dX9_manyNow_62 : decode cX9_manyNow 62 = .ok (.ireturn, 1) := by decide +kernel
theorem dX9_manyNow_63 : decode cX9_manyNow 63 = .ok (.aload_n 0, 1) := by decide +kernel
theorem dX9_manyNow_64 : decode cX9_manyNow 64 = .ok (.getfield 17, 3) := by decide +kernel
theorem dX9_manyNow_67 : decode cX9_manyNow 67 = .ok (.ireturn, 1) := by decide +kernel
theorem dX9_manyNow_68 : decode cX9_manyNow 68 = .ok (.aload_n 0, 1) := by decide +kernel
theorem dX9_manyNow_69 : decode cX9_manyNow 69 = .ok (.getfield 54, 3) := by decide +kernel
theorem dX9_manyNow_72 : decode cX9_manyNow 72 = .ok (.ireturn, 1) := by decide +kernel
theorem dX9_manyNow_73 : decode cX9_manyNow 73 = .ok (.aload_n 2, 1) := by decide +kernel
theorem dX9_manyNow_74 : decode cX9_manyNow 74 = .ok (.astore 5, 2) := by decide +kernel
theorem dX9_manyNow_76 : decode cX9_manyNow 76 = .ok (.aload 5, 2) := by decide +kernel
theorem dX9_manyNow_78 : decode cX9_manyNow 78 = .ok (.arraylength, 1) := by decide +kernel
theorem dX9_manyNow_79 : decode cX9_manyNow 79 = .ok (.istore 6, 2) := by decide +kernel
theorem dX9_manyNow_81 : decode cX9_manyNow 81 = .ok (.iconst 0, 1) := by decide +kernel
theorem dX9_manyNow_82 : decode cX9_manyNow 82 = .ok (.istore 7, 2) := by decide +kernel
theorem dX9_manyNow_84 : decode cX9_manyNow 84 = .ok (.iload 7, 2) := by decide +kernel
theorem dX9_manyNow_86 : decode cX9_manyNow 86 = .ok (.iload 6, 2) := by decide +kernel
theorem dX9_manyNow_88 : decode cX9_manyNow 88 = .ok (.if_icmp .ge 32, 3) := by decide +kernel
theorem dX9_manyNow_91 : decode cX9_manyNow 91 = .ok (.aload 5, 2) := by decide +kernel
theorem dX9_manyNow_93 : decode cX9_manyNow 93 = .ok (.iload 7, 2) := by decide +kernel
theorem dX9_manyNow_95 : decode cX9_manyNow 95 = .ok (.aaload, 1) := by decide +kernel
theorem dX9_manyNow_96 : decode cX9_manyNow 96 = .ok (.astore 8, 2) := by decide +kernel
theorem dX9_manyNow_98 : decode cX9_manyNow 98 = .ok (.iload 4, 2) := by decide +kernel
theorem dX9_manyNow_100 : decode cX9_manyNow 100 = .ok (.aload 8, 2) := by decide +kernel
theorem dX9_manyNow_102 : decode cX9_manyNow 102 = .ok (.arraylength, 1) := by decide +kernel
theorem dX9_manyNow_103 : decode cX9_manyNow 103 = .ok (.ifCond .ne 7, 3) := by decide +kernel
theorem dX9_manyNow_106 : decode cX9_manyNow 106 = .ok (.iconst 1, 1) := by decide +kernel
theorem dX9_manyNow_107 : decode cX9_manyNow 107 = .ok (.goto 4, 3) := by decide +kernel
theorem dX9_manyNow_110 : decode cX9_manyNow 110 = .ok (.iconst 0, 1) := by decide +kernel
theorem dX9_manyNow_111 : decode cX9_manyNow 111 = .ok (.iadd, 1) := by decide +kernel
theorem dX9_manyNow_112 : decode cX9_manyNow 112 = .ok (.istore 4, 2) := by decide +kernel
theorem dX9_manyNow_114 : decode cX9_manyNow 114 = .ok (.iinc 7 1, 3) := by decide +kernel
theorem dX9_manyNow_117 : decode cX9_manyNow 117 = .ok (.goto (-33), 3) := by decide +kernel
theorem dX9_manyNow_120 : decode cX9_manyNow 120 = .ok (.iload 4, 2) := by decide +kernel
theorem dX9_manyNow_122 : decode cX9_manyNow 122 = .ok (.ireturn, 1) := by decide +kernel
theorem dX9_manyNow_123 : decode cX9_manyNow 123 = .ok (.iconst 0, 1) := by decide +kernel
theorem dX9_manyNow_124 : decode cX9_manyNow 124 = .ok (.istore 5, 2) := by decide +kernel
theorem dX9_manyNow_126 : decode cX9_manyNow 126 = .ok (.iload 5, 2) := by decide +kernel
theorem dX9_manyNow_128 : decode cX9_manyNow 128 = .ok (.aload_n 0, 1) := by decide +kernel
theorem dX9_manyNow_129 : decode cX9_manyNow 129 = .ok (.getfield 54, 3) := by decide +kernel
theorem dX9_manyNow_132 : decode cX9_manyNow 132 = .ok (.if_icmp .ge 33, 3) := by decide +kernel
theorem dX9_manyNow_135 : decode cX9_manyNow 135 = .ok (.iload 4, 2) := by decide +kernel
theorem dX9_manyNow_137 : decode cX9_manyNow 137 = .ok (.aload_n 0, 1) := by decide +kernel
theorem dX9_manyNow_138 : decode cX9_manyNow 138 = .ok (.iload 5, 2) := by decide +kernel
theorem dX9_manyNow_140 : decode cX9_manyNow 140 = .ok (.aload_n 2, 1) := by decide +kernel
theorem dX9_manyNow_141 : decode cX9_manyNow 141 = .ok (.iload 5, 2) := by decide +kernel
theorem dX9_manyNow_143 : decode cX9_manyNow 143 = .ok (.aaload, 1) := by decide +kernel
theorem dX9_manyNow_144 : decode cX9_manyNow 144 = .ok (.invokevirtual 150, 3) := by decide +kernel
theorem dX9_manyNow_147 : decode cX9_manyNow 147 = .ok (.iconst (-1), 1) := by decide +kernel
theorem dX9_manyNow_148 : decode cX9_manyNow 148 = .ok (.if_icmp .ne 7, 3) := by decide +kernel
theorem dX9_manyNow_151 : decode cX9_manyNow 151 = .ok (.iconst 0, 1) := by decide +kernel
theorem dX9_manyNow_152 : decode cX9_manyNow 152 = .ok (.goto 4, 3) := by decide +kernel
theorem dX9_manyNow_155 : decode cX9_manyNow 155 = .ok (.iconst 1, 1) := by decide +kernel
theorem dX9_manyNow_156 : decode cX9_manyNow 156 = .ok (.iadd, 1) := by decide +kernel
theorem dX9_manyNow_157 : decode cX9_manyNow 157 = .ok (.istore 4, 2) := by decide +kernel
theorem dX9_manyNow_159 : decode cX9_manyNow 159 = .ok (.iinc 5 1, 3) := by decide +kernel
theorem dX9_manyNow_162 : decode cX9_manyNow 162 = .ok (.goto (-36), 3) := by decide +kernel
theorem dX9_manyNow_165 : decode cX9_manyNow 165 = .ok (.iload 4, 2) := by decide +kernel
theorem dX9_manyNow_167 : decode cX9_manyNow 167 = .ok (.ireturn, 1) := by decide +kernel
theorem dX9_manyNow_168 : decode cX9_manyNow 168 = .ok (.iconst 0, 1) := by decide +kernel
theorem dX9_manyNow_169 : decode cX9_manyNow 169 = .ok (.istore 5, 2) := by decide +kernel
theorem dX9_manyNow_171 : decode cX9_manyNow 171 = .ok (.iload 5, 2) := by decide +kernel
theorem dX9_manyNow_173 : decode cX9_manyNow 173 = .ok (.iconst 1, 1) := by decide +kernel
theorem dX9_manyNow_174 : decode cX9_manyNow 174 = .ok (.iadd, 1) := by decide +kernel
theorem dX9_manyNow_175 : decode cX9_manyNow 175 = .ok (.aload_n 0, 1) := by decide +kernel
theorem dX9_manyNow_176 : decode cX9_manyNow 176 = .ok (.getfield 54, 3) := by decide +kernel
theorem dX9_manyNow_179 : decode cX9_manyNow 179 = .ok (.if_icmp .ge 47, 3) := by decide +kernel
theorem dX9_manyNow_182 : decode cX9_manyNow 182 = .ok (.aload_n 3, 1) := by decide +kernel
theorem dX9_manyNow_183 : decode cX9_manyNow 183 = .ok (.arraylength, 1) := by decide +kernel
theorem dX9_manyNow_184 : decode cX9_manyNow 184 = .ok (.ifCond .le 42, 3) := by decide +kernel
theorem dX9_manyNow_187 : decode cX9_manyNow 187 = .ok (.iload 4, 2) := by decide +kernel
theorem dX9_manyNow_189 : decode cX9_manyNow 189 = .ok (.aload_n 0, 1) := by decide +kernel
theorem dX9_manyNow_190 : decode cX9_manyNow 190 = .ok (.iload 5, 2) := by decide +kernel
theorem dX9_manyNow_192 : decode cX9_manyNow 192 = .ok (.aload_n 2, 1) := by decide +kernel
theorem dX9_manyNow_193 : decode cX9_manyNow 193 = .ok (.iload 5, 2) := by decide +kernel
theorem dX9_manyNow_195 : decode cX9_manyNow 195 = .ok (.aaload, 1) := by decide +kernel
theorem dX9_manyNow_196 : decode cX9_manyNow 196 = .ok (.aload_n 3, 1) := by decide +kernel
theorem dX9_manyNow_197 : decode cX9_manyNow 197 = .ok (.iload 5, 2) := by decide +kernel
theorem dX9_manyNow_199 : decode cX9_manyNow 199 = .ok (.iaload, 1) := by decide +kernel
theorem dX9_manyNow_200 : decode cX9_manyNow 200 = .ok (.aaload, 1) := by decide +kernel
theorem dX9_manyNow_201 : decode cX9_manyNow 201 = .ok (.aload_n 2, 1) := by decide +kernel
theorem dX9_manyNow_202 : decode cX9_manyNow 202 = .ok (.iload 5, 2) := by decide +kernel
theorem dX9_manyNow_204 : decode cX9_manyNow 204 = .ok (.iconst 1, 1) := by decide +kernel
theorem dX9_manyNow_205 : decode cX9_manyNow 205 = .ok (.iadd, 1) := by decide +kernel
theorem dX9_manyNow_206 : decode cX9_manyNow 206 = .ok (.aaload, 1) := by decide +kernel
theorem dX9_manyNow_207 : decode cX9_manyNow 207 = .ok (.aload_n 3, 1) := by decide +kernel
theorem dX9_manyNow_208 : decode cX9_manyNow 208 = .ok (.iload 5, 2) := by decide +kernel
theorem dX9_manyNow_210 : decode cX9_manyNow 210 = .ok (.iconst 1, 1) := by decide +kernel
theorem dX9_manyNow_211 : decode cX9_manyNow 211 = .ok (.iadd, 1) := by decide +kernel
theorem dX9_manyNow_212 : decode cX9_manyNow 212 = .ok (.iaload, 1) := by decide +kernel
theorem dX9_manyNow_213 : decode cX9_manyNow 213 = .ok (.aaload, 1) := by decide +kernel
theorem dX9_manyNow_214 : decode cX9_manyNow 214 = .ok (.invokevirtual 167, 3) := by decide +kernel
theorem dX9_manyNow_217 : decode cX9_manyNow 217 = .ok (.iadd, 1) := by decide +kernel
theorem dX9_manyNow_218 : decode cX9_manyNow 218 = .ok (.istore 4, 2) := by decide +kernel
theorem dX9_manyNow_220 : decode cX9_manyNow 220 = .ok (.iinc 5 1, 3) := by decide +kernel
theorem dX9_manyNow_223 : decode cX9_manyNow 223 = .ok (.goto (-52), 3) := by decide +kernel
theorem dX9_manyNow_226 : decode cX9_manyNow 226 = .ok (.aload_n 3, 1) := by decide +kernel
theorem dX9_manyNow_227 : decode cX9_manyNow 227 = .ok (.arraylength, 1) := by decide +kernel
theorem dX9_manyNow_228 : decode cX9_manyNow 228 = .ok (.ifCond .ne 7, 3) := by decide +kernel
theorem dX9_manyNow_231 : decode cX9_manyNow 231 = .ok (.iconst (-1), 1) := by decide +kernel
theorem dX9_manyNow_232 : decode cX9_manyNow 232 = .ok (.goto 5, 3) := by decide +kernel
theorem dX9_manyNow_235 : decode cX9_manyNow 235 = .ok (.iload 4, 2) := by decide +kernel
theorem dX9_manyNow_237 : decode cX9_manyNow 237 = .ok (.ireturn, 1) := by decide +kernel
theorem dX9_many_0 : decode cX9_many 0 = .ok (.aload_n 0, 1) := by decide +kernel
theorem dX9_many_1 : decode cX9_many 1 = .ok (.iconst 0, 1) := by decide +kernel
theorem dX9_many_2 : decode cX9_many 2 = .ok (.putfield 44, 3) := by decide +kernel
theorem dX9_many_5 : decode cX9_many 5 = .ok (.iload_n 1, 1) := by decide +kernel
theorem dX9_many_6 : decode cX9_many 6 = .ok (.iconst 0, 1) := by decide +kernel
theorem dX9_many_7 : decode cX9_many 7 = .ok (.bipush 7, 2) := by decide +kernel
theorem dX9_many_9 : decode cX9_many 9 = .ok (.invokestatic 50, 3) := by decide +kernel
theorem dX9_many_12 : decode cX9_many 12 = .ok (.ifCond .ne 9, 3) := by decide +kernel
theorem dX9_many_15 : decode cX9_many 15 = .ok (.aload_n 0, 1) := by decide +kernel
theorem dX9_many_16 : decode cX9_many 16 = .ok (.iconst 1, 1) := by decide +kernel
theorem dX9_many_17 : decode cX9_many 17 = .ok (.invokevirtual 57, 3) := by decide +kernel
theorem dX9_many_20 : decode cX9_many 20 = .ok (.ireturn, 1) := by decide +kernel
theorem dX9_many_21 : decode cX9_many 21 = .ok (.aload_n 0, 1) := by decide +kernel
theorem dX9_many_22 : decode cX9_many 22 = .ok (.invokevirtual 172, 3) := by decide +kernel
theorem dX9_many_25 : decode cX9_many 25 = .ok (.astore_n 2, 1) := by decide +kernel
theorem dX9_many_26 : decode cX9_many 26 = .ok (.aload_n 0, 1) := by decide +kernel
theorem dX9_many_27 : decode cX9_many 27 = .ok (.iload_n 1, 1) := by decide +kernel
theorem dX9_many_28 : decode cX9_many 28 = .ok (.aload_n 2, 1) := by decide +kernel
theorem dX9_many_29 : decode cX9_many 29 = .ok (.aload_n 0, 1) := by decide +kernel
theorem dX9_many_30 : decode cX9_many 30 = .ok (.aload_n 2, 1) := by decide +kernel
theorem dX9_many_31 : decode cX9_many 31 = .ok (.invokevirtual 176, 3) := by decide +kernel
theorem dX9_many_34 : decode cX9_many 34 = .ok (.invokevirtual 187, 3) := by decide +kernel
theorem dX9_many_37 : decode cX9_many 37 = .ok (.ireturn, 1) := by decide +kernel
theorem dX9_meanEffort_0 : decode cX9_meanEffort 0 = .ok (.aload_n 0, 1) := by decide +kernel
theorem dX9_meanEffort_1 : decode cX9_meanEffort 1 = .ok (.iconst 0, 1) := by decide +kernel
theorem dX9_meanEffort_2 : decode cX9_meanEffort 2 = .ok (.putfield 44, 3) := by decide +kernel
theorem dX9_meanEffort_5 : decode cX9_meanEffort 5 = .ok (.aload_n 0, 1) := by decide +kernel
theorem dX9_meanEffort_6 : decode cX9_meanEffort 6 = .ok (.invokevirtual 180, 3) := by decide +kernel
theorem dX9_meanEffort_9 : decode cX9_meanEffort 9 = .ok (.istore_n 1, 1) := by decide +kernel
theorem dX9_meanEffort_10 : decode cX9_meanEffort 10 = .ok (.iconst 0, 1) := by decide +kernel
theorem dX9_meanEffort_11 : decode cX9_meanEffort 11 = .ok (.istore_n 2, 1) := by decide +kernel
theorem dX9_meanEffort_12 : decode cX9_meanEffort 12 = .ok (.iconst 0, 1) := by decide +kernel
theorem dX9_meanEffort_13 : decode cX9_meanEffort 13 = .ok (.istore_n 3, 1) := by decide +kernel
theorem dX9_meanEffort_14 : decode cX9_meanEffort 14 = .ok (.iload_n 3, 1) := by decide +kernel
theorem dX9_meanEffort_15 : decode cX9_meanEffort 15 = .ok (.aload_n 0, 1) := by decide +kernel
theorem dX9_meanEffort_16 : decode cX9_meanEffort 16 = .ok (.getfield 54, 3) := by decide +kernel
theorem dX9_meanEffort_19 : decode cX9_meanEffort 19 = .ok (.if_icmp .ge 18, 3) := by decide +kernel
theorem dX9_meanEffort_22 : decode cX9_meanEffort 22 = .ok (.iload_n 2, 1) := by decide +kernel
theorem dX9_meanEffort_23 : decode cX9_meanEffort 23 = .ok (.aload_n 0, 1) := by decide +kernel
theorem dX9_meanEffort_24 : decode cX9_meanEffort 24 = .ok (.getfield 26, 3) := by decide +kernel
theorem dX9_meanEffort_27 : decode cX9_meanEffort 27 = .ok (.iload_n 3, 1) := by decide +kernel
theorem dX9_meanEffort_28 : decode cX9_meanEffort 28 = .ok (.iaload, 1) := by decide +kernel
theorem dX9_meanEffort_29 : decode cX9_meanEffort 29 = .ok (.iadd, 1) := by decide +kernel
theorem dX9_meanEffort_30 : decode cX9_meanEffort 30 = .ok (.istore_n 2, 1) := by decide +kernel
theorem dX9_meanEffort_31 : decode cX9_meanEffort 31 = .ok (.iinc 3 1, 3) := by decide +kernel
theorem dX9_meanEffort_34 : decode cX9_meanEffort 34 = .ok (.goto (-20), 3) := by decide +kernel
theorem dX9_meanEffort_37 : decode cX9_meanEffort 37 = .ok (.iload_n 1, 1) := by decide +kernel
theorem dX9_meanEffort_38 : decode cX9_meanEffort 38 = .ok (.iconst (-1), 1) := by decide +kernel
theorem dX9_meanEffort_39 : decode cX9_meanEffort 39 = .ok (.if_icmp .ne 7, 3) := by decide +kernel
theorem dX9_meanEffort_42 : decode cX9_meanEffort 42 = .ok (.dconst 0, 1) := by decide +kernel
theorem dX9_meanEffort_43 : decode cX9_meanEffort 43 = .ok (.goto 8, 3) := by decide +kernel
theorem dX9_meanEffort_46 : decode cX9_meanEffort 46 = .ok (.iload_n 1, 1) := by decide +kernel
theorem dX9_meanEffort_47 : decode cX9_meanEffort 47 = .ok (.i2d, 1) := by decide +kernel
theorem dX9_meanEffort_48 : decode cX9_meanEffort 48 = .ok (.iload_n 2, 1) := by decide +kernel
theorem dX9_meanEffort_49 : decode cX9_meanEffort 49 = .ok (.i2d, 1) := by decide +kernel
theorem dX9_meanEffort_50 : decode cX9_meanEffort 50 = .ok (.ddiv, 1) := by decide +kernel
theorem dX9_meanEffort_51 : decode cX9_meanEffort 51 = .ok (.dreturn, 1) := by decide +kernel
theorem dX9_isVoicing_0 : decode cX9_isVoicing 0 = .ok (.iload_n 0, 1) := by decide +kernel
theorem dX9_isVoicing_1 : decode cX9_isVoicing 1 = .ok (.iconst 1, 1) := by decide +kernel
theorem dX9_isVoicing_2 : decode cX9_isVoicing 2 = .ok (.sipush 4095, 3) := by decide +kernel
theorem dX9_isVoicing_5 : decode cX9_isVoicing 5 = .ok (.invokestatic 50, 3) := by decide +kernel
theorem dX9_isVoicing_8 : decode cX9_isVoicing 8 = .ok (.ifCond .eq 23, 3) := by decide +kernel
theorem dX9_isVoicing_11 : decode cX9_isVoicing 11 = .ok (.iload_n 1, 1) := by decide +kernel
theorem dX9_isVoicing_12 : decode cX9_isVoicing 12 = .ok (.iconst 0, 1) := by decide +kernel
theorem dX9_isVoicing_13 : decode cX9_isVoicing 13 = .ok (.bipush 11, 2) := by decide +kernel
theorem dX9_isVoicing_15 : decode cX9_isVoicing 15 = .ok (.invokestatic 50, 3) := by decide +kernel
theorem dX9_isVoicing_18 : decode cX9_isVoicing 18 = .ok (.ifCond .eq 13, 3) := by decide +kernel
theorem dX9_isVoicing_21 : decode cX9_isVoicing 21 = .ok (.iload_n 2, 1) := by decide +kernel
theorem dX9_isVoicing_22 : decode cX9_isVoicing 22 = .ok (.iconst 1, 1) := by decide +kernel
theorem dX9_isVoicing_23 : decode cX9_isVoicing 23 = .ok (.bipush 9, 2) := by decide +kernel
theorem dX9_isVoicing_25 : decode cX9_isVoicing 25 = .ok (.invokestatic 50, 3) := by decide +kernel
theorem dX9_isVoicing_28 : decode cX9_isVoicing 28 = .ok (.ifCond .ne 5, 3) := by decide +kernel
theorem dX9_isVoicing_31 : decode cX9_isVoicing 31 = .ok (.iconst 0, 1) := by decide +kernel
theorem dX9_isVoicing_32 : decode cX9_isVoicing 32 = .ok (.ireturn, 1) := by decide +kernel
theorem dX9_isVoicing_33 : decode cX9_isVoicing 33 = .ok (.iconst 0, 1) := by decide +kernel
theorem dX9_isVoicing_34 : decode cX9_isVoicing 34 = .ok (.istore_n 3, 1) := by decide +kernel
theorem dX9_isVoicing_35 : decode cX9_isVoicing 35 = .ok (.iconst 0, 1) := by decide +kernel
theorem dX9_isVoicing_36 : decode cX9_isVoicing 36 = .ok (.istore 4, 2) := by decide +kernel
theorem dX9_isVoicing_38 : decode cX9_isVoicing 38 = .ok (.iload 4, 2) := by decide +kernel
theorem dX9_isVoicing_40 : decode cX9_isVoicing 40 = .ok (.bipush 12, 2) := by decide +kernel
theorem dX9_isVoicing_42 : decode cX9_isVoicing 42 = .ok (.if_icmp .ge 18, 3) := by decide +kernel
theorem dX9_isVoicing_45 : decode cX9_isVoicing 45 = .ok (.iload_n 3, 1) := by decide +kernel
theorem dX9_isVoicing_46 : decode cX9_isVoicing 46 = .ok (.iload_n 0, 1) := by decide +kernel
theorem dX9_isVoicing_47 : decode cX9_isVoicing 47 = .ok (.iload 4, 2) := by decide +kernel
theorem dX9_isVoicing_49 : decode cX9_isVoicing 49 = .ok (.ishr, 1) := by decide +kernel
theorem dX9_isVoicing_50 : decode cX9_isVoicing 50 = .ok (.iconst 1, 1) := by decide +kernel
theorem dX9_isVoicing_51 : decode cX9_isVoicing 51 = .ok (.iand, 1) := by decide +kernel
theorem dX9_isVoicing_52 : decode cX9_isVoicing 52 = .ok (.iadd, 1) := by decide +kernel
theorem dX9_isVoicing_53 : decode cX9_isVoicing 53 = .ok (.istore_n 3, 1) := by decide +kernel
theorem dX9_isVoicing_54 : decode cX9_isVoicing 54 = .ok (.iinc 4 1, 3) := by decide +kernel
theorem dX9_isVoicing_57 : decode cX9_isVoicing 57 = .ok (.goto (-19), 3) := by decide +kernel
theorem dX9_isVoicing_60 : decode cX9_isVoicing 60 = .ok (.iload_n 3, 1) := by decide +kernel
theorem dX9_isVoicing_61 : decode cX9_isVoicing 61 = .ok (.iconst 4, 1) := by decide +kernel
theorem dX9_isVoicing_62 : decode cX9_isVoicing 62 = .ok (.if_icmp .gt 16, 3) := by decide +kernel
theorem dX9_isVoicing_65 : decode cX9_isVoicing 65 = .ok (.iload_n 0, 1) := by decide +kernel
theorem dX9_isVoicing_66 : decode cX9_isVoicing 66 = .ok (.iload_n 1, 1) := by decide +kernel
theorem dX9_isVoicing_67 : decode cX9_isVoicing 67 = .ok (.ishr, 1) := by decide +kernel
theorem dX9_isVoicing_68 : decode cX9_isVoicing 68 = .ok (.iconst 1, 1) := by decide +kernel
theorem dX9_isVoicing_69 : decode cX9_isVoicing 69 = .ok (.iand, 1) := by decide +kernel
theorem dX9_isVoicing_70 : decode cX9_isVoicing 70 = .ok (.iconst 1, 1) := by decide +kernel
theorem dX9_isVoicing_71 : decode cX9_isVoicing 71 = .ok (.if_icmp .ne 7, 3) := by decide +kernel
theorem dX9_isVoicing_74 : decode cX9_isVoicing 74 = .ok (.iconst 1, 1) := by decide +kernel
theorem dX9_isVoicing_75 : decode cX9_isVoicing 75 = .ok (.goto 4, 3) := by decide +kernel
theorem dX9_isVoicing_78 : decode cX9_isVoicing 78 = .ok (.iconst 0, 1) := by decide +kernel
theorem dX9_isVoicing_79 : decode cX9_isVoicing 79 = .ok (.ireturn, 1) := by decide +kernel
theorem dX9_pitchOf_0 : decode cX9_pitchOf 0 = .ok (.aload_n 0, 1) := by decide +kernel
theorem dX9_pitchOf_1 : decode cX9_pitchOf 1 = .ok (.getfield 9, 3) := by decide +kernel
theorem dX9_pitchOf_4 : decode cX9_pitchOf 4 = .ok (.iload_n 1, 1) := by decide +kernel
theorem dX9_pitchOf_5 : decode cX9_pitchOf 5 = .ok (.iaload, 1) := by decide +kernel
theorem dX9_pitchOf_6 : decode cX9_pitchOf 6 = .ok (.aload_n 0, 1) := by decide +kernel
theorem dX9_pitchOf_7 : decode cX9_pitchOf 7 = .ok (.getfield 69, 3) := by decide +kernel
theorem dX9_pitchOf_10 : decode cX9_pitchOf 10 = .ok (.iadd, 1) := by decide +kernel
theorem dX9_pitchOf_11 : decode cX9_pitchOf 11 = .ok (.iload_n 2, 1) := by decide +kernel
theorem dX9_pitchOf_12 : decode cX9_pitchOf 12 = .ok (.iadd, 1) := by decide +kernel
theorem dX9_pitchOf_13 : decode cX9_pitchOf 13 = .ok (.ireturn, 1) := by decide +kernel
theorem dX9_goOn_0 : decode cX9_goOn 0 = .ok (.iload 4, 2) := by decide +kernel
theorem dX9_goOn_2 : decode cX9_goOn 2 = .ok (.aload_n 0, 1) := by decide +kernel
theorem dX9_goOn_3 : decode cX9_goOn 3 = .ok (.getfield 47, 3) := by decide +kernel
theorem dX9_goOn_6 : decode cX9_goOn 6 = .ok (.if_icmp .ne 65, 3) := by decide +kernel
theorem dX9_goOn_9 : decode cX9_goOn 9 = .ok (.iload 6, 2) := by decide +kernel
theorem dX9_goOn_11 : decode cX9_goOn 11 = .ok (.iload_n 1, 1) := by decide +kernel
theorem dX9_goOn_12 : decode cX9_goOn 12 = .ok (.if_icmp .ne 21, 3) := by decide +kernel
theorem dX9_goOn_15 : decode cX9_goOn 15 = .ok (.iload 7, 2) := by decide +kernel
theorem dX9_goOn_17 : decode cX9_goOn 17 = .ok (.bipush 12, 2) := by decide +kernel
theorem dX9_goOn_19 : decode cX9_goOn 19 = .ok (.irem, 1) := by decide +kernel
theorem dX9_goOn_20 : decode cX9_goOn 20 = .ok (.iload_n 2, 1) := by decide +kernel
theorem dX9_goOn_21 : decode cX9_goOn 21 = .ok (.if_icmp .ne 12, 3) := by decide +kernel
theorem dX9_goOn_24 : decode cX9_goOn 24 = .ok (.aload_n 0, 1) := by decide +kernel
theorem dX9_goOn_25 : decode cX9_goOn 25 = .ok (.aload 5, 2) := by decide +kernel
theorem dX9_goOn_27 : decode cX9_goOn 27 = .ok (.invokevirtual 131, 3) := by decide +kernel
theorem dX9_goOn_30 : decode cX9_goOn 30 = .ok (.ifCond .ne 4, 3) := by decide +kernel
theorem dX9_goOn_33 : decode cX9_goOn 33 = .ok (.return_, 1) := by decide +kernel
theorem dX9_goOn_34 : decode cX9_goOn 34 = .ok (.aload_n 0, 1) := by decide +kernel
theorem dX9_goOn_35 : decode cX9_goOn 35 = .ok (.dup, 1) := by decide +kernel
theorem dX9_goOn_36 : decode cX9_goOn 36 = .ok (.getfield 191, 3) := by decide +kernel
theorem dX9_goOn_39 : decode cX9_goOn 39 = .ok (.iconst 1, 1) := by decide +kernel
theorem dX9_goOn_40 : decode cX9_goOn 40 = .ok (.iadd, 1) := by decide +kernel
theorem dX9_goOn_41 : decode cX9_goOn 41 = .ok (.putfield 191, 3) := by decide +kernel
theorem dX9_goOn_44 : decode cX9_goOn 44 = .ok (.aload_n 0, 1) := by decide +kernel
theorem dX9_goOn_45 : decode cX9_goOn 45 = .ok (.getfield 41, 3) := by decide +kernel
theorem dX9_goOn_48 : decode cX9_goOn 48 = .ok (.arraylength, 1) := by decide +kernel
theorem dX9_goOn_49 : decode cX9_goOn 49 = .ok (.ifCond .eq 12, 3) := by decide +kernel
theorem dX9_goOn_52 : decode cX9_goOn 52 = .ok (.aload_n 0, 1) := by decide +kernel
theorem dX9_goOn_53 : decode cX9_goOn 53 = .ok (.aload 5, 2) := by decide +kernel
theorem dX9_goOn_55 : decode cX9_goOn 55 = .ok (.invokevirtual 194, 3) := by decide +kernel
theorem dX9_goOn_58 : decode cX9_goOn 58 = .ok (.ifCond .eq 12, 3) := by decide +kernel
theorem dX9_goOn_61 : decode cX9_goOn 61 = .ok (.aload_n 0, 1) := by decide +kernel
theorem dX9_goOn_62 : decode cX9_goOn 62 = .ok (.aload 5, 2) := by decide +kernel
theorem dX9_goOn_64 : decode cX9_goOn 64 = .ok (.invokestatic 127, 3) := by decide +kernel
theorem dX9_goOn_67 : decode cX9_goOn 67 = .ok (.putfield 41, 3) := by decide +kernel
theorem dX9_goOn_70 : decode cX9_goOn 70 = .ok (.return_, 1) := by decide +kernel
theorem dX9_goOn_71 : decode cX9_goOn 71 = .ok (.aload_n 0, 1) := by decide +kernel
theorem dX9_goOn_72 : decode cX9_goOn 72 = .ok (.iload_n 1, 1) := by decide +kernel
theorem dX9_goOn_73 : decode cX9_goOn 73 = .ok (.iload_n 2, 1) := by decide +kernel
theorem dX9_goOn_74 : decode cX9_goOn 74 = .ok (.iload_n 3, 1) := by decide +kernel
theorem dX9_goOn_75 : decode cX9_goOn 75 = .ok (.iload 4, 2) := by decide +kernel
theorem dX9_goOn_77 : decode cX9_goOn 77 = .ok (.iconst 1, 1) := by decide +kernel
theorem dX9_goOn_78 : decode cX9_goOn 78 = .ok (.iadd, 1) := by decide +kernel
theorem dX9_goOn_79 : decode cX9_goOn 79 = .ok (.aload 5, 2) := by decide +kernel
theorem dX9_goOn_81 : decode cX9_goOn 81 = .ok (.iload 6, 2) := by decide +kernel
theorem dX9_goOn_83 : decode cX9_goOn 83 = .ok (.iload 7, 2) := by decide +kernel
theorem dX9_goOn_85 : decode cX9_goOn 85 = .ok (.invokevirtual 197, 3) := by decide +kernel
theorem dX9_goOn_88 : decode cX9_goOn 88 = .ok (.iconst 0, 1) := by decide +kernel
theorem dX9_goOn_89 : decode cX9_goOn 89 = .ok (.istore 8, 2) := by decide +kernel
theorem dX9_goOn_91 : decode cX9_goOn 91 = .ok (.iload 8, 2) := by decide +kernel
theorem dX9_goOn_93 : decode cX9_goOn 93 = .ok (.iload_n 3, 1) := by decide +kernel
theorem dX9_goOn_94 : decode cX9_goOn 94 = .ok (.iconst 3, 1) := by decide +kernel
theorem dX9_goOn_95 : decode cX9_goOn 95 = .ok (.iadd, 1) := by decide +kernel
theorem dX9_goOn_96 : decode cX9_goOn 96 = .ok (.bipush 12, 2) := by decide +kernel
theorem dX9_goOn_98 : decode cX9_goOn 98 = .ok (.aload_n 0, 1) := by decide +kernel
theorem dX9_goOn_99 : decode cX9_goOn 99 = .ok (.getfield 69, 3) := by decide +kernel
theorem dX9_goOn_102 : decode cX9_goOn 102 = .ok (.isub, 1) := by decide +kernel
theorem dX9_goOn_103 : decode cX9_goOn 103 = .ok (.invokestatic 124, 3) := by decide +kernel
theorem dX9_goOn_106 : decode cX9_goOn 106 = .ok (.if_icmp .gt 110, 3) := by decide +kernel
theorem dX9_goOn_109 : decode cX9_goOn 109 = .ok (.aload_n 0, 1) := by decide +kernel
theorem dX9_goOn_110 : decode cX9_goOn 110 = .ok (.getfield 13, 3) := by decide +kernel
theorem dX9_goOn_113 : decode cX9_goOn 113 = .ok (.iload 4, 2) := by decide +kernel
theorem dX9_goOn_115 : decode cX9_goOn 115 = .ok (.baload, 1) := by decide +kernel
theorem dX9_goOn_116 : decode cX9_goOn 116 = .ok (.ifCond .ne 100, 3) := by decide +kernel
theorem dX9_goOn_119 : decode cX9_goOn 119 = .ok (.aload_n 0, 1) := by decide +kernel
theorem dX9_goOn_120 : decode cX9_goOn 120 = .ok (.iload 4, 2) := by decide +kernel
theorem dX9_goOn_122 : decode cX9_goOn 122 = .ok (.iload 8, 2) := by decide +kernel
theorem dX9_goOn_124 : decode cX9_goOn 124 = .ok (.invokevirtual 201, 3) := by decide +kernel
theorem dX9_goOn_127 : decode cX9_goOn 127 = .ok (.istore 9, 2) := by decide +kernel
theorem dX9_goOn_129 : decode cX9_goOn 129 = .ok (.iload_n 1, 1) := by decide +kernel
theorem dX9_goOn_130 : decode cX9_goOn 130 = .ok (.iload 9, 2) := by decide +kernel
theorem dX9_goOn_132 : decode cX9_goOn 132 = .ok (.bipush 12, 2) := by decide +kernel
theorem dX9_goOn_134 : decode cX9_goOn 134 = .ok (.irem, 1) := by decide +kernel
theorem dX9_goOn_135 : decode cX9_goOn 135 = .ok (.ishr, 1) := by decide +kernel
theorem dX9_goOn_136 : decode cX9_goOn 136 = .ok (.iconst 1, 1) := by decide +kernel
theorem dX9_goOn_137 : decode cX9_goOn 137 = .ok (.iand, 1) := by decide +kernel
theorem dX9_goOn_138 : decode cX9_goOn 138 = .ok (.ifCond .ne 6, 3) := by decide +kernel
theorem dX9_goOn_141 : decode cX9_goOn 141 = .ok (.goto 57, 3) := by decide +kernel
theorem dX9_goOn_144 : decode cX9_goOn 144 = .ok (.aload 5, 2) := by decide +kernel
theorem dX9_goOn_146 : decode cX9_goOn 146 = .ok (.iload 4, 2) := by decide +kernel
theorem dX9_goOn_148 : decode cX9_goOn 148 = .ok (.iload 8, 2) := by decide +kernel
theorem dX9_goOn_150 : decode cX9_goOn 150 = .ok (.iastore, 1) := by decide +kernel
theorem dX9_goOn_151 : decode cX9_goOn 151 = .ok (.aload_n 0, 1) := by decide +kernel
theorem dX9_goOn_152 : decode cX9_goOn 152 = .ok (.iload_n 1, 1) := by decide +kernel
theorem dX9_goOn_153 : decode cX9_goOn 153 = .ok (.iload_n 2, 1) := by decide +kernel
theorem dX9_goOn_154 : decode cX9_goOn 154 = .ok (.iload_n 3, 1) := by decide +kernel
theorem dX9_goOn_155 : decode cX9_goOn 155 = .ok (.iload 4, 2) := by decide +kernel
theorem dX9_goOn_157 : decode cX9_goOn 157 = .ok (.iconst 1, 1) := by decide +kernel
theorem dX9_goOn_158 : decode cX9_goOn 158 = .ok (.iadd, 1) := by decide +kernel
theorem dX9_goOn_159 : decode cX9_goOn 159 = .ok (.aload 5, 2) := by decide +kernel
theorem dX9_goOn_161 : decode cX9_goOn 161 = .ok (.iload 6, 2) := by decide +kernel
theorem dX9_goOn_163 : decode cX9_goOn 163 = .ok (.iconst 1, 1) := by decide +kernel
theorem dX9_goOn_164 : decode cX9_goOn 164 = .ok (.iload 9, 2) := by decide +kernel
theorem dX9_goOn_166 : decode cX9_goOn 166 = .ok (.bipush 12, 2) := by decide +kernel
theorem dX9_goOn_168 : decode cX9_goOn 168 = .ok (.irem, 1) := by decide +kernel
theorem dX9_goOn_169 : decode cX9_goOn 169 = .ok (.ishl, 1) := by decide +kernel
theorem dX9_goOn_170 : decode cX9_goOn 170 = .ok (.ior, 1) := by decide +kernel
theorem dX9_goOn_171 : decode cX9_goOn 171 = .ok (.iload 7, 2) := by decide +kernel
theorem dX9_goOn_173 : decode cX9_goOn 173 = .ok (.iconst (-1), 1) := by decide +kernel
theorem dX9_goOn_174 : decode cX9_goOn 174 = .ok (.if_icmp .ne 8, 3) := by decide +kernel
theorem dX9_goOn_177 : decode cX9_goOn 177 = .ok (.iload 9, 2) := by decide +kernel
theorem dX9_goOn_179 : decode cX9_goOn 179 = .ok (.goto 10, 3) := by decide +kernel
theorem dX9_goOn_182 : decode cX9_goOn 182 = .ok (.iload 7, 2) := by decide +kernel
theorem dX9_goOn_184 : decode cX9_goOn 184 = .ok (.iload 9, 2) := by decide +kernel
theorem dX9_goOn_186 : decode cX9_goOn 186 = .ok (.invokestatic 124, 3) := by decide +kernel
theorem dX9_goOn_189 : decode cX9_goOn 189 = .ok (.invokevirtual 197, 3) := by decide +kernel
theorem dX9_goOn_192 : decode cX9_goOn 192 = .ok (.aload 5, 2) := by decide +kernel
theorem dX9_goOn_194 : decode cX9_goOn 194 = .ok (.iload 4, 2) := by decide +kernel
theorem dX9_goOn_196 : decode cX9_goOn 196 = .ok (.iconst (-1), 1) := by decide +kernel
theorem dX9_goOn_197 : decode cX9_goOn 197 = .ok (.iastore, 1) := by decide +kernel
theorem dX9_goOn_198 : decode cX9_goOn 198 = .ok (.iload 8, 2) := by decide +kernel
theorem dX9_goOn_200 : decode cX9_goOn 200 = .ok (.ifCond .ne 7, 3) := by decide +kernel
theorem dX9_goOn_203 : decode cX9_goOn 203 = .ok (.iload_n 3, 1) := by decide +kernel
theorem dX9_goOn_204 : decode cX9_goOn 204 = .ok (.goto 7, 3) := by decide +kernel
theorem dX9_goOn_207 : decode cX9_goOn 207 = .ok (.iload 8, 2) := by decide +kernel
theorem dX9_goOn_209 : decode cX9_goOn 209 = .ok (.iconst 1, 1) := by decide +kernel
theorem dX9_goOn_210 : decode cX9_goOn 210 = .ok (.iadd, 1) := by decide +kernel
theorem dX9_goOn_211 : decode cX9_goOn 211 = .ok (.istore 8, 2) := by decide +kernel
theorem dX9_goOn_213 : decode cX9_goOn 213 = .ok (.goto (-122), 3) := by decide +kernel
theorem dX9_goOn_216 : decode cX9_goOn 216 = .ok (.return_, 1) := by decide +kernel
theorem dX9_isBetter_0 : decode cX9_isBetter 0 = .ok (.aload_n 1, 1) := by decide +kernel
theorem dX9_isBetter_1 : decode cX9_isBetter 1 = .ok (.invokestatic 114, 3) := by decide +kernel
theorem dX9_isBetter_4 : decode cX9_isBetter 4 = .ok (.aload_n 0, 1) := by decide +kernel
theorem dX9_isBetter_5 : decode cX9_isBetter 5 = .ok (.getfield 41, 3) := by decide +kernel
theorem dX9_isBetter_8 : decode cX9_isBetter 8 = .ok (.invokestatic 114, 3) := by decide +kernel
theorem dX9_isBetter_11 : decode cX9_isBetter 11 = .ok (.if_icmp .eq 23, 3) := by decide +kernel
theorem dX9_isBetter_14 : decode cX9_isBetter 14 = .ok (.aload_n 1, 1) := by decide +kernel
theorem dX9_isBetter_15 : decode cX9_isBetter 15 = .ok (.invokestatic 114, 3) := by decide +kernel
theorem dX9_isBetter_18 : decode cX9_isBetter 18 = .ok (.aload_n 0, 1) := by decide +kernel
theorem dX9_isBetter_19 : decode cX9_isBetter 19 = .ok (.getfield 41, 3) := by decide +kernel
theorem dX9_isBetter_22 : decode cX9_isBetter 22 = .ok (.invokestatic 114, 3) := by decide +kernel
theorem dX9_isBetter_25 : decode cX9_isBetter 25 = .ok (.if_icmp .ge 7, 3) := by decide +kernel
theorem dX9_isBetter_28 : decode cX9_isBetter 28 = .ok (.iconst 1, 1) := by decide +kernel
theorem dX9_isBetter_29 : decode cX9_isBetter 29 = .ok (.goto 4, 3) := by decide +kernel
theorem dX9_isBetter_32 : decode cX9_isBetter 32 = .ok (.iconst 0, 1) := by decide +kernel
theorem dX9_isBetter_33 : decode cX9_isBetter 33 = .ok (.ireturn, 1) := by decide +kernel
theorem dX9_isBetter_34 : decode cX9_isBetter 34 = .ok (.aload_n 1, 1) := by decide +kernel
theorem dX9_isBetter_35 : decode cX9_isBetter 35 = .ok (.invokestatic 96, 3) := by decide +kernel
theorem dX9_isBetter_38 : decode cX9_isBetter 38 = .ok (.aload_n 0, 1) := by decide +kernel
theorem dX9_isBetter_39 : decode cX9_isBetter 39 = .ok (.getfield 41, 3) := by decide +kernel
theorem dX9_isBetter_42 : decode cX9_isBetter 42 = .ok (.invokestatic 96, 3) := by decide +kernel
theorem dX9_isBetter_45 : decode cX9_isBetter 45 = .ok (.if_icmp .ne 14, 3) := by decide +kernel
theorem dX9_isBetter_48 : decode cX9_isBetter 48 = .ok (.aload_n 1, 1) := by decide +kernel
theorem dX9_isBetter_49 : decode cX9_isBetter 49 = .ok (.aload_n 0, 1) := by decide +kernel
theorem dX9_isBetter_50 : decode cX9_isBetter 50 = .ok (.getfield 41, 3) := by decide +kernel
theorem dX9_isBetter_53 : decode cX9_isBetter 53 = .ok (.invokestatic 120, 3) := by decide +kernel
theorem dX9_isBetter_56 : decode cX9_isBetter 56 = .ok (.goto 22, 3) := by decide +kernel
theorem dX9_isBetter_59 : decode cX9_isBetter 59 = .ok (.aload_n 1, 1) := by decide +kernel
theorem dX9_isBetter_60 : decode cX9_isBetter 60 = .ok (.invokestatic 96, 3) := by decide +kernel
theorem dX9_isBetter_63 : decode cX9_isBetter 63 = .ok (.aload_n 0, 1) := by decide +kernel
theorem dX9_isBetter_64 : decode cX9_isBetter 64 = .ok (.getfield 41, 3) := by decide +kernel
theorem dX9_isBetter_67 : decode cX9_isBetter 67 = .ok (.invokestatic 96, 3) := by decide +kernel
theorem dX9_isBetter_70 : decode cX9_isBetter 70 = .ok (.if_icmp .le 7, 3) := by decide +kernel
theorem dX9_isBetter_73 : decode cX9_isBetter 73 = .ok (.iconst 1, 1) := by decide +kernel
theorem dX9_isBetter_74 : decode cX9_isBetter 74 = .ok (.goto 4, 3) := by decide +kernel
theorem dX9_isBetter_77 : decode cX9_isBetter 77 = .ok (.iconst 0, 1) := by decide +kernel
theorem dX9_isBetter_78 : decode cX9_isBetter 78 = .ok (.ireturn, 1) := by decide +kernel
theorem dX9_look_0 : decode cX9_look 0 = .ok (.aload_n 0, 1) := by decide +kernel
theorem dX9_look_1 : decode cX9_look 1 = .ok (.iconst 0, 1) := by decide +kernel
theorem dX9_look_2 : decode cX9_look 2 = .ok (.putfield 191, 3) := by decide +kernel
theorem dX9_look_5 : decode cX9_look 5 = .ok (.aload_n 0, 1) := by decide +kernel
theorem dX9_look_6 : decode cX9_look 6 = .ok (.iconst 0, 1) := by decide +kernel
theorem dX9_look_7 : decode cX9_look 7 = .ok (.newarray .int, 2) := by decide +kernel
theorem dX9_look_9 : decode cX9_look 9 = .ok (.putfield 41, 3) := by decide +kernel
theorem dX9_look_12 : decode cX9_look 12 = .ok (.aload_n 0, 1) := by decide +kernel
theorem dX9_look_13 : decode cX9_look 13 = .ok (.getfield 47, 3) := by decide +kernel
theorem dX9_look_16 : decode cX9_look 16 = .ok (.ifCond .le 17, 3) := by decide +kernel
theorem dX9_look_19 : decode cX9_look 19 = .ok (.aload_n 0, 1) := by decide +kernel
theorem dX9_look_20 : decode cX9_look 20 = .ok (.iload_n 1, 1) := by decide +kernel
theorem dX9_look_21 : decode cX9_look 21 = .ok (.iload_n 2, 1) := by decide +kernel
theorem dX9_look_22 : decode cX9_look 22 = .ok (.iload_n 3, 1) := by decide +kernel
theorem dX9_look_23 : decode cX9_look 23 = .ok (.iconst 0, 1) := by decide +kernel
theorem dX9_look_24 : decode cX9_look 24 = .ok (.aload_n 0, 1) := by decide +kernel
theorem dX9_look_25 : decode cX9_look 25 = .ok (.invokevirtual 142, 3) := by decide +kernel
theorem dX9_look_28 : decode cX9_look 28 = .ok (.iconst 0, 1) := by decide +kernel
theorem dX9_look_29 : decode cX9_look 29 = .ok (.iconst (-1), 1) := by decide +kernel
theorem dX9_look_30 : decode cX9_look 30 = .ok (.invokevirtual 197, 3) := by decide +kernel
theorem dX9_look_33 : decode cX9_look 33 = .ok (.return_, 1) := by decide +kernel
theorem dX9_shapes_0 : decode cX9_shapes 0 = .ok (.aload_n 0, 1) := by decide +kernel
theorem dX9_shapes_1 : decode cX9_shapes 1 = .ok (.iconst 0, 1) := by decide +kernel
theorem dX9_shapes_2 : decode cX9_shapes 2 = .ok (.putfield 44, 3) := by decide +kernel
theorem dX9_shapes_5 : decode cX9_shapes 5 = .ok (.iload_n 1, 1) := by decide +kernel
theorem dX9_shapes_6 : decode cX9_shapes 6 = .ok (.iload_n 2, 1) := by decide +kernel
theorem dX9_shapes_7 : decode cX9_shapes 7 = .ok (.iload_n 3, 1) := by decide +kernel
theorem dX9_shapes_8 : decode cX9_shapes 8 = .ok (.invokestatic 204, 3) := by decide +kernel
theorem dX9_shapes_11 : decode cX9_shapes 11 = .ok (.ifCond .ne 9, 3) := by decide +kernel
theorem dX9_shapes_14 : decode cX9_shapes 14 = .ok (.aload_n 0, 1) := by decide +kernel
theorem dX9_shapes_15 : decode cX9_shapes 15 = .ok (.iconst 1, 1) := by decide +kernel
theorem dX9_shapes_16 : decode cX9_shapes 16 = .ok (.invokevirtual 57, 3) := by decide +kernel
theorem dX9_shapes_19 : decode cX9_shapes 19 = .ok (.ireturn, 1) := by decide +kernel
theorem dX9_shapes_20 : decode cX9_shapes 20 = .ok (.aload_n 0, 1) := by decide +kernel
theorem dX9_shapes_21 : decode cX9_shapes 21 = .ok (.iload_n 1, 1) := by decide +kernel
theorem dX9_shapes_22 : decode cX9_shapes 22 = .ok (.iload_n 2, 1) := by decide +kernel
theorem dX9_shapes_23 : decode cX9_shapes 23 = .ok (.iload_n 3, 1) := by decide +kernel
theorem dX9_shapes_24 : decode cX9_shapes 24 = .ok (.invokevirtual 207, 3) := by decide +kernel
theorem dX9_shapes_27 : decode cX9_shapes 27 = .ok (.aload_n 0, 1) := by decide +kernel
theorem dX9_shapes_28 : decode cX9_shapes 28 = .ok (.getfield 191, 3) := by decide +kernel
theorem dX9_shapes_31 : decode cX9_shapes 31 = .ok (.ireturn, 1) := by decide +kernel
theorem dX9_shapeEffort_0 : decode cX9_shapeEffort 0 = .ok (.aload_n 0, 1) := by decide +kernel
theorem dX9_shapeEffort_1 : decode cX9_shapeEffort 1 = .ok (.iconst 0, 1) := by decide +kernel
theorem dX9_shapeEffort_2 : decode cX9_shapeEffort 2 = .ok (.putfield 44, 3) := by decide +kernel
theorem dX9_shapeEffort_5 : decode cX9_shapeEffort 5 = .ok (.iload_n 1, 1) := by decide +kernel
theorem dX9_shapeEffort_6 : decode cX9_shapeEffort 6 = .ok (.iload_n 2, 1) := by decide +kernel
theorem dX9_shapeEffort_7 : decode cX9_shapeEffort 7 = .ok (.iload_n 3, 1) := by decide +kernel
theorem dX9_shapeEffort_8 : decode cX9_shapeEffort 8 = .ok (.invokestatic 204, 3) := by decide +kernel
theorem dX9_shapeEffort_11 : decode cX9_shapeEffort 11 = .ok (.ifCond .ne 9, 3) := by decide +kernel
theorem dX9_shapeEffort_14 : decode cX9_shapeEffort 14 = .ok (.aload_n 0, 1) := by decide +kernel
theorem dX9_shapeEffort_15 : decode cX9_shapeEffort 15 = .ok (.iconst 1, 1) := by decide +kernel
theorem dX9_shapeEffort_16 : decode cX9_shapeEffort 16 = .ok (.invokevirtual 57, 3) := by decide +kernel
theorem dX9_shapeEffort_19 : decode cX9_shapeEffort 19 = .ok (.ireturn, 1) := by decide +kernel
theorem dX9_shapeEffort_20 : decode cX9_shapeEffort 20 = .ok (.aload_n 0, 1) := by decide +kernel
theorem dX9_shapeEffort_21 : decode cX9_shapeEffort 21 = .ok (.iload_n 1, 1) := by decide +kernel
theorem dX9_shapeEffort_22 : decode cX9_shapeEffort 22 = .ok (.iload_n 2, 1) := by decide +kernel
theorem dX9_shapeEffort_23 : decode cX9_shapeEffort 23 = .ok (.iload_n 3, 1) := by decide +kernel
theorem dX9_shapeEffort_24 : decode cX9_shapeEffort 24 = .ok (.invokevirtual 207, 3) := by decide +kernel
theorem dX9_shapeEffort_27 : decode cX9_shapeEffort 27 = .ok (.aload_n 0, 1) := by decide +kernel
theorem dX9_shapeEffort_28 : decode cX9_shapeEffort 28 = .ok (.getfield 191, 3) := by decide +kernel
theorem dX9_shapeEffort_31 : decode cX9_shapeEffort 31 = .ok (.ifCond .ne 7, 3) := by decide +kernel
theorem dX9_shapeEffort_34 : decode cX9_shapeEffort 34 = .ok (.iconst (-1), 1) := by decide +kernel
theorem dX9_shapeEffort_35 : decode cX9_shapeEffort 35 = .ok (.goto 10, 3) := by decide +kernel
theorem dX9_shapeEffort_38 : decode cX9_shapeEffort 38 = .ok (.aload_n 0, 1) := by decide +kernel
theorem dX9_shapeEffort_39 : decode cX9_shapeEffort 39 = .ok (.getfield 41, 3) := by decide +kernel
theorem dX9_shapeEffort_42 : decode cX9_shapeEffort 42 = .ok (.invokestatic 114, 3) := by decide +kernel
theorem dX9_shapeEffort_45 : decode cX9_shapeEffort 45 = .ok (.ireturn, 1) := by decide +kernel
theorem dX9_shapeFret_0 : decode cX9_shapeFret 0 = .ok (.aload_n 0, 1) := by decide +kernel
theorem dX9_shapeFret_1 : decode cX9_shapeFret 1 = .ok (.iconst 0, 1) := by decide +kernel
theorem dX9_shapeFret_2 : decode cX9_shapeFret 2 = .ok (.putfield 44, 3) := by decide +kernel
theorem dX9_shapeFret_5 : decode cX9_shapeFret 5 = .ok (.aload_n 0, 1) := by decide +kernel
theorem dX9_shapeFret_6 : decode cX9_shapeFret 6 = .ok (.iload 4, 2) := by decide +kernel
theorem dX9_shapeFret_8 : decode cX9_shapeFret 8 = .ok (.invokevirtual 61, 3) := by decide +kernel
theorem dX9_shapeFret_11 : decode cX9_shapeFret 11 = .ok (.ifCond .ne 9, 3) := by decide +kernel
theorem dX9_shapeFret_14 : decode cX9_shapeFret 14 = .ok (.aload_n 0, 1) := by decide +kernel
theorem dX9_shapeFret_15 : decode cX9_shapeFret 15 = .ok (.iconst 1, 1) := by decide +kernel
theorem dX9_shapeFret_16 : decode cX9_shapeFret 16 = .ok (.invokevirtual 57, 3) := by decide +kernel
theorem dX9_shapeFret_19 : decode cX9_shapeFret 19 = .ok (.ireturn, 1) := by decide +kernel
theorem dX9_shapeFret_20 : decode cX9_shapeFret 20 = .ok (.iload_n 1, 1) := by decide +kernel
theorem dX9_shapeFret_21 : decode cX9_shapeFret 21 = .ok (.iload_n 2, 1) := by decide +kernel
theorem dX9_shapeFret_22 : decode cX9_shapeFret 22 = .ok (.iload_n 3, 1) := by decide +kernel
theorem dX9_shapeFret_23 : decode cX9_shapeFret 23 = .ok (.invokestatic 204, 3) := by decide +kernel
theorem dX9_shapeFret_26 : decode cX9_shapeFret 26 = .ok (.ifCond .ne 9, 3) := by decide +kernel
theorem dX9_shapeFret_29 : decode cX9_shapeFret 29 = .ok (.aload_n 0, 1) := by decide +kernel
theorem dX9_shapeFret_30 : decode cX9_shapeFret 30 = .ok (.iconst 2, 1) := by decide +kernel
theorem dX9_shapeFret_31 : decode cX9_shapeFret 31 = .ok (.invokevirtual 57, 3) := by decide +kernel
theorem dX9_shapeFret_34 : decode cX9_shapeFret 34 = .ok (.ireturn, 1) := by decide +kernel
theorem dX9_shapeFret_35 : decode cX9_shapeFret 35 = .ok (.aload_n 0, 1) := by decide +kernel
theorem dX9_shapeFret_36 : decode cX9_shapeFret 36 = .ok (.iload_n 1, 1) := by decide +kernel
theorem dX9_shapeFret_37 : decode cX9_shapeFret 37 = .ok (.iload_n 2, 1) := by decide +kernel
theorem dX9_shapeFret_38 : decode cX9_shapeFret 38 = .ok (.iload_n 3, 1) := by decide +kernel
theorem dX9_shapeFret_39 : decode cX9_shapeFret 39 = .ok (.invokevirtual 207, 3) := by decide +kernel
theorem dX9_shapeFret_42 : decode cX9_shapeFret 42 = .ok (.aload_n 0, 1) := by decide +kernel
theorem dX9_shapeFret_43 : decode cX9_shapeFret 43 = .ok (.getfield 191, 3) := by decide +kernel
theorem dX9_shapeFret_46 : decode cX9_shapeFret 46 = .ok (.ifCond .ne 7, 3) := by decide +kernel
theorem dX9_shapeFret_49 : decode cX9_shapeFret 49 = .ok (.iconst (-1), 1) := by decide +kernel
theorem dX9_shapeFret_50 : decode cX9_shapeFret 50 = .ok (.goto 10, 3) := by decide +kernel
theorem dX9_shapeFret_53 : decode cX9_shapeFret 53 = .ok (.aload_n 0, 1) := by decide +kernel
theorem dX9_shapeFret_54 : decode cX9_shapeFret 54 = .ok (.getfield 41, 3) := by decide +kernel
theorem dX9_shapeFret_57 : decode cX9_shapeFret 57 = .ok (.iload 4, 2) := by decide +kernel
theorem dX9_shapeFret_59 : decode cX9_shapeFret 59 = .ok (.iaload, 1) := by decide +kernel
theorem dX9_shapeFret_60 : decode cX9_shapeFret 60 = .ok (.ireturn, 1) := by decide +kernel
theorem dX9_totalBy_0 : decode cX9_totalBy 0 = .ok (.aload_n 0, 1) := by decide +kernel
theorem dX9_totalBy_1 : decode cX9_totalBy 1 = .ok (.getfield 69, 3) := by decide +kernel
theorem dX9_totalBy_4 : decode cX9_totalBy 4 = .ok (.istore_n 3, 1) := by decide +kernel
theorem dX9_totalBy_5 : decode cX9_totalBy 5 = .ok (.aload_n 0, 1) := by decide +kernel
theorem dX9_totalBy_6 : decode cX9_totalBy 6 = .ok (.getfield 17, 3) := by decide +kernel
theorem dX9_totalBy_9 : decode cX9_totalBy 9 = .ok (.istore 4, 2) := by decide +kernel
theorem dX9_totalBy_11 : decode cX9_totalBy 11 = .ok (.aload_n 0, 1) := by decide +kernel
theorem dX9_totalBy_12 : decode cX9_totalBy 12 = .ok (.iload_n 1, 1) := by decide +kernel
theorem dX9_totalBy_13 : decode cX9_totalBy 13 = .ok (.putfield 69, 3) := by decide +kernel
theorem dX9_totalBy_16 : decode cX9_totalBy 16 = .ok (.aload_n 0, 1) := by decide +kernel
theorem dX9_totalBy_17 : decode cX9_totalBy 17 = .ok (.iload_n 2, 1) := by decide +kernel
theorem dX9_totalBy_18 : decode cX9_totalBy 18 = .ok (.putfield 17, 3) := by decide +kernel
theorem dX9_totalBy_21 : decode cX9_totalBy 21 = .ok (.aload_n 0, 1) := by decide +kernel
theorem dX9_totalBy_22 : decode cX9_totalBy 22 = .ok (.invokevirtual 180, 3) := by decide +kernel
theorem dX9_totalBy_25 : decode cX9_totalBy 25 = .ok (.istore 5, 2) := by decide +kernel
theorem dX9_totalBy_27 : decode cX9_totalBy 27 = .ok (.aload_n 0, 1) := by decide +kernel
theorem dX9_totalBy_28 : decode cX9_totalBy 28 = .ok (.iload_n 3, 1) := by decide +kernel
theorem dX9_totalBy_29 : decode cX9_totalBy 29 = .ok (.putfield 69, 3) := by decide +kernel
theorem dX9_totalBy_32 : decode cX9_totalBy 32 = .ok (.aload_n 0, 1) := by decide +kernel
theorem dX9_totalBy_33 : decode cX9_totalBy 33 = .ok (.iload 4, 2) := by decide +kernel
theorem dX9_totalBy_35 : decode cX9_totalBy 35 = .ok (.putfield 17, 3) := by decide +kernel
theorem dX9_totalBy_38 : decode cX9_totalBy 38 = .ok (.iload 5, 2) := by decide +kernel
theorem dX9_totalBy_40 : decode cX9_totalBy 40 = .ok (.ireturn, 1) := by decide +kernel
theorem dX9_totalWith_0 : decode cX9_totalWith 0 = .ok (.aload_n 0, 1) := by decide +kernel
theorem dX9_totalWith_1 : decode cX9_totalWith 1 = .ok (.iconst 0, 1) := by decide +kernel
theorem dX9_totalWith_2 : decode cX9_totalWith 2 = .ok (.putfield 44, 3) := by decide +kernel
theorem dX9_totalWith_5 : decode cX9_totalWith 5 = .ok (.iload_n 1, 1) := by decide +kernel
theorem dX9_totalWith_6 : decode cX9_totalWith 6 = .ok (.iconst 0, 1) := by decide +kernel
theorem dX9_totalWith_7 : decode cX9_totalWith 7 = .ok (.bipush 7, 2) := by decide +kernel
theorem dX9_totalWith_9 : decode cX9_totalWith 9 = .ok (.invokestatic 50, 3) := by decide +kernel
theorem dX9_totalWith_12 : decode cX9_totalWith 12 = .ok (.ifCond .eq 22, 3) := by decide +kernel
theorem dX9_totalWith_15 : decode cX9_totalWith 15 = .ok (.iload_n 2, 1) := by decide +kernel
theorem dX9_totalWith_16 : decode cX9_totalWith 16 = .ok (.iconst 1, 1) := by decide +kernel
theorem dX9_totalWith_17 : decode cX9_totalWith 17 = .ok (.bipush 6, 2) := by decide +kernel
theorem dX9_totalWith_19 : decode cX9_totalWith 19 = .ok (.invokestatic 50, 3) := by decide +kernel
theorem dX9_totalWith_22 : decode cX9_totalWith 22 = .ok (.ifCond .eq 12, 3) := by decide +kernel
theorem dX9_totalWith_25 : decode cX9_totalWith 25 = .ok (.aload_n 0, 1) := by decide +kernel
theorem dX9_totalWith_26 : decode cX9_totalWith 26 = .ok (.iload_n 1, 1) := by decide +kernel
theorem dX9_totalWith_27 : decode cX9_totalWith 27 = .ok (.iload_n 2, 1) := by decide +kernel
theorem dX9_totalWith_28 : decode cX9_totalWith 28 = .ok (.invokevirtual 211, 3) := by decide +kernel
theorem dX9_totalWith_31 : decode cX9_totalWith 31 = .ok (.goto 8, 3) := by decide +kernel
theorem dX9_totalWith_34 : decode cX9_totalWith 34 = .ok (.aload_n 0, 1) := by decide +kernel
theorem dX9_totalWith_35 : decode cX9_totalWith 35 = .ok (.iconst 1, 1) := by decide +kernel
theorem dX9_totalWith_36 : decode cX9_totalWith 36 = .ok (.invokevirtual 57, 3) := by decide +kernel
theorem dX9_totalWith_39 : decode cX9_totalWith 39 = .ok (.ireturn, 1) := by decide +kernel
theorem dX9_bestCapoNow_0 : decode cX9_bestCapoNow 0 = .ok (.iconst (-1), 1) := by decide +kernel
theorem dX9_bestCapoNow_1 : decode cX9_bestCapoNow 1 = .ok (.istore_n 1, 1) := by decide +kernel
theorem dX9_bestCapoNow_2 : decode cX9_bestCapoNow 2 = .ok (.iconst (-1), 1) := by decide +kernel
theorem dX9_bestCapoNow_3 : decode cX9_bestCapoNow 3 = .ok (.istore_n 2, 1) := by decide +kernel
theorem dX9_bestCapoNow_4 : decode cX9_bestCapoNow 4 = .ok (.iconst 0, 1) := by decide +kernel
theorem dX9_bestCapoNow_5 : decode cX9_bestCapoNow 5 = .ok (.istore_n 3, 1) := by decide +kernel
theorem dX9_bestCapoNow_6 : decode cX9_bestCapoNow 6 = .ok (.iload_n 3, 1) := by decide +kernel
theorem dX9_bestCapoNow_7 : decode cX9_bestCapoNow 7 = .ok (.bipush 7, 2) := by decide +kernel
theorem dX9_bestCapoNow_9 : decode cX9_bestCapoNow 9 = .ok (.if_icmp .gt 45, 3) := by decide +kernel
theorem dX9_bestCapoNow_12 : decode cX9_bestCapoNow 12 = .ok (.aload_n 0, 1) := by decide +kernel
theorem dX9_bestCapoNow_13 : decode cX9_bestCapoNow 13 = .ok (.iload_n 3, 1) := by decide +kernel
theorem dX9_bestCapoNow_14 : decode cX9_bestCapoNow 14 = .ok (.aload_n 0, 1) := by decide +kernel
theorem dX9_bestCapoNow_15 : decode cX9_bestCapoNow 15 = .ok (.getfield 17, 3) := by decide +kernel
theorem dX9_bestCapoNow_18 : decode cX9_bestCapoNow 18 = .ok (.invokevirtual 211, 3) := by decide +kernel
theorem dX9_bestCapoNow_21 : decode cX9_bestCapoNow 21 = .ok (.istore 4, 2) := by decide +kernel
theorem dX9_bestCapoNow_23 : decode cX9_bestCapoNow 23 = .ok (.iload 4, 2) := by decide +kernel
theorem dX9_bestCapoNow_25 : decode cX9_bestCapoNow 25 = .ok (.iconst (-1), 1) := by decide +kernel
theorem dX9_bestCapoNow_26 : decode cX9_bestCapoNow 26 = .ok (.if_icmp .eq 22, 3) := by decide +kernel
theorem dX9_bestCapoNow_29 : decode cX9_bestCapoNow 29 = .ok (.iload_n 1, 1) := by decide +kernel
theorem dX9_bestCapoNow_30 : decode cX9_bestCapoNow 30 = .ok (.iconst (-1), 1) := by decide +kernel
theorem dX9_bestCapoNow_31 : decode cX9_bestCapoNow 31 = .ok (.if_icmp .eq 12, 3) := by decide +kernel
theorem dX9_bestCapoNow_34 : decode cX9_bestCapoNow 34 = .ok (.iload 4, 2) := by decide +kernel
theorem dX9_bestCapoNow_36 : decode cX9_bestCapoNow 36 = .ok (.iload_n 2, 1) := by decide +kernel
theorem dX9_bestCapoNow_37 : decode cX9_bestCapoNow 37 = .ok (.if_icmp .lt 6, 3) := by decide +kernel
theorem dX9_bestCapoNow_40 : decode cX9_bestCapoNow 40 = .ok (.goto 8, 3) := by decide +kernel
theorem dX9_bestCapoNow_43 : decode cX9_bestCapoNow 43 = .ok (.iload_n 3, 1) := by decide +kernel
theorem dX9_bestCapoNow_44 : decode cX9_bestCapoNow 44 = .ok (.istore_n 1, 1) := by decide +kernel
theorem dX9_bestCapoNow_45 : decode cX9_bestCapoNow 45 = .ok (.iload 4, 2) := by decide +kernel
theorem dX9_bestCapoNow_47 : decode cX9_bestCapoNow 47 = .ok (.istore_n 2, 1) := by decide +kernel
theorem dX9_bestCapoNow_48 : decode cX9_bestCapoNow 48 = .ok (.iinc 3 1, 3) := by decide +kernel
theorem dX9_bestCapoNow_51 : decode cX9_bestCapoNow 51 = .ok (.goto (-45), 3) := by decide +kernel
theorem dX9_bestCapoNow_54 : decode cX9_bestCapoNow 54 = .ok (.iload_n 1, 1) := by decide +kernel
theorem dX9_bestCapoNow_55 : decode cX9_bestCapoNow 55 = .ok (.ireturn, 1) := by decide +kernel
theorem dX9_bestCapo_0 : decode cX9_bestCapo 0 = .ok (.aload_n 0, 1) := by decide +kernel
theorem dX9_bestCapo_1 : decode cX9_bestCapo 1 = .ok (.iconst 0, 1) := by decide +kernel
theorem dX9_bestCapo_2 : decode cX9_bestCapo 2 = .ok (.putfield 44, 3) := by decide +kernel
theorem dX9_bestCapo_5 : decode cX9_bestCapo 5 = .ok (.aload_n 0, 1) := by decide +kernel
theorem dX9_bestCapo_6 : decode cX9_bestCapo 6 = .ok (.invokevirtual 214, 3) := by decide +kernel
theorem dX9_bestCapo_9 : decode cX9_bestCapo 9 = .ok (.ireturn, 1) := by decide +kernel
theorem dX9_withoutNow_0 : decode cX9_withoutNow 0 = .ok (.aload_n 0, 1) := by decide +kernel
theorem dX9_withoutNow_1 : decode cX9_withoutNow 1 = .ok (.getfield 13, 3) := by decide +kernel
theorem dX9_withoutNow_4 : decode cX9_withoutNow 4 = .ok (.iload_n 1, 1) := by decide +kernel
theorem dX9_withoutNow_5 : decode cX9_withoutNow 5 = .ok (.baload, 1) := by decide +kernel
theorem dX9_withoutNow_6 : decode cX9_withoutNow 6 = .ok (.istore_n 2, 1) := by decide +kernel
theorem dX9_withoutNow_7 : decode cX9_withoutNow 7 = .ok (.aload_n 0, 1) := by decide +kernel
theorem dX9_withoutNow_8 : decode cX9_withoutNow 8 = .ok (.getfield 13, 3) := by decide +kernel
theorem dX9_withoutNow_11 : decode cX9_withoutNow 11 = .ok (.iload_n 1, 1) := by decide +kernel
theorem dX9_withoutNow_12 : decode cX9_withoutNow 12 = .ok (.iconst 1, 1) := by decide +kernel
theorem dX9_withoutNow_13 : decode cX9_withoutNow 13 = .ok (.bastore, 1) := by decide +kernel
theorem dX9_withoutNow_14 : decode cX9_withoutNow 14 = .ok (.aload_n 0, 1) := by decide +kernel
theorem dX9_withoutNow_15 : decode cX9_withoutNow 15 = .ok (.invokevirtual 180, 3) := by decide +kernel
theorem dX9_withoutNow_18 : decode cX9_withoutNow 18 = .ok (.istore_n 3, 1) := by decide +kernel
theorem dX9_withoutNow_19 : decode cX9_withoutNow 19 = .ok (.aload_n 0, 1) := by decide +kernel
theorem dX9_withoutNow_20 : decode cX9_withoutNow 20 = .ok (.getfield 13, 3) := by decide +kernel
theorem dX9_withoutNow_23 : decode cX9_withoutNow 23 = .ok (.iload_n 1, 1) := by decide +kernel
theorem dX9_withoutNow_24 : decode cX9_withoutNow 24 = .ok (.iload_n 2, 1) := by decide +kernel
theorem dX9_withoutNow_25 : decode cX9_withoutNow 25 = .ok (.bastore, 1) := by decide +kernel
theorem dX9_withoutNow_26 : decode cX9_withoutNow 26 = .ok (.iload_n 3, 1) := by decide +kernel
theorem dX9_withoutNow_27 : decode cX9_withoutNow 27 = .ok (.ireturn, 1) := by decide +kernel
theorem dX9_totalWithout_0 : decode cX9_totalWithout 0 = .ok (.aload_n 0, 1) := by decide +kernel
theorem dX9_totalWithout_1 : decode cX9_totalWithout 1 = .ok (.iconst 0, 1) := by decide +kernel
theorem dX9_totalWithout_2 : decode cX9_totalWithout 2 = .ok (.putfield 44, 3) := by decide +kernel
theorem dX9_totalWithout_5 : decode cX9_totalWithout 5 = .ok (.aload_n 0, 1) := by decide +kernel
theorem dX9_totalWithout_6 : decode cX9_totalWithout 6 = .ok (.iload_n 1, 1) := by decide +kernel
theorem dX9_totalWithout_7 : decode cX9_totalWithout 7 = .ok (.invokevirtual 61, 3) := by decide +kernel
theorem dX9_totalWithout_10 : decode cX9_totalWithout 10 = .ok (.ifCond .eq 11, 3) := by decide +kernel
theorem dX9_totalWithout_13 : decode cX9_totalWithout 13 = .ok (.aload_n 0, 1) := by decide +kernel
theorem dX9_totalWithout_14 : decode cX9_totalWithout 14 = .ok (.iload_n 1, 1) := by decide +kernel
theorem dX9_totalWithout_15 : decode cX9_totalWithout 15 = .ok (.invokevirtual 217, 3) := by decide +kernel
theorem dX9_totalWithout_18 : decode cX9_totalWithout 18 = .ok (.goto 8, 3) := by decide +kernel
theorem dX9_totalWithout_21 : decode cX9_totalWithout 21 = .ok (.aload_n 0, 1) := by decide +kernel
theorem dX9_totalWithout_22 : decode cX9_totalWithout 22 = .ok (.iconst 1, 1) := by decide +kernel
theorem dX9_totalWithout_23 : decode cX9_totalWithout 23 = .ok (.invokevirtual 57, 3) := by decide +kernel
theorem dX9_totalWithout_26 : decode cX9_totalWithout 26 = .ok (.ireturn, 1) := by decide +kernel
theorem dX9_totalFixed_0 : decode cX9_totalFixed 0 = .ok (.aload_n 0, 1) := by decide +kernel
theorem dX9_totalFixed_1 : decode cX9_totalFixed 1 = .ok (.iconst 0, 1) := by decide +kernel
theorem dX9_totalFixed_2 : decode cX9_totalFixed 2 = .ok (.putfield 44, 3) := by decide +kernel
theorem dX9_totalFixed_5 : decode cX9_totalFixed 5 = .ok (.aload_n 0, 1) := by decide +kernel
theorem dX9_totalFixed_6 : decode cX9_totalFixed 6 = .ok (.iload_n 1, 1) := by decide +kernel
theorem dX9_totalFixed_7 : decode cX9_totalFixed 7 = .ok (.invokevirtual 76, 3) := by decide +kernel
theorem dX9_totalFixed_10 : decode cX9_totalFixed 10 = .ok (.ifCond .ne 9, 3) := by decide +kernel
theorem dX9_totalFixed_13 : decode cX9_totalFixed 13 = .ok (.aload_n 0, 1) := by decide +kernel
theorem dX9_totalFixed_14 : decode cX9_totalFixed 14 = .ok (.iconst 1, 1) := by decide +kernel
theorem dX9_totalFixed_15 : decode cX9_totalFixed 15 = .ok (.invokevirtual 57, 3) := by decide +kernel
theorem dX9_totalFixed_18 : decode cX9_totalFixed 18 = .ok (.ireturn, 1) := by decide +kernel
theorem dX9_totalFixed_19 : decode cX9_totalFixed 19 = .ok (.aload_n 0, 1) := by decide +kernel
theorem dX9_totalFixed_20 : decode cX9_totalFixed 20 = .ok (.iload_n 1, 1) := by decide +kernel
theorem dX9_totalFixed_21 : decode cX9_totalFixed 21 = .ok (.invokevirtual 146, 3) := by decide +kernel
theorem dX9_totalFixed_24 : decode cX9_totalFixed 24 = .ok (.astore_n 3, 1) := by decide +kernel
theorem dX9_totalFixed_25 : decode cX9_totalFixed 25 = .ok (.iload_n 2, 1) := by decide +kernel
theorem dX9_totalFixed_26 : decode cX9_totalFixed 26 = .ok (.iconst 0, 1) := by decide +kernel
theorem dX9_totalFixed_27 : decode cX9_totalFixed 27 = .ok (.aload_n 3, 1) := by decide +kernel
theorem dX9_totalFixed_28 : decode cX9_totalFixed 28 = .ok (.arraylength, 1) := by decide +kernel
theorem dX9_totalFixed_29 : decode cX9_totalFixed 29 = .ok (.iconst 1, 1) := by decide +kernel
theorem dX9_totalFixed_30 : decode cX9_totalFixed 30 = .ok (.isub, 1) := by decide +kernel
theorem dX9_totalFixed_31 : decode cX9_totalFixed 31 = .ok (.invokestatic 50, 3) := by decide +kernel
theorem dX9_totalFixed_34 : decode cX9_totalFixed 34 = .ok (.ifCond .ne 9, 3) := by decide +kernel
theorem dX9_totalFixed_37 : decode cX9_totalFixed 37 = .ok (.aload_n 0, 1) := by decide +kernel
theorem dX9_totalFixed_38 : decode cX9_totalFixed 38 = .ok (.iconst 1, 1) := by decide +kernel
theorem dX9_totalFixed_39 : decode cX9_totalFixed 39 = .ok (.invokevirtual 57, 3) := by decide +kernel
theorem dX9_totalFixed_42 : decode cX9_totalFixed 42 = .ok (.ireturn, 1) := by decide +kernel
theorem dX9_totalFixed_43 : decode cX9_totalFixed 43 = .ok (.aload_n 0, 1) := by decide +kernel
theorem dX9_totalFixed_44 : decode cX9_totalFixed 44 = .ok (.getfield 29, 3) := by decide +kernel
theorem dX9_totalFixed_47 : decode cX9_totalFixed 47 = .ok (.iload_n 1, 1) := by decide +kernel
theorem dX9_totalFixed_48 : decode cX9_totalFixed 48 = .ok (.baload, 1) := by decide +kernel
theorem dX9_totalFixed_49 : decode cX9_totalFixed 49 = .ok (.istore 4, 2) := by decide +kernel
theorem dX9_totalFixed_51 : decode cX9_totalFixed 51 = .ok (.aload_n 0, 1) := by decide +kernel
theorem dX9_totalFixed_52 : decode cX9_totalFixed 52 = .ok (.getfield 32, 3) := by decide +kernel
theorem dX9_totalFixed_55 : decode cX9_totalFixed 55 = .ok (.iload_n 1, 1) := by decide +kernel
theorem dX9_totalFixed_56 : decode cX9_totalFixed 56 = .ok (.aaload, 1) := by decide +kernel
theorem dX9_totalFixed_57 : decode cX9_totalFixed 57 = .ok (.astore 5, 2) := by decide +kernel
theorem dX9_totalFixed_59 : decode cX9_totalFixed 59 = .ok (.aload_n 0, 1) := by decide +kernel
theorem dX9_totalFixed_60 : decode cX9_totalFixed 60 = .ok (.getfield 29, 3) := by decide +kernel
theorem dX9_totalFixed_63 : decode cX9_totalFixed 63 = .ok (.iload_n 1, 1) := by decide +kernel
theorem dX9_totalFixed_64 : decode cX9_totalFixed 64 = .ok (.iconst 1, 1) := by decide +kernel
theorem dX9_totalFixed_65 : decode cX9_totalFixed 65 = .ok (.bastore, 1) := by decide +kernel
theorem dX9_totalFixed_66 : decode cX9_totalFixed 66 = .ok (.aload_n 0, 1) := by decide +kernel
theorem dX9_totalFixed_67 : decode cX9_totalFixed 67 = .ok (.getfield 32, 3) := by decide +kernel
theorem dX9_totalFixed_70 : decode cX9_totalFixed 70 = .ok (.iload_n 1, 1) := by decide +kernel
theorem dX9_totalFixed_71 : decode cX9_totalFixed 71 = .ok (.aload_n 3, 1) := by decide +kernel
theorem dX9_totalFixed_72 : decode cX9_totalFixed 72 = .ok (.iload_n 2, 1) := by decide +kernel
theorem dX9_totalFixed_73 : decode cX9_totalFixed 73 = .ok (.aaload, 1) := by decide +kernel
theorem dX9_totalFixed_74 : decode cX9_totalFixed 74 = .ok (.aastore, 1) := by decide +kernel
theorem dX9_totalFixed_75 : decode cX9_totalFixed 75 = .ok (.aload_n 0, 1) := by decide +kernel
theorem dX9_totalFixed_76 : decode cX9_totalFixed 76 = .ok (.invokevirtual 180, 3) := by decide +kernel
theorem dX9_totalFixed_79 : decode cX9_totalFixed 79 = .ok (.istore 6, 2) := by decide +kernel
theorem dX9_totalFixed_81 : decode cX9_totalFixed 81 = .ok (.aload_n 0, 1) := by decide +kernel
theorem dX9_totalFixed_82 : decode cX9_totalFixed 82 = .ok (.getfield 29, 3) := by decide +kernel
theorem dX9_totalFixed_85 : decode cX9_totalFixed 85 = .ok (.iload_n 1, 1) := by decide +kernel
theorem dX9_totalFixed_86 : decode cX9_totalFixed 86 = .ok (.iload 4, 2) := by decide +kernel
theorem dX9_totalFixed_88 : decode cX9_totalFixed 88 = .ok (.bastore, 1) := by decide +kernel
theorem dX9_totalFixed_89 : decode cX9_totalFixed 89 = .ok (.aload_n 0, 1) := by decide +kernel
theorem dX9_totalFixed_90 : decode cX9_totalFixed 90 = .ok (.getfield 32, 3) := by decide +kernel
theorem dX9_totalFixed_93 : decode cX9_totalFixed 93 = .ok (.iload_n 1, 1) := by decide +kernel
theorem dX9_totalFixed_94 : decode cX9_totalFixed 94 = .ok (.aload 5, 2) := by decide +kernel
theorem dX9_totalFixed_96 : decode cX9_totalFixed 96 = .ok (.aastore, 1) := by decide +kernel
theorem dX9_totalFixed_97 : decode cX9_totalFixed 97 = .ok (.iload 6, 2) := by decide +kernel
theorem dX9_totalFixed_99 : decode cX9_totalFixed 99 = .ok (.ireturn, 1) := by decide +kernel
theorem dX9_digest_0 : decode cX9_digest 0 = .ok (.aload_n 0, 1) := by decide +kernel
theorem dX9_digest_1 : decode cX9_digest 1 = .ok (.iconst 0, 1) := by decide +kernel
theorem dX9_digest_2 : decode cX9_digest 2 = .ok (.putfield 44, 3) := by decide +kernel
theorem dX9_digest_5 : decode cX9_digest 5 = .ok (.ldc2_w 220, 3) := by decide +kernel
theorem dX9_digest_8 : decode cX9_digest 8 = .ok (.lstore_n 1, 1) := by decide +kernel
theorem dX9_digest_9 : decode cX9_digest 9 = .ok (.aload_n 0, 1) := by decide +kernel
theorem dX9_digest_10 : decode cX9_digest 10 = .ok (.invokevirtual 172, 3) := by decide +kernel
theorem dX9_digest_13 : decode cX9_digest 13 = .ok (.astore_n 3, 1) := by decide +kernel
theorem dX9_digest_14 : decode cX9_digest 14 = .ok (.aload_n 0, 1) := by decide +kernel
theorem dX9_digest_15 : decode cX9_digest 15 = .ok (.aload_n 3, 1) := by decide +kernel
theorem dX9_digest_16 : decode cX9_digest 16 = .ok (.invokevirtual 176, 3) := by decide +kernel
theorem dX9_digest_19 : decode cX9_digest 19 = .ok (.astore 4, 2) := by decide +kernel
theorem dX9_digest_21 : decode cX9_digest 21 = .ok (.iconst 0, 1) := by decide +kernel
theorem dX9_digest_22 : decode cX9_digest 22 = .ok (.istore 5, 2) := by decide +kernel
theorem dX9_digest_24 : decode cX9_digest 24 = .ok (.iload 5, 2) := by decide +kernel
theorem dX9_digest_26 : decode cX9_digest 26 = .ok (.bipush 8, 2) := by decide +kernel
theorem dX9_digest_28 : decode cX9_digest 28 = .ok (.if_icmp .ge 26, 3) := by decide +kernel
theorem dX9_digest_31 : decode cX9_digest 31 = .ok (.lload_n 1, 1) := by decide +kernel
theorem dX9_digest_32 : decode cX9_digest 32 = .ok (.ldc2_w 222, 3) := by decide +kernel
theorem dX9_digest_35 : decode cX9_digest 35 = .ok (.lmul, 1) := by decide +kernel
theorem dX9_digest_36 : decode cX9_digest 36 = .ok (.aload_n 0, 1) := by decide +kernel
theorem dX9_digest_37 : decode cX9_digest 37 = .ok (.iload 5, 2) := by decide +kernel
theorem dX9_digest_39 : decode cX9_digest 39 = .ok (.aload_n 3, 1) := by decide +kernel
theorem dX9_digest_40 : decode cX9_digest 40 = .ok (.aload 4, 2) := by decide +kernel
theorem dX9_digest_42 : decode cX9_digest 42 = .ok (.invokevirtual 187, 3) := by decide +kernel
theorem dX9_digest_45 : decode cX9_digest 45 = .ok (.i2l, 1) := by decide +kernel
theorem dX9_digest_46 : decode cX9_digest 46 = .ok (.ladd, 1) := by decide +kernel
theorem dX9_digest_47 : decode cX9_digest 47 = .ok (.lstore_n 1, 1) := by decide +kernel
theorem dX9_digest_48 : decode cX9_digest 48 = .ok (.iinc 5 1, 3) := by decide +kernel
theorem dX9_digest_51 : decode cX9_digest 51 = .ok (.goto (-27), 3) := by decide +kernel
theorem dX9_digest_54 : decode cX9_digest 54 = .ok (.iconst 0, 1) := by decide +kernel
theorem dX9_digest_55 : decode cX9_digest 55 = .ok (.istore 5, 2) := by decide +kernel
theorem dX9_digest_57 : decode cX9_digest 57 = .ok (.iload 5, 2) := by decide +kernel
theorem dX9_digest_59 : decode cX9_digest 59 = .ok (.aload_n 0, 1) := by decide +kernel
theorem dX9_digest_60 : decode cX9_digest 60 = .ok (.getfield 54, 3) := by decide +kernel
theorem dX9_digest_63 : decode cX9_digest 63 = .ok (.if_icmp .ge 175, 3) := by decide +kernel
theorem dX9_digest_66 : decode cX9_digest 66 = .ok (.iconst 0, 1) := by decide +kernel
theorem dX9_digest_67 : decode cX9_digest 67 = .ok (.istore 6, 2) := by decide +kernel
theorem dX9_digest_69 : decode cX9_digest 69 = .ok (.iload 6, 2) := by decide +kernel
theorem dX9_digest_71 : decode cX9_digest 71 = .ok (.bipush 6, 2) := by decide +kernel
theorem dX9_digest_73 : decode cX9_digest 73 = .ok (.if_icmp .ge 25, 3) := by decide +kernel
theorem dX9_digest_76 : decode cX9_digest 76 = .ok (.lload_n 1, 1) := by decide +kernel
theorem dX9_digest_77 : decode cX9_digest 77 = .ok (.ldc2_w 222, 3) := by decide +kernel
theorem dX9_digest_80 : decode cX9_digest 80 = .ok (.lmul, 1) := by decide +kernel
theorem dX9_digest_81 : decode cX9_digest 81 = .ok (.aload_n 0, 1) := by decide +kernel
theorem dX9_digest_82 : decode cX9_digest 82 = .ok (.iload 5, 2) := by decide +kernel
theorem dX9_digest_84 : decode cX9_digest 84 = .ok (.iload 6, 2) := by decide +kernel
theorem dX9_digest_86 : decode cX9_digest 86 = .ok (.invokevirtual 154, 3) := by decide +kernel
theorem dX9_digest_89 : decode cX9_digest 89 = .ok (.i2l, 1) := by decide +kernel
theorem dX9_digest_90 : decode cX9_digest 90 = .ok (.ladd, 1) := by decide +kernel
theorem dX9_digest_91 : decode cX9_digest 91 = .ok (.lstore_n 1, 1) := by decide +kernel
theorem dX9_digest_92 : decode cX9_digest 92 = .ok (.iinc 6 1, 3) := by decide +kernel
theorem dX9_digest_95 : decode cX9_digest 95 = .ok (.goto (-26), 3) := by decide +kernel
theorem dX9_digest_98 : decode cX9_digest 98 = .ok (.lload_n 1, 1) := by decide +kernel
theorem dX9_digest_99 : decode cX9_digest 99 = .ok (.ldc2_w 222, 3) := by decide +kernel
theorem dX9_digest_102 : decode cX9_digest 102 = .ok (.lmul, 1) := by decide +kernel
theorem dX9_digest_103 : decode cX9_digest 103 = .ok (.aload 4, 2) := by decide +kernel
theorem dX9_digest_105 : decode cX9_digest 105 = .ok (.arraylength, 1) := by decide +kernel
theorem dX9_digest_106 : decode cX9_digest 106 = .ok (.ifCond .ne 7, 3) := by decide +kernel
theorem dX9_digest_109 : decode cX9_digest 109 = .ok (.iconst (-1), 1) := by decide +kernel
theorem dX9_digest_110 : decode cX9_digest 110 = .ok (.goto 8, 3) := by decide +kernel
theorem dX9_digest_113 : decode cX9_digest 113 = .ok (.aload 4, 2) := by decide +kernel
theorem dX9_digest_115 : decode cX9_digest 115 = .ok (.iload 5, 2) := by decide +kernel
theorem dX9_digest_117 : decode cX9_digest 117 = .ok (.iaload, 1) := by decide +kernel
theorem dX9_digest_118 : decode cX9_digest 118 = .ok (.i2l, 1) := by decide +kernel
theorem dX9_digest_119 : decode cX9_digest 119 = .ok (.ladd, 1) := by decide +kernel
theorem dX9_digest_120 : decode cX9_digest 120 = .ok (.lstore_n 1, 1) := by decide +kernel
theorem dX9_digest_121 : decode cX9_digest 121 = .ok (.iconst 0, 1) := by decide +kernel
theorem dX9_digest_122 : decode cX9_digest 122 = .ok (.istore 6, 2) := by decide +kernel
theorem dX9_digest_124 : decode cX9_digest 124 = .ok (.iload 6, 2) := by decide +kernel
theorem dX9_digest_126 : decode cX9_digest 126 = .ok (.bipush 6, 2) := by decide +kernel
theorem dX9_digest_128 : decode cX9_digest 128 = .ok (.if_icmp .ge 38, 3) := by decide +kernel
theorem dX9_digest_131 : decode cX9_digest 131 = .ok (.aload 4, 2) := by decide +kernel
theorem dX9_digest_133 : decode cX9_digest 133 = .ok (.arraylength, 1) := by decide +kernel
theorem dX9_digest_134 : decode cX9_digest 134 = .ok (.ifCond .le 32, 3) := by decide +kernel
theorem dX9_digest_137 : decode cX9_digest 137 = .ok (.lload_n 1, 1) := by decide +kernel
theorem dX9_digest_138 : decode cX9_digest 138 = .ok (.ldc2_w 222, 3) := by decide +kernel
theorem dX9_digest_141 : decode cX9_digest 141 = .ok (.lmul, 1) := by decide +kernel
theorem dX9_digest_142 : decode cX9_digest 142 = .ok (.aload_n 3, 1) := by decide +kernel
theorem dX9_digest_143 : decode cX9_digest 143 = .ok (.iload 5, 2) := by decide +kernel
theorem dX9_digest_145 : decode cX9_digest 145 = .ok (.aaload, 1) := by decide +kernel
theorem dX9_digest_146 : decode cX9_digest 146 = .ok (.aload 4, 2) := by decide +kernel
theorem dX9_digest_148 : decode cX9_digest 148 = .ok (.iload 5, 2) := by decide +kernel
theorem dX9_digest_150 : decode cX9_digest 150 = .ok (.iaload, 1) := by decide +kernel
theorem dX9_digest_151 : decode cX9_digest 151 = .ok (.aaload, 1) := by decide +kernel
theorem dX9_digest_152 : decode cX9_digest 152 = .ok (.iload 6, 2) := by decide +kernel
theorem dX9_digest_154 : decode cX9_digest 154 = .ok (.invokestatic 157, 3) := by decide +kernel
theorem dX9_digest_157 : decode cX9_digest 157 = .ok (.i2l, 1) := by decide +kernel
theorem dX9_digest_158 : decode cX9_digest 158 = .ok (.ladd, 1) := by decide +kernel
theorem dX9_digest_159 : decode cX9_digest 159 = .ok (.lstore_n 1, 1) := by decide +kernel
theorem dX9_digest_160 : decode cX9_digest 160 = .ok (.iinc 6 1, 3) := by decide +kernel
theorem dX9_digest_163 : decode cX9_digest 163 = .ok (.goto (-39), 3) := by decide +kernel
theorem dX9_digest_166 : decode cX9_digest 166 = .ok (.iconst 0, 1) := by decide +kernel
theorem dX9_digest_167 : decode cX9_digest 167 = .ok (.istore 6, 2) := by decide +kernel
theorem dX9_digest_169 : decode cX9_digest 169 = .ok (.iload 6, 2) := by decide +kernel
theorem dX9_digest_171 : decode cX9_digest 171 = .ok (.aload_n 0, 1) := by decide +kernel
theorem dX9_digest_172 : decode cX9_digest 172 = .ok (.getfield 47, 3) := by decide +kernel
theorem dX9_digest_175 : decode cX9_digest 175 = .ok (.if_icmp .ge 57, 3) := by decide +kernel
theorem dX9_digest_178 : decode cX9_digest 178 = .ok (.aload 4, 2) := by decide +kernel
theorem dX9_digest_180 : decode cX9_digest 180 = .ok (.arraylength, 1) := by decide +kernel
theorem dX9_digest_181 : decode cX9_digest 181 = .ok (.ifCond .le 51, 3) := by decide +kernel
theorem dX9_digest_184 : decode cX9_digest 184 = .ok (.lload_n 1, 1) := by decide +kernel
theorem dX9_digest_185 : decode cX9_digest 185 = .ok (.ldc2_w 222, 3) := by decide +kernel
theorem dX9_digest_188 : decode cX9_digest 188 = .ok (.lmul, 1) := by decide +kernel
theorem dX9_digest_189 : decode cX9_digest 189 = .ok (.aload_n 3, 1) := by decide +kernel
theorem dX9_digest_190 : decode cX9_digest 190 = .ok (.iload 5, 2) := by decide +kernel
theorem dX9_digest_192 : decode cX9_digest 192 = .ok (.aaload, 1) := by decide +kernel
theorem dX9_digest_193 : decode cX9_digest 193 = .ok (.aload 4, 2) := by decide +kernel
theorem dX9_digest_195 : decode cX9_digest 195 = .ok (.iload 5, 2) := by decide +kernel
theorem dX9_digest_197 : decode cX9_digest 197 = .ok (.iaload, 1) := by decide +kernel
theorem dX9_digest_198 : decode cX9_digest 198 = .ok (.aaload, 1) := by decide +kernel
theorem dX9_digest_199 : decode cX9_digest 199 = .ok (.iload 6, 2) := by decide +kernel
theorem dX9_digest_201 : decode cX9_digest 201 = .ok (.iaload, 1) := by decide +kernel
theorem dX9_digest_202 : decode cX9_digest 202 = .ok (.i2l, 1) := by decide +kernel
theorem dX9_digest_203 : decode cX9_digest 203 = .ok (.ladd, 1) := by decide +kernel
theorem dX9_digest_204 : decode cX9_digest 204 = .ok (.ldc2_w 222, 3) := by decide +kernel
theorem dX9_digest_207 : decode cX9_digest 207 = .ok (.lmul, 1) := by decide +kernel
theorem dX9_digest_208 : decode cX9_digest 208 = .ok (.aload_n 3, 1) := by decide +kernel
theorem dX9_digest_209 : decode cX9_digest 209 = .ok (.iload 5, 2) := by decide +kernel
theorem dX9_digest_211 : decode cX9_digest 211 = .ok (.aaload, 1) := by decide +kernel
theorem dX9_digest_212 : decode cX9_digest 212 = .ok (.aload 4, 2) := by decide +kernel
theorem dX9_digest_214 : decode cX9_digest 214 = .ok (.iload 5, 2) := by decide +kernel
theorem dX9_digest_216 : decode cX9_digest 216 = .ok (.iaload, 1) := by decide +kernel
theorem dX9_digest_217 : decode cX9_digest 217 = .ok (.aaload, 1) := by decide +kernel
theorem dX9_digest_218 : decode cX9_digest 218 = .ok (.iload 6, 2) := by decide +kernel
theorem dX9_digest_220 : decode cX9_digest 220 = .ok (.invokestatic 92, 3) := by decide +kernel
theorem dX9_digest_223 : decode cX9_digest 223 = .ok (.i2l, 1) := by decide +kernel
theorem dX9_digest_224 : decode cX9_digest 224 = .ok (.ladd, 1) := by decide +kernel
theorem dX9_digest_225 : decode cX9_digest 225 = .ok (.lstore_n 1, 1) := by decide +kernel
theorem dX9_digest_226 : decode cX9_digest 226 = .ok (.iinc 6 1, 3) := by decide +kernel
theorem dX9_digest_229 : decode cX9_digest 229 = .ok (.goto (-60), 3) := by decide +kernel
theorem dX9_digest_232 : decode cX9_digest 232 = .ok (.iinc 5 1, 3) := by decide +kernel
theorem dX9_digest_235 : decode cX9_digest 235 = .ok (.goto (-178), 3) := by decide +kernel
theorem dX9_digest_238 : decode cX9_digest 238 = .ok (.lload_n 1, 1) := by decide +kernel
theorem dX9_digest_239 : decode cX9_digest 239 = .ok (.ldc2_w 222, 3) := by decide +kernel
theorem dX9_digest_242 : decode cX9_digest 242 = .ok (.lmul, 1) := by decide +kernel
theorem dX9_digest_243 : decode cX9_digest 243 = .ok (.aload 4, 2) := by decide +kernel
theorem dX9_digest_245 : decode cX9_digest 245 = .ok (.arraylength, 1) := by decide +kernel
theorem dX9_digest_246 : decode cX9_digest 246 = .ok (.ifCond .ne 7, 3) := by decide +kernel
theorem dX9_digest_249 : decode cX9_digest 249 = .ok (.iconst (-1), 1) := by decide +kernel
theorem dX9_digest_250 : decode cX9_digest 250 = .ok (.goto 10, 3) := by decide +kernel
theorem dX9_digest_253 : decode cX9_digest 253 = .ok (.aload 4, 2) := by decide +kernel
theorem dX9_digest_255 : decode cX9_digest 255 = .ok (.aload_n 0, 1) := by decide +kernel
theorem dX9_digest_256 : decode cX9_digest 256 = .ok (.getfield 54, 3) := by decide +kernel
theorem dX9_digest_259 : decode cX9_digest 259 = .ok (.iaload, 1) := by decide +kernel
theorem dX9_digest_260 : decode cX9_digest 260 = .ok (.i2l, 1) := by decide +kernel
theorem dX9_digest_261 : decode cX9_digest 261 = .ok (.ladd, 1) := by decide +kernel
theorem dX9_digest_262 : decode cX9_digest 262 = .ok (.ldc2_w 222, 3) := by decide +kernel
theorem dX9_digest_265 : decode cX9_digest 265 = .ok (.lmul, 1) := by decide +kernel
theorem dX9_digest_266 : decode cX9_digest 266 = .ok (.aload_n 0, 1) := by decide +kernel
theorem dX9_digest_267 : decode cX9_digest 267 = .ok (.aload_n 3, 1) := by decide +kernel
theorem dX9_digest_268 : decode cX9_digest 268 = .ok (.aload 4, 2) := by decide +kernel
theorem dX9_digest_270 : decode cX9_digest 270 = .ok (.invokevirtual 183, 3) := by decide +kernel
theorem dX9_digest_273 : decode cX9_digest 273 = .ok (.i2l, 1) := by decide +kernel
theorem dX9_digest_274 : decode cX9_digest 274 = .ok (.ladd, 1) := by decide +kernel
theorem dX9_digest_275 : decode cX9_digest 275 = .ok (.ldc2_w 222, 3) := by decide +kernel
theorem dX9_digest_278 : decode cX9_digest 278 = .ok (.lmul, 1) := by decide +kernel
theorem dX9_digest_279 : decode cX9_digest 279 = .ok (.aload_n 0, 1) := by decide +kernel
theorem dX9_digest_280 : decode cX9_digest 280 = .ok (.invokevirtual 214, 3) := by decide +kernel
theorem dX9_digest_283 : decode cX9_digest 283 = .ok (.i2l, 1) := by decide +kernel
theorem dX9_digest_284 : decode cX9_digest 284 = .ok (.ladd, 1) := by decide +kernel
theorem dX9_digest_285 : decode cX9_digest 285 = .ok (.lstore_n 1, 1) := by decide +kernel
theorem dX9_digest_286 : decode cX9_digest 286 = .ok (.iconst 0, 1) := by decide +kernel
theorem dX9_digest_287 : decode cX9_digest 287 = .ok (.istore 5, 2) := by decide +kernel
theorem dX9_digest_289 : decode cX9_digest 289 = .ok (.iload 5, 2) := by decide +kernel
theorem dX9_digest_291 : decode cX9_digest 291 = .ok (.aload_n 0, 1) := by decide +kernel
theorem dX9_digest_292 : decode cX9_digest 292 = .ok (.getfield 47, 3) := by decide +kernel
theorem dX9_digest_295 : decode cX9_digest 295 = .ok (.if_icmp .ge 23, 3) := by decide +kernel
theorem dX9_digest_298 : decode cX9_digest 298 = .ok (.lload_n 1, 1) := by decide +kernel
theorem dX9_digest_299 : decode cX9_digest 299 = .ok (.ldc2_w 222, 3) := by decide +kernel
theorem dX9_digest_302 : decode cX9_digest 302 = .ok (.lmul, 1) := by decide +kernel
theorem dX9_digest_303 : decode cX9_digest 303 = .ok (.aload_n 0, 1) := by decide +kernel
theorem dX9_digest_304 : decode cX9_digest 304 = .ok (.iload 5, 2) := by decide +kernel
theorem dX9_digest_306 : decode cX9_digest 306 = .ok (.invokevirtual 217, 3) := by decide +kernel
theorem dX9_digest_309 : decode cX9_digest 309 = .ok (.i2l, 1) := by decide +kernel
theorem dX9_digest_310 : decode cX9_digest 310 = .ok (.ladd, 1) := by decide +kernel
theorem dX9_digest_311 : decode cX9_digest 311 = .ok (.lstore_n 1, 1) := by decide +kernel
theorem dX9_digest_312 : decode cX9_digest 312 = .ok (.iinc 5 1, 3) := by decide +kernel
theorem dX9_digest_315 : decode cX9_digest 315 = .ok (.goto (-26), 3) := by decide +kernel
theorem dX9_digest_318 : decode cX9_digest 318 = .ok (.aload_n 0, 1) := by decide +kernel
theorem dX9_digest_319 : decode cX9_digest 319 = .ok (.sipush 145, 3) := by decide +kernel
theorem dX9_digest_322 : decode cX9_digest 322 = .ok (.iconst 0, 1) := by decide +kernel
theorem dX9_digest_323 : decode cX9_digest 323 = .ok (.iconst 1, 1) := by decide +kernel
theorem dX9_digest_324 : decode cX9_digest 324 = .ok (.invokevirtual 207, 3) := by decide +kernel
theorem dX9_digest_327 : decode cX9_digest 327 = .ok (.lload_n 1, 1) := by decide +kernel
theorem dX9_digest_328 : decode cX9_digest 328 = .ok (.ldc2_w 222, 3) := by decide +kernel
theorem dX9_digest_331 : decode cX9_digest 331 = .ok (.lmul, 1) := by decide +kernel
theorem dX9_digest_332 : decode cX9_digest 332 = .ok (.aload_n 0, 1) := by decide +kernel
theorem dX9_digest_333 : decode cX9_digest 333 = .ok (.getfield 191, 3) := by decide +kernel
theorem dX9_digest_336 : decode cX9_digest 336 = .ok (.i2l, 1) := by decide +kernel
theorem dX9_digest_337 : decode cX9_digest 337 = .ok (.ladd, 1) := by decide +kernel
theorem dX9_digest_338 : decode cX9_digest 338 = .ok (.ldc2_w 222, 3) := by decide +kernel
theorem dX9_digest_341 : decode cX9_digest 341 = .ok (.lmul, 1) := by decide +kernel
theorem dX9_digest_342 : decode cX9_digest 342 = .ok (.aload_n 0, 1) := by decide +kernel
theorem dX9_digest_343 : decode cX9_digest 343 = .ok (.getfield 191, 3) := by decide +kernel
theorem dX9_digest_346 : decode cX9_digest 346 = .ok (.ifCond .ne 7, 3) := by decide +kernel
theorem dX9_digest_349 : decode cX9_digest 349 = .ok (.iconst (-1), 1) := by decide +kernel
theorem dX9_digest_350 : decode cX9_digest 350 = .ok (.goto 10, 3) := by decide +kernel
theorem dX9_digest_353 : decode cX9_digest 353 = .ok (.aload_n 0, 1) := by decide +kernel
theorem dX9_digest_354 : decode cX9_digest 354 = .ok (.getfield 41, 3) := by decide +kernel
theorem dX9_digest_357 : decode cX9_digest 357 = .ok (.invokestatic 114, 3) := by decide +kernel
theorem dX9_digest_360 : decode cX9_digest 360 = .ok (.i2l, 1) := by decide +kernel
theorem dX9_digest_361 : decode cX9_digest 361 = .ok (.ladd, 1) := by decide +kernel
theorem dX9_digest_362 : decode cX9_digest 362 = .ok (.lreturn, 1) := by decide +kernel
theorem dJ6_bitCount_0f7a4_0 : decode cJ6_bitCount_0f7a4 0 = .ok (.iload_n 0, 1) := by decide +kernel
theorem dJ6_bitCount_0f7a4_1 : decode cJ6_bitCount_0f7a4 1 = .ok (.iload_n 0, 1) := by decide +kernel
theorem dJ6_bitCount_0f7a4_2 : decode cJ6_bitCount_0f7a4 2 = .ok (.iconst 1, 1) := by decide +kernel
theorem dJ6_bitCount_0f7a4_3 : decode cJ6_bitCount_0f7a4 3 = .ok (.iushr, 1) := by decide +kernel
theorem dJ6_bitCount_0f7a4_4 : decode cJ6_bitCount_0f7a4 4 = .ok (.ldc_w 265, 3) := by decide +kernel
theorem dJ6_bitCount_0f7a4_7 : decode cJ6_bitCount_0f7a4 7 = .ok (.iand, 1) := by decide +kernel
theorem dJ6_bitCount_0f7a4_8 : decode cJ6_bitCount_0f7a4 8 = .ok (.isub, 1) := by decide +kernel
theorem dJ6_bitCount_0f7a4_9 : decode cJ6_bitCount_0f7a4 9 = .ok (.istore_n 0, 1) := by decide +kernel
theorem dJ6_bitCount_0f7a4_10 : decode cJ6_bitCount_0f7a4 10 = .ok (.iload_n 0, 1) := by decide +kernel
theorem dJ6_bitCount_0f7a4_11 : decode cJ6_bitCount_0f7a4 11 = .ok (.ldc_w 266, 3) := by decide +kernel
theorem dJ6_bitCount_0f7a4_14 : decode cJ6_bitCount_0f7a4 14 = .ok (.iand, 1) := by decide +kernel
theorem dJ6_bitCount_0f7a4_15 : decode cJ6_bitCount_0f7a4 15 = .ok (.iload_n 0, 1) := by decide +kernel
theorem dJ6_bitCount_0f7a4_16 : decode cJ6_bitCount_0f7a4 16 = .ok (.iconst 2, 1) := by decide +kernel
theorem dJ6_bitCount_0f7a4_17 : decode cJ6_bitCount_0f7a4 17 = .ok (.iushr, 1) := by decide +kernel
theorem dJ6_bitCount_0f7a4_18 : decode cJ6_bitCount_0f7a4 18 = .ok (.ldc_w 266, 3) := by decide +kernel
theorem dJ6_bitCount_0f7a4_21 : decode cJ6_bitCount_0f7a4 21 = .ok (.iand, 1) := by decide +kernel
theorem dJ6_bitCount_0f7a4_22 : decode cJ6_bitCount_0f7a4 22 = .ok (.iadd, 1) := by decide +kernel
theorem dJ6_bitCount_0f7a4_23 : decode cJ6_bitCount_0f7a4 23 = .ok (.istore_n 0, 1) := by decide +kernel
theorem dJ6_bitCount_0f7a4_24 : decode cJ6_bitCount_0f7a4 24 = .ok (.iload_n 0, 1) := by decide +kernel
theorem dJ6_bitCount_0f7a4_25 : decode cJ6_bitCount_0f7a4 25 = .ok (.iload_n 0, 1) := by decide +kernel
theorem dJ6_bitCount_0f7a4_26 : decode cJ6_bitCount_0f7a4 26 = .ok (.iconst 4, 1) := by decide +kernel
theorem dJ6_bitCount_0f7a4_27 : decode cJ6_bitCount_0f7a4 27 = .ok (.iushr, 1) := by decide +kernel
theorem dJ6_bitCount_0f7a4_28 : decode cJ6_bitCount_0f7a4 28 = .ok (.iadd, 1) := by decide +kernel
theorem dJ6_bitCount_0f7a4_29 : decode cJ6_bitCount_0f7a4 29 = .ok (.ldc_w 267, 3) := by decide +kernel
theorem dJ6_bitCount_0f7a4_32 : decode cJ6_bitCount_0f7a4 32 = .ok (.iand, 1) := by decide +kernel
theorem dJ6_bitCount_0f7a4_33 : decode cJ6_bitCount_0f7a4 33 = .ok (.istore_n 0, 1) := by decide +kernel
theorem dJ6_bitCount_0f7a4_34 : decode cJ6_bitCount_0f7a4 34 = .ok (.iload_n 0, 1) := by decide +kernel
theorem dJ6_bitCount_0f7a4_35 : decode cJ6_bitCount_0f7a4 35 = .ok (.iload_n 0, 1) := by decide +kernel
theorem dJ6_bitCount_0f7a4_36 : decode cJ6_bitCount_0f7a4 36 = .ok (.bipush 8, 2) := by decide +kernel
theorem dJ6_bitCount_0f7a4_38 : decode cJ6_bitCount_0f7a4 38 = .ok (.iushr, 1) := by decide +kernel
theorem dJ6_bitCount_0f7a4_39 : decode cJ6_bitCount_0f7a4 39 = .ok (.iadd, 1) := by decide +kernel
theorem dJ6_bitCount_0f7a4_40 : decode cJ6_bitCount_0f7a4 40 = .ok (.istore_n 0, 1) := by decide +kernel
theorem dJ6_bitCount_0f7a4_41 : decode cJ6_bitCount_0f7a4 41 = .ok (.iload_n 0, 1) := by decide +kernel
theorem dJ6_bitCount_0f7a4_42 : decode cJ6_bitCount_0f7a4 42 = .ok (.iload_n 0, 1) := by decide +kernel
theorem dJ6_bitCount_0f7a4_43 : decode cJ6_bitCount_0f7a4 43 = .ok (.bipush 16, 2) := by decide +kernel
theorem dJ6_bitCount_0f7a4_45 : decode cJ6_bitCount_0f7a4 45 = .ok (.iushr, 1) := by decide +kernel
theorem dJ6_bitCount_0f7a4_46 : decode cJ6_bitCount_0f7a4 46 = .ok (.iadd, 1) := by decide +kernel
theorem dJ6_bitCount_0f7a4_47 : decode cJ6_bitCount_0f7a4 47 = .ok (.istore_n 0, 1) := by decide +kernel
theorem dJ6_bitCount_0f7a4_48 : decode cJ6_bitCount_0f7a4 48 = .ok (.iload_n 0, 1) := by decide +kernel
theorem dJ6_bitCount_0f7a4_49 : decode cJ6_bitCount_0f7a4 49 = .ok (.bipush 63, 2) := by decide +kernel
theorem dJ6_bitCount_0f7a4_51 : decode cJ6_bitCount_0f7a4 51 = .ok (.iand, 1) := by decide +kernel
theorem dJ6_bitCount_0f7a4_52 : decode cJ6_bitCount_0f7a4 52 = .ok (.ireturn, 1) := by decide +kernel
theorem dJ9_abs_0f7a4_0 : decode cJ9_abs_0f7a4 0 = .ok (.iload_n 0, 1) := by decide +kernel
theorem dJ9_abs_0f7a4_1 : decode cJ9_abs_0f7a4 1 = .ok (.ifCond .ge 8, 3) := by decide +kernel
theorem dJ9_abs_0f7a4_4 : decode cJ9_abs_0f7a4 4 = .ok (.iload_n 0, 1) := by decide +kernel
theorem dJ9_abs_0f7a4_5 : decode cJ9_abs_0f7a4 5 = .ok (.ineg, 1) := by decide +kernel
theorem dJ9_abs_0f7a4_6 : decode cJ9_abs_0f7a4 6 = .ok (.goto 4, 3) := by decide +kernel
theorem dJ9_abs_0f7a4_9 : decode cJ9_abs_0f7a4 9 = .ok (.iload_n 0, 1) := by decide +kernel
theorem dJ9_abs_0f7a4_10 : decode cJ9_abs_0f7a4 10 = .ok (.ireturn, 1) := by decide +kernel
theorem dJ9_max_7cf53_0 : decode cJ9_max_7cf53 0 = .ok (.iload_n 0, 1) := by decide +kernel
theorem dJ9_max_7cf53_1 : decode cJ9_max_7cf53 1 = .ok (.iload_n 1, 1) := by decide +kernel
theorem dJ9_max_7cf53_2 : decode cJ9_max_7cf53 2 = .ok (.if_icmp .lt 7, 3) := by decide +kernel
theorem dJ9_max_7cf53_5 : decode cJ9_max_7cf53 5 = .ok (.iload_n 0, 1) := by decide +kernel
theorem dJ9_max_7cf53_6 : decode cJ9_max_7cf53 6 = .ok (.goto 4, 3) := by decide +kernel
theorem dJ9_max_7cf53_9 : decode cJ9_max_7cf53 9 = .ok (.iload_n 1, 1) := by decide +kernel
theorem dJ9_max_7cf53_10 : decode cJ9_max_7cf53 10 = .ok (.ireturn, 1) := by decide +kernel
theorem dJ9_min_7cf53_0 : decode cJ9_min_7cf53 0 = .ok (.iload_n 0, 1) := by decide +kernel
theorem dJ9_min_7cf53_1 : decode cJ9_min_7cf53 1 = .ok (.iload_n 1, 1) := by decide +kernel
theorem dJ9_min_7cf53_2 : decode cJ9_min_7cf53 2 = .ok (.if_icmp .gt 7, 3) := by decide +kernel
theorem dJ9_min_7cf53_5 : decode cJ9_min_7cf53 5 = .ok (.iload_n 0, 1) := by decide +kernel
theorem dJ9_min_7cf53_6 : decode cJ9_min_7cf53 6 = .ok (.goto 4, 3) := by decide +kernel
theorem dJ9_min_7cf53_9 : decode cJ9_min_7cf53 9 = .ok (.iload_n 1, 1) := by decide +kernel
theorem dJ9_min_7cf53_10 : decode cJ9_min_7cf53 10 = .ok (.ireturn, 1) := by decide +kernel
theorem dL_string_0 : decode cL_string 0 = .ok (.aload_n 2, 1) := by decide +kernel
theorem dL_string_1 : decode cL_string 1 = .ok (.iconst 0, 1) := by decide +kernel
theorem dL_string_2 : decode cL_string 2 = .ok (.aload_n 0, 1) := by decide +kernel
theorem dL_string_3 : decode cL_string 3 = .ok (.iload_n 1, 1) := by decide +kernel
theorem dL_string_4 : decode cL_string 4 = .ok (.invokevirtual 7, 3) := by decide +kernel
theorem dL_string_7 : decode cL_string 7 = .ok (.i2l, 1) := by decide +kernel
theorem dL_string_8 : decode cL_string 8 = .ok (.lastore, 1) := by decide +kernel
theorem dL_string_9 : decode cL_string 9 = .ok (.goto 9, 3) := by decide +kernel
theorem dL_string_12 : decode cL_string 12 = .ok (.astore_n 3, 1) := by decide +kernel
theorem dL_string_13 : decode cL_string 13 = .ok (.iconst 1, 1) := by decide +kernel
theorem dL_string_14 : decode cL_string 14 = .ok (.ireturn, 1) := by decide +kernel
theorem dL_string_15 : decode cL_string 15 = .ok (.astore_n 3, 1) := by decide +kernel
theorem dL_string_16 : decode cL_string 16 = .ok (.iconst 2, 1) := by decide +kernel
theorem dL_string_17 : decode cL_string 17 = .ok (.ireturn, 1) := by decide +kernel
theorem dL_string_18 : decode cL_string 18 = .ok (.iconst 0, 1) := by decide +kernel
theorem dL_string_19 : decode cL_string 19 = .ok (.ireturn, 1) := by decide +kernel
theorem dL_tune_0 : decode cL_tune 0 = .ok (.aload_n 3, 1) := by decide +kernel
theorem dL_tune_1 : decode cL_tune 1 = .ok (.iconst 0, 1) := by decide +kernel
theorem dL_tune_2 : decode cL_tune 2 = .ok (.aload_n 0, 1) := by decide +kernel
theorem dL_tune_3 : decode cL_tune 3 = .ok (.iload_n 1, 1) := by decide +kernel
theorem dL_tune_4 : decode cL_tune 4 = .ok (.iload_n 2, 1) := by decide +kernel
theorem dL_tune_5 : decode cL_tune 5 = .ok (.invokevirtual 17, 3) := by decide +kernel
theorem dL_tune_8 : decode cL_tune 8 = .ok (.i2l, 1) := by decide +kernel
theorem dL_tune_9 : decode cL_tune 9 = .ok (.lastore, 1) := by decide +kernel
theorem dL_tune_10 : decode cL_tune 10 = .ok (.goto 11, 3) := by decide +kernel
theorem dL_tune_13 : decode cL_tune 13 = .ok (.astore 4, 2) := by decide +kernel
theorem dL_tune_15 : decode cL_tune 15 = .ok (.iconst 1, 1) := by decide +kernel
theorem dL_tune_16 : decode cL_tune 16 = .ok (.ireturn, 1) := by decide +kernel
theorem dL_tune_17 : decode cL_tune 17 = .ok (.astore 4, 2) := by decide +kernel
theorem dL_tune_19 : decode cL_tune 19 = .ok (.iconst 2, 1) := by decide +kernel
theorem dL_tune_20 : decode cL_tune 20 = .ok (.ireturn, 1) := by decide +kernel
theorem dL_tune_21 : decode cL_tune 21 = .ok (.iconst 0, 1) := by decide +kernel
theorem dL_tune_22 : decode cL_tune 22 = .ok (.ireturn, 1) := by decide +kernel
theorem dL_slacken_0 : decode cL_slacken 0 = .ok (.aload_n 3, 1) := by decide +kernel
theorem dL_slacken_1 : decode cL_slacken 1 = .ok (.iconst 0, 1) := by decide +kernel
theorem dL_slacken_2 : decode cL_slacken 2 = .ok (.aload_n 0, 1) := by decide +kernel
theorem dL_slacken_3 : decode cL_slacken 3 = .ok (.iload_n 1, 1) := by decide +kernel
theorem dL_slacken_4 : decode cL_slacken 4 = .ok (.iload_n 2, 1) := by decide +kernel
theorem dL_slacken_5 : decode cL_slacken 5 = .ok (.invokevirtual 23, 3) := by decide +kernel
theorem dL_slacken_8 : decode cL_slacken 8 = .ok (.i2l, 1) := by decide +kernel
theorem dL_slacken_9 : decode cL_slacken 9 = .ok (.lastore, 1) := by decide +kernel
theorem dL_slacken_10 : decode cL_slacken 10 = .ok (.goto 7, 3) := by decide +kernel
theorem dL_slacken_13 : decode cL_slacken 13 = .ok (.astore 4, 2) := by decide +kernel
theorem dL_slacken_15 : decode cL_slacken 15 = .ok (.iconst 1, 1) := by decide +kernel
theorem dL_slacken_16 : decode cL_slacken 16 = .ok (.ireturn, 1) := by decide +kernel
theorem dL_slacken_17 : decode cL_slacken 17 = .ok (.iconst 0, 1) := by decide +kernel
theorem dL_slacken_18 : decode cL_slacken 18 = .ok (.ireturn, 1) := by decide +kernel
theorem dL_capo_0 : decode cL_capo 0 = .ok (.aload_n 2, 1) := by decide +kernel
theorem dL_capo_1 : decode cL_capo 1 = .ok (.iconst 0, 1) := by decide +kernel
theorem dL_capo_2 : decode cL_capo 2 = .ok (.aload_n 0, 1) := by decide +kernel
theorem dL_capo_3 : decode cL_capo 3 = .ok (.iload_n 1, 1) := by decide +kernel
theorem dL_capo_4 : decode cL_capo 4 = .ok (.invokevirtual 27, 3) := by decide +kernel
theorem dL_capo_7 : decode cL_capo 7 = .ok (.i2l, 1) := by decide +kernel
theorem dL_capo_8 : decode cL_capo 8 = .ok (.lastore, 1) := by decide +kernel
theorem dL_capo_9 : decode cL_capo 9 = .ok (.goto 6, 3) := by decide +kernel
theorem dL_capo_12 : decode cL_capo 12 = .ok (.astore_n 3, 1) := by decide +kernel
theorem dL_capo_13 : decode cL_capo 13 = .ok (.iconst 1, 1) := by decide +kernel
theorem dL_capo_14 : decode cL_capo 14 = .ok (.ireturn, 1) := by decide +kernel
theorem dL_capo_15 : decode cL_capo 15 = .ok (.iconst 0, 1) := by decide +kernel
theorem dL_capo_16 : decode cL_capo 16 = .ok (.ireturn, 1) := by decide +kernel
theorem dL_reach_0 : decode cL_reach 0 = .ok (.aload_n 2, 1) := by decide +kernel
theorem dL_reach_1 : decode cL_reach 1 = .ok (.iconst 0, 1) := by decide +kernel
theorem dL_reach_2 : decode cL_reach 2 = .ok (.aload_n 0, 1) := by decide +kernel
theorem dL_reach_3 : decode cL_reach 3 = .ok (.iload_n 1, 1) := by decide +kernel
theorem dL_reach_4 : decode cL_reach 4 = .ok (.invokevirtual 30, 3) := by decide +kernel
theorem dL_reach_7 : decode cL_reach 7 = .ok (.i2l, 1) := by decide +kernel
theorem dL_reach_8 : decode cL_reach 8 = .ok (.lastore, 1) := by decide +kernel
theorem dL_reach_9 : decode cL_reach 9 = .ok (.goto 6, 3) := by decide +kernel
theorem dL_reach_12 : decode cL_reach 12 = .ok (.astore_n 3, 1) := by decide +kernel
theorem dL_reach_13 : decode cL_reach 13 = .ok (.iconst 1, 1) := by decide +kernel
theorem dL_reach_14 : decode cL_reach 14 = .ok (.ireturn, 1) := by decide +kernel
theorem dL_reach_15 : decode cL_reach 15 = .ok (.iconst 0, 1) := by decide +kernel
theorem dL_reach_16 : decode cL_reach 16 = .ok (.ireturn, 1) := by decide +kernel
theorem dL_fretOf_0 : decode cL_fretOf 0 = .ok (.aload_n 3, 1) := by decide +kernel
theorem dL_fretOf_1 : decode cL_fretOf 1 = .ok (.iconst 0, 1) := by decide +kernel
theorem dL_fretOf_2 : decode cL_fretOf 2 = .ok (.aload_n 0, 1) := by decide +kernel
theorem dL_fretOf_3 : decode cL_fretOf 3 = .ok (.iload_n 1, 1) := by decide +kernel
theorem dL_fretOf_4 : decode cL_fretOf 4 = .ok (.iload_n 2, 1) := by decide +kernel
theorem dL_fretOf_5 : decode cL_fretOf 5 = .ok (.invokevirtual 33, 3) := by decide +kernel
theorem dL_fretOf_8 : decode cL_fretOf 8 = .ok (.i2l, 1) := by decide +kernel
theorem dL_fretOf_9 : decode cL_fretOf 9 = .ok (.lastore, 1) := by decide +kernel
theorem dL_fretOf_10 : decode cL_fretOf 10 = .ok (.goto 11, 3) := by decide +kernel
theorem dL_fretOf_13 : decode cL_fretOf 13 = .ok (.astore 4, 2) := by decide +kernel
theorem dL_fretOf_15 : decode cL_fretOf 15 = .ok (.iconst 1, 1) := by decide +kernel
theorem dL_fretOf_16 : decode cL_fretOf 16 = .ok (.ireturn, 1) := by decide +kernel
theorem dL_fretOf_17 : decode cL_fretOf 17 = .ok (.astore 4, 2) := by decide +kernel
theorem dL_fretOf_19 : decode cL_fretOf 19 = .ok (.iconst 2, 1) := by decide +kernel
theorem dL_fretOf_20 : decode cL_fretOf 20 = .ok (.ireturn, 1) := by decide +kernel
theorem dL_fretOf_21 : decode cL_fretOf 21 = .ok (.iconst 0, 1) := by decide +kernel
theorem dL_fretOf_22 : decode cL_fretOf 22 = .ok (.ireturn, 1) := by decide +kernel
theorem dL_chord_0 : decode cL_chord 0 = .ok (.aload 6, 2) := by decide +kernel
theorem dL_chord_2 : decode cL_chord 2 = .ok (.iconst 0, 1) := by decide +kernel
theorem dL_chord_3 : decode cL_chord 3 = .ok (.aload_n 0, 1) := by decide +kernel
theorem dL_chord_4 : decode cL_chord 4 = .ok (.iload_n 1, 1) := by decide +kernel
theorem dL_chord_5 : decode cL_chord 5 = .ok (.iload_n 2, 1) := by decide +kernel
theorem dL_chord_6 : decode cL_chord 6 = .ok (.iload_n 3, 1) := by decide +kernel
theorem dL_chord_7 : decode cL_chord 7 = .ok (.iload 4, 2) := by decide +kernel
theorem dL_chord_9 : decode cL_chord 9 = .ok (.iload 5, 2) := by decide +kernel
theorem dL_chord_11 : decode cL_chord 11 = .ok (.invokevirtual 36, 3) := by decide +kernel
theorem dL_chord_14 : decode cL_chord 14 = .ok (.i2l, 1) := by decide +kernel
theorem dL_chord_15 : decode cL_chord 15 = .ok (.lastore, 1) := by decide +kernel
theorem dL_chord_16 : decode cL_chord 16 = .ok (.goto 11, 3) := by decide +kernel
theorem dL_chord_19 : decode cL_chord 19 = .ok (.astore 7, 2) := by decide +kernel
theorem dL_chord_21 : decode cL_chord 21 = .ok (.iconst 1, 1) := by decide +kernel
theorem dL_chord_22 : decode cL_chord 22 = .ok (.ireturn, 1) := by decide +kernel
theorem dL_chord_23 : decode cL_chord 23 = .ok (.astore 7, 2) := by decide +kernel
theorem dL_chord_25 : decode cL_chord 25 = .ok (.iconst 2, 1) := by decide +kernel
theorem dL_chord_26 : decode cL_chord 26 = .ok (.ireturn, 1) := by decide +kernel
theorem dL_chord_27 : decode cL_chord 27 = .ok (.iconst 0, 1) := by decide +kernel
theorem dL_chord_28 : decode cL_chord 28 = .ok (.ireturn, 1) := by decide +kernel
theorem dL_strike_0 : decode cL_strike 0 = .ok (.aload_n 2, 1) := by decide +kernel
theorem dL_strike_1 : decode cL_strike 1 = .ok (.iconst 0, 1) := by decide +kernel
theorem dL_strike_2 : decode cL_strike 2 = .ok (.aload_n 0, 1) := by decide +kernel
theorem dL_strike_3 : decode cL_strike 3 = .ok (.iload_n 1, 1) := by decide +kernel
theorem dL_strike_4 : decode cL_strike 4 = .ok (.invokevirtual 40, 3) := by decide +kernel
theorem dL_strike_7 : decode cL_strike 7 = .ok (.i2l, 1) := by decide +kernel
theorem dL_strike_8 : decode cL_strike 8 = .ok (.lastore, 1) := by decide +kernel
theorem dL_strike_9 : decode cL_strike 9 = .ok (.goto 6, 3) := by decide +kernel
theorem dL_strike_12 : decode cL_strike 12 = .ok (.astore_n 3, 1) := by decide +kernel
theorem dL_strike_13 : decode cL_strike 13 = .ok (.iconst 1, 1) := by decide +kernel
theorem dL_strike_14 : decode cL_strike 14 = .ok (.ireturn, 1) := by decide +kernel
theorem dL_strike_15 : decode cL_strike 15 = .ok (.iconst 0, 1) := by decide +kernel
theorem dL_strike_16 : decode cL_strike 16 = .ok (.ireturn, 1) := by decide +kernel
theorem dL_fix_0 : decode cL_fix 0 = .ok (.aload_n 3, 1) := by decide +kernel
theorem dL_fix_1 : decode cL_fix 1 = .ok (.iconst 0, 1) := by decide +kernel
theorem dL_fix_2 : decode cL_fix 2 = .ok (.aload_n 0, 1) := by decide +kernel
theorem dL_fix_3 : decode cL_fix 3 = .ok (.iload_n 1, 1) := by decide +kernel
theorem dL_fix_4 : decode cL_fix 4 = .ok (.iload_n 2, 1) := by decide +kernel
theorem dL_fix_5 : decode cL_fix 5 = .ok (.invokevirtual 43, 3) := by decide +kernel
theorem dL_fix_8 : decode cL_fix 8 = .ok (.i2l, 1) := by decide +kernel
theorem dL_fix_9 : decode cL_fix 9 = .ok (.lastore, 1) := by decide +kernel
theorem dL_fix_10 : decode cL_fix 10 = .ok (.goto 7, 3) := by decide +kernel
theorem dL_fix_13 : decode cL_fix 13 = .ok (.astore 4, 2) := by decide +kernel
theorem dL_fix_15 : decode cL_fix 15 = .ok (.iconst 1, 1) := by decide +kernel
theorem dL_fix_16 : decode cL_fix 16 = .ok (.ireturn, 1) := by decide +kernel
theorem dL_fix_17 : decode cL_fix 17 = .ok (.iconst 0, 1) := by decide +kernel
theorem dL_fix_18 : decode cL_fix 18 = .ok (.ireturn, 1) := by decide +kernel
theorem dL_ofChord_0 : decode cL_ofChord 0 = .ok (.aload_n 3, 1) := by decide +kernel
theorem dL_ofChord_1 : decode cL_ofChord 1 = .ok (.iconst 0, 1) := by decide +kernel
theorem dL_ofChord_2 : decode cL_ofChord 2 = .ok (.aload_n 0, 1) := by decide +kernel
theorem dL_ofChord_3 : decode cL_ofChord 3 = .ok (.iload_n 1, 1) := by decide +kernel
theorem dL_ofChord_4 : decode cL_ofChord 4 = .ok (.iload_n 2, 1) := by decide +kernel
theorem dL_ofChord_5 : decode cL_ofChord 5 = .ok (.invokevirtual 46, 3) := by decide +kernel
theorem dL_ofChord_8 : decode cL_ofChord 8 = .ok (.i2l, 1) := by decide +kernel
theorem dL_ofChord_9 : decode cL_ofChord 9 = .ok (.lastore, 1) := by decide +kernel
theorem dL_ofChord_10 : decode cL_ofChord 10 = .ok (.goto 11, 3) := by decide +kernel
theorem dL_ofChord_13 : decode cL_ofChord 13 = .ok (.astore 4, 2) := by decide +kernel
theorem dL_ofChord_15 : decode cL_ofChord 15 = .ok (.iconst 1, 1) := by decide +kernel
theorem dL_ofChord_16 : decode cL_ofChord 16 = .ok (.ireturn, 1) := by decide +kernel
theorem dL_ofChord_17 : decode cL_ofChord 17 = .ok (.astore 4, 2) := by decide +kernel
theorem dL_ofChord_19 : decode cL_ofChord 19 = .ok (.iconst 2, 1) := by decide +kernel
theorem dL_ofChord_20 : decode cL_ofChord 20 = .ok (.ireturn, 1) := by decide +kernel
theorem dL_ofChord_21 : decode cL_ofChord 21 = .ok (.iconst 0, 1) := by decide +kernel
theorem dL_ofChord_22 : decode cL_ofChord 22 = .ok (.ireturn, 1) := by decide +kernel
theorem dL_ofGrip_0 : decode cL_ofGrip 0 = .ok (.aload 4, 2) := by decide +kernel
theorem dL_ofGrip_2 : decode cL_ofGrip 2 = .ok (.iconst 0, 1) := by decide +kernel
theorem dL_ofGrip_3 : decode cL_ofGrip 3 = .ok (.aload_n 0, 1) := by decide +kernel
theorem dL_ofGrip_4 : decode cL_ofGrip 4 = .ok (.iload_n 1, 1) := by decide +kernel
theorem dL_ofGrip_5 : decode cL_ofGrip 5 = .ok (.iload_n 2, 1) := by decide +kernel
theorem dL_ofGrip_6 : decode cL_ofGrip 6 = .ok (.iload_n 3, 1) := by decide +kernel
theorem dL_ofGrip_7 : decode cL_ofGrip 7 = .ok (.invokevirtual 49, 3) := by decide +kernel
theorem dL_ofGrip_10 : decode cL_ofGrip 10 = .ok (.i2l, 1) := by decide +kernel
theorem dL_ofGrip_11 : decode cL_ofGrip 11 = .ok (.lastore, 1) := by decide +kernel
theorem dL_ofGrip_12 : decode cL_ofGrip 12 = .ok (.goto 11, 3) := by decide +kernel
theorem dL_ofGrip_15 : decode cL_ofGrip 15 = .ok (.astore 5, 2) := by decide +kernel
theorem dL_ofGrip_17 : decode cL_ofGrip 17 = .ok (.iconst 1, 1) := by decide +kernel
theorem dL_ofGrip_18 : decode cL_ofGrip 18 = .ok (.ireturn, 1) := by decide +kernel
theorem dL_ofGrip_19 : decode cL_ofGrip 19 = .ok (.astore 5, 2) := by decide +kernel
theorem dL_ofGrip_21 : decode cL_ofGrip 21 = .ok (.iconst 2, 1) := by decide +kernel
theorem dL_ofGrip_22 : decode cL_ofGrip 22 = .ok (.ireturn, 1) := by decide +kernel
theorem dL_ofGrip_23 : decode cL_ofGrip 23 = .ok (.iconst 0, 1) := by decide +kernel
theorem dL_ofGrip_24 : decode cL_ofGrip 24 = .ok (.ireturn, 1) := by decide +kernel
theorem dL_fret_0 : decode cL_fret 0 = .ok (.aload 4, 2) := by decide +kernel
theorem dL_fret_2 : decode cL_fret 2 = .ok (.iconst 0, 1) := by decide +kernel
theorem dL_fret_3 : decode cL_fret 3 = .ok (.aload_n 0, 1) := by decide +kernel
theorem dL_fret_4 : decode cL_fret 4 = .ok (.iload_n 1, 1) := by decide +kernel
theorem dL_fret_5 : decode cL_fret 5 = .ok (.iload_n 2, 1) := by decide +kernel
theorem dL_fret_6 : decode cL_fret 6 = .ok (.iload_n 3, 1) := by decide +kernel
theorem dL_fret_7 : decode cL_fret 7 = .ok (.invokevirtual 53, 3) := by decide +kernel
theorem dL_fret_10 : decode cL_fret 10 = .ok (.i2l, 1) := by decide +kernel
theorem dL_fret_11 : decode cL_fret 11 = .ok (.lastore, 1) := by decide +kernel
theorem dL_fret_12 : decode cL_fret 12 = .ok (.goto 7, 3) := by decide +kernel
theorem dL_fret_15 : decode cL_fret 15 = .ok (.astore 5, 2) := by decide +kernel
theorem dL_fret_17 : decode cL_fret 17 = .ok (.iconst 1, 1) := by decide +kernel
theorem dL_fret_18 : decode cL_fret 18 = .ok (.ireturn, 1) := by decide +kernel
theorem dL_fret_19 : decode cL_fret 19 = .ok (.iconst 0, 1) := by decide +kernel
theorem dL_fret_20 : decode cL_fret 20 = .ok (.ireturn, 1) := by decide +kernel
theorem dL_finger_0 : decode cL_finger 0 = .ok (.aload 4, 2) := by decide +kernel
theorem dL_finger_2 : decode cL_finger 2 = .ok (.iconst 0, 1) := by decide +kernel
theorem dL_finger_3 : decode cL_finger 3 = .ok (.aload_n 0, 1) := by decide +kernel
theorem dL_finger_4 : decode cL_finger 4 = .ok (.iload_n 1, 1) := by decide +kernel
theorem dL_finger_5 : decode cL_finger 5 = .ok (.iload_n 2, 1) := by decide +kernel
theorem dL_finger_6 : decode cL_finger 6 = .ok (.iload_n 3, 1) := by decide +kernel
theorem dL_finger_7 : decode cL_finger 7 = .ok (.invokevirtual 56, 3) := by decide +kernel
theorem dL_finger_10 : decode cL_finger 10 = .ok (.i2l, 1) := by decide +kernel
theorem dL_finger_11 : decode cL_finger 11 = .ok (.lastore, 1) := by decide +kernel
theorem dL_finger_12 : decode cL_finger 12 = .ok (.goto 7, 3) := by decide +kernel
theorem dL_finger_15 : decode cL_finger 15 = .ok (.astore 5, 2) := by decide +kernel
theorem dL_finger_17 : decode cL_finger 17 = .ok (.iconst 1, 1) := by decide +kernel
theorem dL_finger_18 : decode cL_finger 18 = .ok (.ireturn, 1) := by decide +kernel
theorem dL_finger_19 : decode cL_finger 19 = .ok (.iconst 0, 1) := by decide +kernel
theorem dL_finger_20 : decode cL_finger 20 = .ok (.ireturn, 1) := by decide +kernel
theorem dL_move_0 : decode cL_move 0 = .ok (.aload 4, 2) := by decide +kernel
theorem dL_move_2 : decode cL_move 2 = .ok (.iconst 0, 1) := by decide +kernel
theorem dL_move_3 : decode cL_move 3 = .ok (.aload_n 0, 1) := by decide +kernel
theorem dL_move_4 : decode cL_move 4 = .ok (.iload_n 1, 1) := by decide +kernel
theorem dL_move_5 : decode cL_move 5 = .ok (.iload_n 2, 1) := by decide +kernel
theorem dL_move_6 : decode cL_move 6 = .ok (.iload_n 3, 1) := by decide +kernel
theorem dL_move_7 : decode cL_move 7 = .ok (.invokevirtual 59, 3) := by decide +kernel
theorem dL_move_10 : decode cL_move 10 = .ok (.i2l, 1) := by decide +kernel
theorem dL_move_11 : decode cL_move 11 = .ok (.lastore, 1) := by decide +kernel
theorem dL_move_12 : decode cL_move 12 = .ok (.goto 7, 3) := by decide +kernel
theorem dL_move_15 : decode cL_move 15 = .ok (.astore 5, 2) := by decide +kernel
theorem dL_move_17 : decode cL_move 17 = .ok (.iconst 1, 1) := by decide +kernel
theorem dL_move_18 : decode cL_move 18 = .ok (.ireturn, 1) := by decide +kernel
theorem dL_move_19 : decode cL_move 19 = .ok (.iconst 0, 1) := by decide +kernel
theorem dL_move_20 : decode cL_move 20 = .ok (.ireturn, 1) := by decide +kernel
theorem dL_plan_0 : decode cL_plan 0 = .ok (.aload_n 2, 1) := by decide +kernel
theorem dL_plan_1 : decode cL_plan 1 = .ok (.iconst 0, 1) := by decide +kernel
theorem dL_plan_2 : decode cL_plan 2 = .ok (.aload_n 0, 1) := by decide +kernel
theorem dL_plan_3 : decode cL_plan 3 = .ok (.iload_n 1, 1) := by decide +kernel
theorem dL_plan_4 : decode cL_plan 4 = .ok (.invokevirtual 62, 3) := by decide +kernel
theorem dL_plan_7 : decode cL_plan 7 = .ok (.i2l, 1) := by decide +kernel
theorem dL_plan_8 : decode cL_plan 8 = .ok (.lastore, 1) := by decide +kernel
theorem dL_plan_9 : decode cL_plan 9 = .ok (.goto 6, 3) := by decide +kernel
theorem dL_plan_12 : decode cL_plan 12 = .ok (.astore_n 3, 1) := by decide +kernel
theorem dL_plan_13 : decode cL_plan 13 = .ok (.iconst 1, 1) := by decide +kernel
theorem dL_plan_14 : decode cL_plan 14 = .ok (.ireturn, 1) := by decide +kernel
theorem dL_plan_15 : decode cL_plan 15 = .ok (.iconst 0, 1) := by decide +kernel
theorem dL_plan_16 : decode cL_plan 16 = .ok (.ireturn, 1) := by decide +kernel
theorem dL_many_0 : decode cL_many 0 = .ok (.aload_n 2, 1) := by decide +kernel
theorem dL_many_1 : decode cL_many 1 = .ok (.iconst 0, 1) := by decide +kernel
theorem dL_many_2 : decode cL_many 2 = .ok (.aload_n 0, 1) := by decide +kernel
theorem dL_many_3 : decode cL_many 3 = .ok (.iload_n 1, 1) := by decide +kernel
theorem dL_many_4 : decode cL_many 4 = .ok (.invokevirtual 65, 3) := by decide +kernel
theorem dL_many_7 : decode cL_many 7 = .ok (.i2l, 1) := by decide +kernel
theorem dL_many_8 : decode cL_many 8 = .ok (.lastore, 1) := by decide +kernel
theorem dL_many_9 : decode cL_many 9 = .ok (.goto 6, 3) := by decide +kernel
theorem dL_many_12 : decode cL_many 12 = .ok (.astore_n 3, 1) := by decide +kernel
theorem dL_many_13 : decode cL_many 13 = .ok (.iconst 1, 1) := by decide +kernel
theorem dL_many_14 : decode cL_many 14 = .ok (.ireturn, 1) := by decide +kernel
theorem dL_many_15 : decode cL_many 15 = .ok (.iconst 0, 1) := by decide +kernel
theorem dL_many_16 : decode cL_many 16 = .ok (.ireturn, 1) := by decide +kernel
theorem dL_shapes_0 : decode cL_shapes 0 = .ok (.aload 4, 2) := by decide +kernel
theorem dL_shapes_2 : decode cL_shapes 2 = .ok (.iconst 0, 1) := by decide +kernel
theorem dL_shapes_3 : decode cL_shapes 3 = .ok (.aload_n 0, 1) := by decide +kernel
theorem dL_shapes_4 : decode cL_shapes 4 = .ok (.iload_n 1, 1) := by decide +kernel
theorem dL_shapes_5 : decode cL_shapes 5 = .ok (.iload_n 2, 1) := by decide +kernel
theorem dL_shapes_6 : decode cL_shapes 6 = .ok (.iload_n 3, 1) := by decide +kernel
theorem dL_shapes_7 : decode cL_shapes 7 = .ok (.invokevirtual 68, 3) := by decide +kernel
theorem dL_shapes_10 : decode cL_shapes 10 = .ok (.i2l, 1) := by decide +kernel
theorem dL_shapes_11 : decode cL_shapes 11 = .ok (.lastore, 1) := by decide +kernel
theorem dL_shapes_12 : decode cL_shapes 12 = .ok (.goto 7, 3) := by decide +kernel
theorem dL_shapes_15 : decode cL_shapes 15 = .ok (.astore 5, 2) := by decide +kernel
theorem dL_shapes_17 : decode cL_shapes 17 = .ok (.iconst 1, 1) := by decide +kernel
theorem dL_shapes_18 : decode cL_shapes 18 = .ok (.ireturn, 1) := by decide +kernel
theorem dL_shapes_19 : decode cL_shapes 19 = .ok (.iconst 0, 1) := by decide +kernel
theorem dL_shapes_20 : decode cL_shapes 20 = .ok (.ireturn, 1) := by decide +kernel
theorem dL_shapeEffort_0 : decode cL_shapeEffort 0 = .ok (.aload 4, 2) := by decide +kernel
theorem dL_shapeEffort_2 : decode cL_shapeEffort 2 = .ok (.iconst 0, 1) := by decide +kernel
theorem dL_shapeEffort_3 : decode cL_shapeEffort 3 = .ok (.aload_n 0, 1) := by decide +kernel
theorem dL_shapeEffort_4 : decode cL_shapeEffort 4 = .ok (.iload_n 1, 1) := by decide +kernel
theorem dL_shapeEffort_5 : decode cL_shapeEffort 5 = .ok (.iload_n 2, 1) := by decide +kernel
theorem dL_shapeEffort_6 : decode cL_shapeEffort 6 = .ok (.iload_n 3, 1) := by decide +kernel
theorem dL_shapeEffort_7 : decode cL_shapeEffort 7 = .ok (.invokevirtual 71, 3) := by decide +kernel
theorem dL_shapeEffort_10 : decode cL_shapeEffort 10 = .ok (.i2l, 1) := by decide +kernel
theorem dL_shapeEffort_11 : decode cL_shapeEffort 11 = .ok (.lastore, 1) := by decide +kernel
theorem dL_shapeEffort_12 : decode cL_shapeEffort 12 = .ok (.goto 7, 3) := by decide +kernel
theorem dL_shapeEffort_15 : decode cL_shapeEffort 15 = .ok (.astore 5, 2) := by decide +kernel
theorem dL_shapeEffort_17 : decode cL_shapeEffort 17 = .ok (.iconst 1, 1) := by decide +kernel
theorem dL_shapeEffort_18 : decode cL_shapeEffort 18 = .ok (.ireturn, 1) := by decide +kernel
theorem dL_shapeEffort_19 : decode cL_shapeEffort 19 = .ok (.iconst 0, 1) := by decide +kernel
theorem dL_shapeEffort_20 : decode cL_shapeEffort 20 = .ok (.ireturn, 1) := by decide +kernel
theorem dL_shapeFret_0 : decode cL_shapeFret 0 = .ok (.aload 5, 2) := by decide +kernel
theorem dL_shapeFret_2 : decode cL_shapeFret 2 = .ok (.iconst 0, 1) := by decide +kernel
theorem dL_shapeFret_3 : decode cL_shapeFret 3 = .ok (.aload_n 0, 1) := by decide +kernel
theorem dL_shapeFret_4 : decode cL_shapeFret 4 = .ok (.iload_n 1, 1) := by decide +kernel
theorem dL_shapeFret_5 : decode cL_shapeFret 5 = .ok (.iload_n 2, 1) := by decide +kernel
theorem dL_shapeFret_6 : decode cL_shapeFret 6 = .ok (.iload_n 3, 1) := by decide +kernel
theorem dL_shapeFret_7 : decode cL_shapeFret 7 = .ok (.iload 4, 2) := by decide +kernel
theorem dL_shapeFret_9 : decode cL_shapeFret 9 = .ok (.invokevirtual 74, 3) := by decide +kernel
theorem dL_shapeFret_12 : decode cL_shapeFret 12 = .ok (.i2l, 1) := by decide +kernel
theorem dL_shapeFret_13 : decode cL_shapeFret 13 = .ok (.lastore, 1) := by decide +kernel
theorem dL_shapeFret_14 : decode cL_shapeFret 14 = .ok (.goto 11, 3) := by decide +kernel
theorem dL_shapeFret_17 : decode cL_shapeFret 17 = .ok (.astore 6, 2) := by decide +kernel
theorem dL_shapeFret_19 : decode cL_shapeFret 19 = .ok (.iconst 1, 1) := by decide +kernel
theorem dL_shapeFret_20 : decode cL_shapeFret 20 = .ok (.ireturn, 1) := by decide +kernel
theorem dL_shapeFret_21 : decode cL_shapeFret 21 = .ok (.astore 6, 2) := by decide +kernel
theorem dL_shapeFret_23 : decode cL_shapeFret 23 = .ok (.iconst 2, 1) := by decide +kernel
theorem dL_shapeFret_24 : decode cL_shapeFret 24 = .ok (.ireturn, 1) := by decide +kernel
theorem dL_shapeFret_25 : decode cL_shapeFret 25 = .ok (.iconst 0, 1) := by decide +kernel
theorem dL_shapeFret_26 : decode cL_shapeFret 26 = .ok (.ireturn, 1) := by decide +kernel
theorem dL_totalWith_0 : decode cL_totalWith 0 = .ok (.aload_n 3, 1) := by decide +kernel
theorem dL_totalWith_1 : decode cL_totalWith 1 = .ok (.iconst 0, 1) := by decide +kernel
theorem dL_totalWith_2 : decode cL_totalWith 2 = .ok (.aload_n 0, 1) := by decide +kernel
theorem dL_totalWith_3 : decode cL_totalWith 3 = .ok (.iload_n 1, 1) := by decide +kernel
theorem dL_totalWith_4 : decode cL_totalWith 4 = .ok (.iload_n 2, 1) := by decide +kernel
theorem dL_totalWith_5 : decode cL_totalWith 5 = .ok (.invokevirtual 78, 3) := by decide +kernel
theorem dL_totalWith_8 : decode cL_totalWith 8 = .ok (.i2l, 1) := by decide +kernel
theorem dL_totalWith_9 : decode cL_totalWith 9 = .ok (.lastore, 1) := by decide +kernel
theorem dL_totalWith_10 : decode cL_totalWith 10 = .ok (.goto 7, 3) := by decide +kernel
theorem dL_totalWith_13 : decode cL_totalWith 13 = .ok (.astore 4, 2) := by decide +kernel
theorem dL_totalWith_15 : decode cL_totalWith 15 = .ok (.iconst 1, 1) := by decide +kernel
theorem dL_totalWith_16 : decode cL_totalWith 16 = .ok (.ireturn, 1) := by decide +kernel
theorem dL_totalWith_17 : decode cL_totalWith 17 = .ok (.iconst 0, 1) := by decide +kernel
theorem dL_totalWith_18 : decode cL_totalWith 18 = .ok (.ireturn, 1) := by decide +kernel
theorem dL_totalWithout_0 : decode cL_totalWithout 0 = .ok (.aload_n 2, 1) := by decide +kernel
theorem dL_totalWithout_1 : decode cL_totalWithout 1 = .ok (.iconst 0, 1) := by decide +kernel
theorem dL_totalWithout_2 : decode cL_totalWithout 2 = .ok (.aload_n 0, 1) := by decide +kernel
theorem dL_totalWithout_3 : decode cL_totalWithout 3 = .ok (.iload_n 1, 1) := by decide +kernel
theorem dL_totalWithout_4 : decode cL_totalWithout 4 = .ok (.invokevirtual 81, 3) := by decide +kernel
theorem dL_totalWithout_7 : decode cL_totalWithout 7 = .ok (.i2l, 1) := by decide +kernel
theorem dL_totalWithout_8 : decode cL_totalWithout 8 = .ok (.lastore, 1) := by decide +kernel
theorem dL_totalWithout_9 : decode cL_totalWithout 9 = .ok (.goto 6, 3) := by decide +kernel
theorem dL_totalWithout_12 : decode cL_totalWithout 12 = .ok (.astore_n 3, 1) := by decide +kernel
theorem dL_totalWithout_13 : decode cL_totalWithout 13 = .ok (.iconst 1, 1) := by decide +kernel
theorem dL_totalWithout_14 : decode cL_totalWithout 14 = .ok (.ireturn, 1) := by decide +kernel
theorem dL_totalWithout_15 : decode cL_totalWithout 15 = .ok (.iconst 0, 1) := by decide +kernel
theorem dL_totalWithout_16 : decode cL_totalWithout 16 = .ok (.ireturn, 1) := by decide +kernel
theorem dL_totalFixed_0 : decode cL_totalFixed 0 = .ok (.aload_n 3, 1) := by decide +kernel
theorem dL_totalFixed_1 : decode cL_totalFixed 1 = .ok (.iconst 0, 1) := by decide +kernel
theorem dL_totalFixed_2 : decode cL_totalFixed 2 = .ok (.aload_n 0, 1) := by decide +kernel
theorem dL_totalFixed_3 : decode cL_totalFixed 3 = .ok (.iload_n 1, 1) := by decide +kernel
theorem dL_totalFixed_4 : decode cL_totalFixed 4 = .ok (.iload_n 2, 1) := by decide +kernel
theorem dL_totalFixed_5 : decode cL_totalFixed 5 = .ok (.invokevirtual 84, 3) := by decide +kernel
theorem dL_totalFixed_8 : decode cL_totalFixed 8 = .ok (.i2l, 1) := by decide +kernel
theorem dL_totalFixed_9 : decode cL_totalFixed 9 = .ok (.lastore, 1) := by decide +kernel
theorem dL_totalFixed_10 : decode cL_totalFixed 10 = .ok (.goto 7, 3) := by decide +kernel
theorem dL_totalFixed_13 : decode cL_totalFixed 13 = .ok (.astore 4, 2) := by decide +kernel
theorem dL_totalFixed_15 : decode cL_totalFixed 15 = .ok (.iconst 1, 1) := by decide +kernel
theorem dL_totalFixed_16 : decode cL_totalFixed 16 = .ok (.ireturn, 1) := by decide +kernel
theorem dL_totalFixed_17 : decode cL_totalFixed 17 = .ok (.iconst 0, 1) := by decide +kernel
theorem dL_totalFixed_18 : decode cL_totalFixed 18 = .ok (.ireturn, 1) := by decide +kernel
theorem dL_law_0 : decode cL_law 0 = .ok (.new 8, 3) := by decide +kernel
theorem dL_law_3 : decode cL_law 3 = .ok (.dup, 1) := by decide +kernel
theorem dL_law_4 : decode cL_law 4 = .ok (.invokespecial 87, 3) := by decide +kernel
theorem dL_law_7 : decode cL_law 7 = .ok (.astore_n 1, 1) := by decide +kernel
theorem dL_law_8 : decode cL_law 8 = .ok (.new 88, 3) := by decide +kernel
theorem dL_law_11 : decode cL_law 11 = .ok (.dup, 1) := by decide +kernel
theorem dL_law_12 : decode cL_law 12 = .ok (.invokespecial 90, 3) := by decide +kernel
theorem dL_law_15 : decode cL_law 15 = .ok (.astore_n 2, 1) := by decide +kernel
theorem dL_law_16 : decode cL_law 16 = .ok (.iconst 1, 1) := by decide +kernel
theorem dL_law_17 : decode cL_law 17 = .ok (.newarray .long, 2) := by decide +kernel
theorem dL_law_19 : decode cL_law 19 = .ok (.astore_n 3, 1) := by decide +kernel
theorem dL_law_20 : decode cL_law 20 = .ok (.iconst 0, 1) := by decide +kernel
theorem dL_law_21 : decode cL_law 21 = .ok (.istore 4, 2) := by decide +kernel
theorem dL_law_23 : decode cL_law 23 = .ok (.iload 4, 2) := by decide +kernel
theorem dL_law_25 : decode cL_law 25 = .ok (.aload_n 0, 1) := by decide +kernel
theorem dL_law_26 : decode cL_law 26 = .ok (.arraylength, 1) := by decide +kernel
theorem dL_law_27 : decode cL_law 27 = .ok (.bipush 6, 2) := by decide +kernel
theorem dL_law_29 : decode cL_law 29 = .ok (.isub, 1) := by decide +kernel
theorem dL_law_30 : decode cL_law 30 = .ok (.if_icmp .gt 1794, 3) := by decide +kernel
theorem dL_law_33 : decode cL_law 33 = .ok (.aload_n 0, 1) := by decide +kernel
theorem dL_law_34 : decode cL_law 34 = .ok (.iload 4, 2) := by decide +kernel
theorem dL_law_36 : decode cL_law 36 = .ok (.iaload, 1) := by decide +kernel
theorem dL_law_37 : decode cL_law 37 = .ok (.bipush 31, 2) := by decide +kernel
theorem dL_law_39 : decode cL_law 39 = .ok (.iand, 1) := by decide +kernel
theorem dL_law_40 : decode cL_law 40 = .ok (.tableswitch 1778 0 26 #[124, 180, 248, 332, 388, 444, 512, 616, 672, 740, 808, 888, 968, 1048, 1128, 1184, 1197, 1210, 1266, 1307, 1387, 1467, 1559, 1627, 1640, 1696, 1764], 124) := by decide +kernel
theorem dL_law_164 : decode cL_law 164 = .ok (.aload_n 1, 1) := by decide +kernel
theorem dL_law_165 : decode cL_law 165 = .ok (.aload_n 0, 1) := by decide +kernel
theorem dL_law_166 : decode cL_law 166 = .ok (.iload 4, 2) := by decide +kernel
theorem dL_law_168 : decode cL_law 168 = .ok (.iconst 1, 1) := by decide +kernel
theorem dL_law_169 : decode cL_law 169 = .ok (.iadd, 1) := by decide +kernel
theorem dL_law_170 : decode cL_law 170 = .ok (.iaload, 1) := by decide +kernel
theorem dL_law_171 : decode cL_law 171 = .ok (.aload_n 3, 1) := by decide +kernel
theorem dL_law_172 : decode cL_law 172 = .ok (.invokestatic 91, 3) := by decide +kernel
theorem dL_law_175 : decode cL_law 175 = .ok (.istore 5, 2) := by decide +kernel
theorem dL_law_177 : decode cL_law 177 = .ok (.aload_n 2, 1) := by decide +kernel
theorem dL_law_178 : decode cL_law 178 = .ok (.aload_n 0, 1) := by decide +kernel
theorem dL_law_179 : decode cL_law 179 = .ok (.iload 4, 2) := by decide +kernel
theorem dL_law_181 : decode cL_law 181 = .ok (.iconst 1, 1) := by decide +kernel
theorem dL_law_182 : decode cL_law 182 = .ok (.iadd, 1) := by decide +kernel
theorem dL_law_183 : decode cL_law 183 = .ok (.iaload, 1) := by decide +kernel
theorem dL_law_184 : decode cL_law 184 = .ok (.invokevirtual 96, 3) := by decide +kernel
theorem dL_law_187 : decode cL_law 187 = .ok (.istore 6, 2) := by decide +kernel
theorem dL_law_189 : decode cL_law 189 = .ok (.aload_n 2, 1) := by decide +kernel
theorem dL_law_190 : decode cL_law 190 = .ok (.invokevirtual 97, 3) := by decide +kernel
theorem dL_law_193 : decode cL_law 193 = .ok (.iload 5, 2) := by decide +kernel
theorem dL_law_195 : decode cL_law 195 = .ok (.if_icmp .eq 5, 3) := by decide +kernel
theorem dL_law_198 : decode cL_law 198 = .ok (.iconst 0, 1) := by decide +kernel
theorem dL_law_199 : decode cL_law 199 = .ok (.ireturn, 1) := by decide +kernel
theorem dL_law_200 : decode cL_law 200 = .ok (.iload 5, 2) := by decide +kernel
theorem dL_law_202 : decode cL_law 202 = .ok (.ifCond .ne 15, 3) := by decide +kernel
theorem dL_law_205 : decode cL_law 205 = .ok (.aload_n 3, 1) := by decide +kernel
theorem dL_law_206 : decode cL_law 206 = .ok (.iconst 0, 1) := by decide +kernel
theorem dL_law_207 : decode cL_law 207 = .ok (.laload, 1) := by decide +kernel
theorem dL_law_208 : decode cL_law 208 = .ok (.iload 6, 2) := by decide +kernel
theorem dL_law_210 : decode cL_law 210 = .ok (.i2l, 1) := by decide +kernel
theorem dL_law_211 : decode cL_law 211 = .ok (.lcmp, 1) := by decide +kernel
theorem dL_law_212 : decode cL_law 212 = .ok (.ifCond .eq 5, 3) := by decide +kernel
theorem dL_law_215 : decode cL_law 215 = .ok (.iconst 0, 1) := by decide +kernel
theorem dL_law_216 : decode cL_law 216 = .ok (.ireturn, 1) := by decide +kernel
theorem dL_law_217 : decode cL_law 217 = .ok (.goto 1601, 3) := by decide +kernel
theorem dL_law_220 : decode cL_law 220 = .ok (.aload_n 1, 1) := by decide +kernel
theorem dL_law_221 : decode cL_law 221 = .ok (.aload_n 0, 1) := by decide +kernel
theorem dL_law_222 : decode cL_law 222 = .ok (.iload 4, 2) := by decide +kernel
theorem dL_law_224 : decode cL_law 224 = .ok (.iconst 1, 1) := by decide +kernel
theorem dL_law_225 : decode cL_law 225 = .ok (.iadd, 1) := by decide +kernel
theorem dL_law_226 : decode cL_law 226 = .ok (.iaload, 1) := by decide +kernel
theorem dL_law_227 : decode cL_law 227 = .ok (.aload_n 0, 1) := by decide +kernel
theorem dL_law_228 : decode cL_law 228 = .ok (.iload 4, 2) := by decide +kernel
theorem dL_law_230 : decode cL_law 230 = .ok (.iconst 2, 1) := by decide +kernel
theorem dL_law_231 : decode cL_law 231 = .ok (.iadd, 1) := by decide +kernel
theorem dL_law_232 : decode cL_law 232 = .ok (.iaload, 1) := by decide +kernel
theorem dL_law_233 : decode cL_law 233 = .ok (.aload_n 3, 1) := by decide +kernel
theorem dL_law_234 : decode cL_law 234 = .ok (.invokestatic 101, 3) := by decide +kernel
theorem dL_law_237 : decode cL_law 237 = .ok (.istore 5, 2) := by decide +kernel
theorem dL_law_239 : decode cL_law 239 = .ok (.aload_n 2, 1) := by decide +kernel
theorem dL_law_240 : decode cL_law 240 = .ok (.aload_n 0, 1) := by decide +kernel
theorem dL_law_241 : decode cL_law 241 = .ok (.iload 4, 2) := by decide +kernel
theorem dL_law_243 : decode cL_law 243 = .ok (.iconst 1, 1) := by decide +kernel
theorem dL_law_244 : decode cL_law 244 = .ok (.iadd, 1) := by decide +kernel
theorem dL_law_245 : decode cL_law 245 = .ok (.iaload, 1) := by decide +kernel
theorem dL_law_246 : decode cL_law 246 = .ok (.aload_n 0, 1) := by decide +kernel
theorem dL_law_247 : decode cL_law 247 = .ok (.iload 4, 2) := by decide +kernel
theorem dL_law_249 : decode cL_law 249 = .ok (.iconst 2, 1) := by decide +kernel
theorem dL_law_250 : decode cL_law 250 = .ok (.iadd, 1) := by decide +kernel
theorem dL_law_251 : decode cL_law 251 = .ok (.iaload, 1) := by decide +kernel
theorem dL_law_252 : decode cL_law 252 = .ok (.invokevirtual 104, 3) := by decide +kernel
theorem dL_law_255 : decode cL_law 255 = .ok (.istore 6, 2) := by decide +kernel
theorem dL_law_257 : decode cL_law 257 = .ok (.aload_n 2, 1) := by decide +kernel
theorem dL_law_258 : decode cL_law 258 = .ok (.invokevirtual 97, 3) := by decide +kernel
theorem dL_law_261 : decode cL_law 261 = .ok (.iload 5, 2) := by decide +kernel
theorem dL_law_263 : decode cL_law 263 = .ok (.if_icmp .eq 5, 3) := by decide +kernel
theorem dL_law_266 : decode cL_law 266 = .ok (.iconst 0, 1) := by decide +kernel
theorem dL_law_267 : decode cL_law 267 = .ok (.ireturn, 1) := by decide +kernel
theorem dL_law_268 : decode cL_law 268 = .ok (.iload 5, 2) := by decide +kernel
theorem dL_law_270 : decode cL_law 270 = .ok (.ifCond .ne 15, 3) := by decide +kernel
theorem dL_law_273 : decode cL_law 273 = .ok (.aload_n 3, 1) := by decide +kernel
theorem dL_law_274 : decode cL_law 274 = .ok (.iconst 0, 1) := by decide +kernel
theorem dL_law_275 : decode cL_law 275 = .ok (.laload, 1) := by decide +kernel
theorem dL_law_276 : decode cL_law 276 = .ok (.iload 6, 2) := by decide +kernel
theorem dL_law_278 : decode cL_law 278 = .ok (.i2l, 1) := by decide +kernel
theorem dL_law_279 : decode cL_law 279 = .ok (.lcmp, 1) := by decide +kernel
theorem dL_law_280 : decode cL_law 280 = .ok (.ifCond .eq 5, 3) := by decide +kernel
theorem dL_law_283 : decode cL_law 283 = .ok (.iconst 0, 1) := by decide +kernel
theorem dL_law_284 : decode cL_law 284 = .ok (.ireturn, 1) := by decide +kernel
theorem dL_law_285 : decode cL_law 285 = .ok (.goto 1533, 3) := by decide +kernel
theorem dL_law_288 : decode cL_law 288 = .ok (.aload_n 1, 1) := by decide +kernel
theorem dL_law_289 : decode cL_law 289 = .ok (.aload_n 0, 1) := by decide +kernel
theorem dL_law_290 : decode cL_law 290 = .ok (.iload 4, 2) := by decide +kernel
theorem dL_law_292 : decode cL_law 292 = .ok (.iconst 1, 1) := by decide +kernel
theorem dL_law_293 : decode cL_law 293 = .ok (.iadd, 1) := by decide +kernel
theorem dL_law_294 : decode cL_law 294 = .ok (.iaload, 1) := by decide +kernel
theorem dL_law_295 : decode cL_law 295 = .ok (.aload_n 0, 1) := by decide +kernel
theorem dL_law_296 : decode cL_law 296 = .ok (.iload 4, 2) := by decide +kernel
theorem dL_law_298 : decode cL_law 298 = .ok (.iconst 2, 1) := by decide +kernel
theorem dL_law_299 : decode cL_law 299 = .ok (.iadd, 1) := by decide +kernel
theorem dL_law_300 : decode cL_law 300 = .ok (.iaload, 1) := by decide +kernel
theorem dL_law_301 : decode cL_law 301 = .ok (.ifCond .eq 7, 3) := by decide +kernel
theorem dL_law_304 : decode cL_law 304 = .ok (.iconst 1, 1) := by decide +kernel
theorem dL_law_305 : decode cL_law 305 = .ok (.goto 4, 3) := by decide +kernel
theorem dL_law_308 : decode cL_law 308 = .ok (.iconst 0, 1) := by decide +kernel
theorem dL_law_309 : decode cL_law 309 = .ok (.aload_n 3, 1) := by decide +kernel
theorem dL_law_310 : decode cL_law 310 = .ok (.invokestatic 105, 3) := by decide +kernel
theorem dL_law_313 : decode cL_law 313 = .ok (.istore 5, 2) := by decide +kernel
theorem dL_law_315 : decode cL_law 315 = .ok (.aload_n 2, 1) := by decide +kernel
theorem dL_law_316 : decode cL_law 316 = .ok (.aload_n 0, 1) := by decide +kernel
theorem dL_law_317 : decode cL_law 317 = .ok (.iload 4, 2) := by decide +kernel
theorem dL_law_319 : decode cL_law 319 = .ok (.iconst 1, 1) := by decide +kernel
theorem dL_law_320 : decode cL_law 320 = .ok (.iadd, 1) := by decide +kernel
theorem dL_law_321 : decode cL_law 321 = .ok (.iaload, 1) := by decide +kernel
theorem dL_law_322 : decode cL_law 322 = .ok (.aload_n 0, 1) := by decide +kernel
theorem dL_law_323 : decode cL_law 323 = .ok (.iload 4, 2) := by decide +kernel
theorem dL_law_325 : decode cL_law 325 = .ok (.iconst 2, 1) := by decide +kernel
theorem dL_law_326 : decode cL_law 326 = .ok (.iadd, 1) := by decide +kernel
theorem dL_law_327 : decode cL_law 327 = .ok (.iaload, 1) := by decide +kernel
theorem dL_law_328 : decode cL_law 328 = .ok (.ifCond .eq 7, 3) := by decide +kernel
theorem dL_law_331 : decode cL_law 331 = .ok (.iconst 1, 1) := by decide +kernel
theorem dL_law_332 : decode cL_law 332 = .ok (.goto 4, 3) := by decide +kernel
theorem dL_law_335 : decode cL_law 335 = .ok (.iconst 0, 1) := by decide +kernel
theorem dL_law_336 : decode cL_law 336 = .ok (.invokevirtual 108, 3) := by decide +kernel
theorem dL_law_339 : decode cL_law 339 = .ok (.istore 6, 2) := by decide +kernel
theorem dL_law_341 : decode cL_law 341 = .ok (.aload_n 2, 1) := by decide +kernel
theorem dL_law_342 : decode cL_law 342 = .ok (.invokevirtual 97, 3) := by decide +kernel
theorem dL_law_345 : decode cL_law 345 = .ok (.iload 5, 2) := by decide +kernel
theorem dL_law_347 : decode cL_law 347 = .ok (.if_icmp .eq 5, 3) := by decide +kernel
theorem dL_law_350 : decode cL_law 350 = .ok (.iconst 0, 1) := by decide +kernel
theorem dL_law_351 : decode cL_law 351 = .ok (.ireturn, 1) := by decide +kernel
theorem dL_law_352 : decode cL_law 352 = .ok (.iload 5, 2) := by decide +kernel
theorem dL_law_354 : decode cL_law 354 = .ok (.ifCond .ne 15, 3) := by decide +kernel
theorem dL_law_357 : decode cL_law 357 = .ok (.aload_n 3, 1) := by decide +kernel
theorem dL_law_358 : decode cL_law 358 = .ok (.iconst 0, 1) := by decide +kernel
theorem dL_law_359 : decode cL_law 359 = .ok (.laload, 1) := by decide +kernel
theorem dL_law_360 : decode cL_law 360 = .ok (.iload 6, 2) := by decide +kernel
theorem dL_law_362 : decode cL_law 362 = .ok (.i2l, 1) := by decide +kernel
theorem dL_law_363 : decode cL_law 363 = .ok (.lcmp, 1) := by decide +kernel
theorem dL_law_364 : decode cL_law 364 = .ok (.ifCond .eq 5, 3) := by decide +kernel
theorem dL_law_367 : decode cL_law 367 = .ok (.iconst 0, 1) := by decide +kernel
theorem dL_law_368 : decode cL_law 368 = .ok (.ireturn, 1) := by decide +kernel
theorem dL_law_369 : decode cL_law 369 = .ok (.goto 1449, 3) := by decide +kernel
theorem dL_law_372 : decode cL_law 372 = .ok (.aload_n 1, 1) := by decide +kernel
theorem dL_law_373 : decode cL_law 373 = .ok (.aload_n 0, 1) := by decide +kernel
theorem dL_law_374 : decode cL_law 374 = .ok (.iload 4, 2) := by decide +kernel
theorem dL_law_376 : decode cL_law 376 = .ok (.iconst 1, 1) := by decide +kernel
theorem dL_law_377 : decode cL_law 377 = .ok (.iadd, 1) := by decide +kernel
theorem dL_law_378 : decode cL_law 378 = .ok (.iaload, 1) := by decide +kernel
theorem dL_law_379 : decode cL_law 379 = .ok (.aload_n 3, 1) := by decide +kernel
theorem dL_law_380 : decode cL_law 380 = .ok (.invokestatic 109, 3) := by decide +kernel
theorem dL_law_383 : decode cL_law 383 = .ok (.istore 5, 2) := by decide +kernel
theorem dL_law_385 : decode cL_law 385 = .ok (.aload_n 2, 1) := by decide +kernel
theorem dL_law_386 : decode cL_law 386 = .ok (.aload_n 0, 1) := by decide +kernel
theorem dL_law_387 : decode cL_law 387 = .ok (.iload 4, 2) := by decide +kernel
theorem dL_law_389 : decode cL_law 389 = .ok (.iconst 1, 1) := by decide +kernel
theorem dL_law_390 : decode cL_law 390 = .ok (.iadd, 1) := by decide +kernel
theorem dL_law_391 : decode cL_law 391 = .ok (.iaload, 1) := by decide +kernel
theorem dL_law_392 : decode cL_law 392 = .ok (.invokevirtual 111, 3) := by decide +kernel
theorem dL_law_395 : decode cL_law 395 = .ok (.istore 6, 2) := by decide +kernel
theorem dL_law_397 : decode cL_law 397 = .ok (.aload_n 2, 1) := by decide +kernel
theorem dL_law_398 : decode cL_law 398 = .ok (.invokevirtual 97, 3) := by decide +kernel
theorem dL_law_401 : decode cL_law 401 = .ok (.iload 5, 2) := by decide +kernel
theorem dL_law_403 : decode cL_law 403 = .ok (.if_icmp .eq 5, 3) := by decide +kernel
theorem dL_law_406 : decode cL_law 406 = .ok (.iconst 0, 1) := by decide +kernel
theorem dL_law_407 : decode cL_law 407 = .ok (.ireturn, 1) := by decide +kernel
theorem dL_law_408 : decode cL_law 408 = .ok (.iload 5, 2) := by decide +kernel
theorem dL_law_410 : decode cL_law 410 = .ok (.ifCond .ne 15, 3) := by decide +kernel
theorem dL_law_413 : decode cL_law 413 = .ok (.aload_n 3, 1) := by decide +kernel
theorem dL_law_414 : decode cL_law 414 = .ok (.iconst 0, 1) := by decide +kernel
theorem dL_law_415 : decode cL_law 415 = .ok (.laload, 1) := by decide +kernel
theorem dL_law_416 : decode cL_law 416 = .ok (.iload 6, 2) := by decide +kernel
theorem dL_law_418 : decode cL_law 418 = .ok (.i2l, 1) := by decide +kernel
theorem dL_law_419 : decode cL_law 419 = .ok (.lcmp, 1) := by decide +kernel
theorem dL_law_420 : decode cL_law 420 = .ok (.ifCond .eq 5, 3) := by decide +kernel
theorem dL_law_423 : decode cL_law 423 = .ok (.iconst 0, 1) := by decide +kernel
theorem dL_law_424 : decode cL_law 424 = .ok (.ireturn, 1) := by decide +kernel
theorem dL_law_425 : decode cL_law 425 = .ok (.goto 1393, 3) := by decide +kernel
theorem dL_law_428 : decode cL_law 428 = .ok (.aload_n 1, 1) := by decide +kernel
theorem dL_law_429 : decode cL_law 429 = .ok (.aload_n 0, 1) := by decide +kernel
theorem dL_law_430 : decode cL_law 430 = .ok (.iload 4, 2) := by decide +kernel
theorem dL_law_432 : decode cL_law 432 = .ok (.iconst 1, 1) := by decide +kernel
theorem dL_law_433 : decode cL_law 433 = .ok (.iadd, 1) := by decide +kernel
theorem dL_law_434 : decode cL_law 434 = .ok (.iaload, 1) := by decide +kernel
theorem dL_law_435 : decode cL_law 435 = .ok (.aload_n 3, 1) := by decide +kernel
theorem dL_law_436 : decode cL_law 436 = .ok (.invokestatic 112, 3) := by decide +kernel
theorem dL_law_439 : decode cL_law 439 = .ok (.istore 5, 2) := by decide +kernel
theorem dL_law_441 : decode cL_law 441 = .ok (.aload_n 2, 1) := by decide +kernel
theorem dL_law_442 : decode cL_law 442 = .ok (.aload_n 0, 1) := by decide +kernel
theorem dL_law_443 : decode cL_law 443 = .ok (.iload 4, 2) := by decide +kernel
theorem dL_law_445 : decode cL_law 445 = .ok (.iconst 1, 1) := by decide +kernel
theorem dL_law_446 : decode cL_law 446 = .ok (.iadd, 1) := by decide +kernel
theorem dL_law_447 : decode cL_law 447 = .ok (.iaload, 1) := by decide +kernel
theorem dL_law_448 : decode cL_law 448 = .ok (.invokevirtual 114, 3) := by decide +kernel
theorem dL_law_451 : decode cL_law 451 = .ok (.istore 6, 2) := by decide +kernel
theorem dL_law_453 : decode cL_law 453 = .ok (.aload_n 2, 1) := by decide +kernel
theorem dL_law_454 : decode cL_law 454 = .ok (.invokevirtual 97, 3) := by decide +kernel
theorem dL_law_457 : decode cL_law 457 = .ok (.iload 5, 2) := by decide +kernel
theorem dL_law_459 : decode cL_law 459 = .ok (.if_icmp .eq 5, 3) := by decide +kernel
theorem dL_law_462 : decode cL_law 462 = .ok (.iconst 0, 1) := by decide +kernel
theorem dL_law_463 : decode cL_law 463 = .ok (.ireturn, 1) := by decide +kernel
theorem dL_law_464 : decode cL_law 464 = .ok (.iload 5, 2) := by decide +kernel
theorem dL_law_466 : decode cL_law 466 = .ok (.ifCond .ne 15, 3) := by decide +kernel
theorem dL_law_469 : decode cL_law 469 = .ok (.aload_n 3, 1) := by decide +kernel
theorem dL_law_470 : decode cL_law 470 = .ok (.iconst 0, 1) := by decide +kernel
theorem dL_law_471 : decode cL_law 471 = .ok (.laload, 1) := by decide +kernel
theorem dL_law_472 : decode cL_law 472 = .ok (.iload 6, 2) := by decide +kernel
theorem dL_law_474 : decode cL_law 474 = .ok (.i2l, 1) := by decide +kernel
theorem dL_law_475 : decode cL_law 475 = .ok (.lcmp, 1) := by decide +kernel
theorem dL_law_476 : decode cL_law 476 = .ok (.ifCond .eq 5, 3) := by decide +kernel
theorem dL_law_479 : decode cL_law 479 = .ok (.iconst 0, 1) := by decide +kernel
theorem dL_law_480 : decode cL_law 480 = .ok (.ireturn, 1) := by decide +kernel
theorem dL_law_481 : decode cL_law 481 = .ok (.goto 1337, 3) := by decide +kernel
theorem dL_law_484 : decode cL_law 484 = .ok (.aload_n 1, 1) := by decide +kernel
theorem dL_law_485 : decode cL_law 485 = .ok (.aload_n 0, 1) := by decide +kernel
theorem dL_law_486 : decode cL_law 486 = .ok (.iload 4, 2) := by decide +kernel
theorem dL_law_488 : decode cL_law 488 = .ok (.iconst 1, 1) := by decide +kernel
theorem dL_law_489 : decode cL_law 489 = .ok (.iadd, 1) := by decide +kernel
theorem dL_law_490 : decode cL_law 490 = .ok (.iaload, 1) := by decide +kernel
theorem dL_law_491 : decode cL_law 491 = .ok (.aload_n 0, 1) := by decide +kernel
theorem dL_law_492 : decode cL_law 492 = .ok (.iload 4, 2) := by decide +kernel
theorem dL_law_494 : decode cL_law 494 = .ok (.iconst 2, 1) := by decide +kernel
theorem dL_law_495 : decode cL_law 495 = .ok (.iadd, 1) := by decide +kernel
theorem dL_law_496 : decode cL_law 496 = .ok (.iaload, 1) := by decide +kernel
theorem dL_law_497 : decode cL_law 497 = .ok (.aload_n 3, 1) := by decide +kernel
theorem dL_law_498 : decode cL_law 498 = .ok (.invokestatic 115, 3) := by decide +kernel
theorem dL_law_501 : decode cL_law 501 = .ok (.istore 5, 2) := by decide +kernel
theorem dL_law_503 : decode cL_law 503 = .ok (.aload_n 2, 1) := by decide +kernel
theorem dL_law_504 : decode cL_law 504 = .ok (.aload_n 0, 1) := by decide +kernel
theorem dL_law_505 : decode cL_law 505 = .ok (.iload 4, 2) := by decide +kernel
theorem dL_law_507 : decode cL_law 507 = .ok (.iconst 1, 1) := by decide +kernel
theorem dL_law_508 : decode cL_law 508 = .ok (.iadd, 1) := by decide +kernel
theorem dL_law_509 : decode cL_law 509 = .ok (.iaload, 1) := by decide +kernel
theorem dL_law_510 : decode cL_law 510 = .ok (.aload_n 0, 1) := by decide +kernel
theorem dL_law_511 : decode cL_law 511 = .ok (.iload 4, 2) := by decide +kernel
theorem dL_law_513 : decode cL_law 513 = .ok (.iconst 2, 1) := by decide +kernel
theorem dL_law_514 : decode cL_law 514 = .ok (.iadd, 1) := by decide +kernel
theorem dL_law_515 : decode cL_law 515 = .ok (.iaload, 1) := by decide +kernel
theorem dL_law_516 : decode cL_law 516 = .ok (.invokevirtual 117, 3) := by decide +kernel
theorem dL_law_519 : decode cL_law 519 = .ok (.istore 6, 2) := by decide +kernel
theorem dL_law_521 : decode cL_law 521 = .ok (.aload_n 2, 1) := by decide +kernel
theorem dL_law_522 : decode cL_law 522 = .ok (.invokevirtual 97, 3) := by decide +kernel
theorem dL_law_525 : decode cL_law 525 = .ok (.iload 5, 2) := by decide +kernel
theorem dL_law_527 : decode cL_law 527 = .ok (.if_icmp .eq 5, 3) := by decide +kernel
theorem dL_law_530 : decode cL_law 530 = .ok (.iconst 0, 1) := by decide +kernel
theorem dL_law_531 : decode cL_law 531 = .ok (.ireturn, 1) := by decide +kernel
theorem dL_law_532 : decode cL_law 532 = .ok (.iload 5, 2) := by decide +kernel
theorem dL_law_534 : decode cL_law 534 = .ok (.ifCond .ne 15, 3) := by decide +kernel
theorem dL_law_537 : decode cL_law 537 = .ok (.aload_n 3, 1) := by decide +kernel
theorem dL_law_538 : decode cL_law 538 = .ok (.iconst 0, 1) := by decide +kernel
theorem dL_law_539 : decode cL_law 539 = .ok (.laload, 1) := by decide +kernel
theorem dL_law_540 : decode cL_law 540 = .ok (.iload 6, 2) := by decide +kernel
theorem dL_law_542 : decode cL_law 542 = .ok (.i2l, 1) := by decide +kernel
theorem dL_law_543 : decode cL_law 543 = .ok (.lcmp, 1) := by decide +kernel
theorem dL_law_544 : decode cL_law 544 = .ok (.ifCond .eq 5, 3) := by decide +kernel
theorem dL_law_547 : decode cL_law 547 = .ok (.iconst 0, 1) := by decide +kernel
theorem dL_law_548 : decode cL_law 548 = .ok (.ireturn, 1) := by decide +kernel
theorem dL_law_549 : decode cL_law 549 = .ok (.goto 1269, 3) := by decide +kernel
theorem dL_law_552 : decode cL_law 552 = .ok (.aload_n 1, 1) := by decide +kernel
theorem dL_law_553 : decode cL_law 553 = .ok (.aload_n 0, 1) := by decide +kernel
theorem dL_law_554 : decode cL_law 554 = .ok (.iload 4, 2) := by decide +kernel
theorem dL_law_556 : decode cL_law 556 = .ok (.iconst 1, 1) := by decide +kernel
theorem dL_law_557 : decode cL_law 557 = .ok (.iadd, 1) := by decide +kernel
theorem dL_law_558 : decode cL_law 558 = .ok (.iaload, 1) := by decide +kernel
theorem dL_law_559 : decode cL_law 559 = .ok (.aload_n 0, 1) := by decide +kernel
theorem dL_law_560 : decode cL_law 560 = .ok (.iload 4, 2) := by decide +kernel
theorem dL_law_562 : decode cL_law 562 = .ok (.iconst 2, 1) := by decide +kernel
theorem dL_law_563 : decode cL_law 563 = .ok (.iadd, 1) := by decide +kernel
theorem dL_law_564 : decode cL_law 564 = .ok (.iaload, 1) := by decide +kernel
theorem dL_law_565 : decode cL_law 565 = .ok (.aload_n 0, 1) := by decide +kernel
theorem dL_law_566 : decode cL_law 566 = .ok (.iload 4, 2) := by decide +kernel
theorem dL_law_568 : decode cL_law 568 = .ok (.iconst 3, 1) := by decide +kernel
theorem dL_law_569 : decode cL_law 569 = .ok (.iadd, 1) := by decide +kernel
theorem dL_law_570 : decode cL_law 570 = .ok (.iaload, 1) := by decide +kernel
theorem dL_law_571 : decode cL_law 571 = .ok (.aload_n 0, 1) := by decide +kernel
theorem dL_law_572 : decode cL_law 572 = .ok (.iload 4, 2) := by decide +kernel
theorem dL_law_574 : decode cL_law 574 = .ok (.iconst 4, 1) := by decide +kernel
theorem dL_law_575 : decode cL_law 575 = .ok (.iadd, 1) := by decide +kernel
theorem dL_law_576 : decode cL_law 576 = .ok (.iaload, 1) := by decide +kernel
theorem dL_law_577 : decode cL_law 577 = .ok (.aload_n 0, 1) := by decide +kernel
theorem dL_law_578 : decode cL_law 578 = .ok (.iload 4, 2) := by decide +kernel
theorem dL_law_580 : decode cL_law 580 = .ok (.iconst 5, 1) := by decide +kernel
theorem dL_law_581 : decode cL_law 581 = .ok (.iadd, 1) := by decide +kernel
theorem dL_law_582 : decode cL_law 582 = .ok (.iaload, 1) := by decide +kernel
theorem dL_law_583 : decode cL_law 583 = .ok (.aload_n 3, 1) := by decide +kernel
theorem dL_law_584 : decode cL_law 584 = .ok (.invokestatic 118, 3) := by decide +kernel
theorem dL_law_587 : decode cL_law 587 = .ok (.istore 5, 2) := by decide +kernel
theorem dL_law_589 : decode cL_law 589 = .ok (.aload_n 2, 1) := by decide +kernel
theorem dL_law_590 : decode cL_law 590 = .ok (.aload_n 0, 1) := by decide +kernel
theorem dL_law_591 : decode cL_law 591 = .ok (.iload 4, 2) := by decide +kernel
theorem dL_law_593 : decode cL_law 593 = .ok (.iconst 1, 1) := by decide +kernel
theorem dL_law_594 : decode cL_law 594 = .ok (.iadd, 1) := by decide +kernel
theorem dL_law_595 : decode cL_law 595 = .ok (.iaload, 1) := by decide +kernel
theorem dL_law_596 : decode cL_law 596 = .ok (.aload_n 0, 1) := by decide +kernel
theorem dL_law_597 : decode cL_law 597 = .ok (.iload 4, 2) := by decide +kernel
theorem dL_law_599 : decode cL_law 599 = .ok (.iconst 2, 1) := by decide +kernel
theorem dL_law_600 : decode cL_law 600 = .ok (.iadd, 1) := by decide +kernel
theorem dL_law_601 : decode cL_law 601 = .ok (.iaload, 1) := by decide +kernel
theorem dL_law_602 : decode cL_law 602 = .ok (.aload_n 0, 1) := by decide +kernel
theorem dL_law_603 : decode cL_law 603 = .ok (.iload 4, 2) := by decide +kernel
theorem dL_law_605 : decode cL_law 605 = .ok (.iconst 3, 1) := by decide +kernel
theorem dL_law_606 : decode cL_law 606 = .ok (.iadd, 1) := by decide +kernel
theorem dL_law_607 : decode cL_law 607 = .ok (.iaload, 1) := by decide +kernel
theorem dL_law_608 : decode cL_law 608 = .ok (.aload_n 0, 1) := by decide +kernel
theorem dL_law_609 : decode cL_law 609 = .ok (.iload 4, 2) := by decide +kernel
theorem dL_law_611 : decode cL_law 611 = .ok (.iconst 4, 1) := by decide +kernel
theorem dL_law_612 : decode cL_law 612 = .ok (.iadd, 1) := by decide +kernel
theorem dL_law_613 : decode cL_law 613 = .ok (.iaload, 1) := by decide +kernel
theorem dL_law_614 : decode cL_law 614 = .ok (.aload_n 0, 1) := by decide +kernel
theorem dL_law_615 : decode cL_law 615 = .ok (.iload 4, 2) := by decide +kernel
theorem dL_law_617 : decode cL_law 617 = .ok (.iconst 5, 1) := by decide +kernel
theorem dL_law_618 : decode cL_law 618 = .ok (.iadd, 1) := by decide +kernel
theorem dL_law_619 : decode cL_law 619 = .ok (.iaload, 1) := by decide +kernel
theorem dL_law_620 : decode cL_law 620 = .ok (.invokevirtual 121, 3) := by decide +kernel
theorem dL_law_623 : decode cL_law 623 = .ok (.istore 6, 2) := by decide +kernel
theorem dL_law_625 : decode cL_law 625 = .ok (.aload_n 2, 1) := by decide +kernel
theorem dL_law_626 : decode cL_law 626 = .ok (.invokevirtual 97, 3) := by decide +kernel
theorem dL_law_629 : decode cL_law 629 = .ok (.iload 5, 2) := by decide +kernel
theorem dL_law_631 : decode cL_law 631 = .ok (.if_icmp .eq 5, 3) := by decide +kernel
theorem dL_law_634 : decode cL_law 634 = .ok (.iconst 0, 1) := by decide +kernel
theorem dL_law_635 : decode cL_law 635 = .ok (.ireturn, 1) := by decide +kernel
theorem dL_law_636 : decode cL_law 636 = .ok (.iload 5, 2) := by decide +kernel
theorem dL_law_638 : decode cL_law 638 = .ok (.ifCond .ne 15, 3) := by decide +kernel
theorem dL_law_641 : decode cL_law 641 = .ok (.aload_n 3, 1) := by decide +kernel
theorem dL_law_642 : decode cL_law 642 = .ok (.iconst 0, 1) := by decide +kernel
theorem dL_law_643 : decode cL_law 643 = .ok (.laload, 1) := by decide +kernel
theorem dL_law_644 : decode cL_law 644 = .ok (.iload 6, 2) := by decide +kernel
theorem dL_law_646 : decode cL_law 646 = .ok (.i2l, 1) := by decide +kernel
theorem dL_law_647 : decode cL_law 647 = .ok (.lcmp, 1) := by decide +kernel
theorem dL_law_648 : decode cL_law 648 = .ok (.ifCond .eq 5, 3) := by decide +kernel
theorem dL_law_651 : decode cL_law 651 = .ok (.iconst 0, 1) := by decide +kernel
theorem dL_law_652 : decode cL_law 652 = .ok (.ireturn, 1) := by decide +kernel
theorem dL_law_653 : decode cL_law 653 = .ok (.goto 1165, 3) := by decide +kernel
theorem dL_law_656 : decode cL_law 656 = .ok (.aload_n 1, 1) := by decide +kernel
theorem dL_law_657 : decode cL_law 657 = .ok (.aload_n 0, 1) := by decide +kernel
theorem dL_law_658 : decode cL_law 658 = .ok (.iload 4, 2) := by decide +kernel
theorem dL_law_660 : decode cL_law 660 = .ok (.iconst 1, 1) := by decide +kernel
theorem dL_law_661 : decode cL_law 661 = .ok (.iadd, 1) := by decide +kernel
theorem dL_law_662 : decode cL_law 662 = .ok (.iaload, 1) := by decide +kernel
theorem dL_law_663 : decode cL_law 663 = .ok (.aload_n 3, 1) := by decide +kernel
theorem dL_law_664 : decode cL_law 664 = .ok (.invokestatic 122, 3) := by decide +kernel
theorem dL_law_667 : decode cL_law 667 = .ok (.istore 5, 2) := by decide +kernel
theorem dL_law_669 : decode cL_law 669 = .ok (.aload_n 2, 1) := by decide +kernel
theorem dL_law_670 : decode cL_law 670 = .ok (.aload_n 0, 1) := by decide +kernel
theorem dL_law_671 : decode cL_law 671 = .ok (.iload 4, 2) := by decide +kernel
theorem dL_law_673 : decode cL_law 673 = .ok (.iconst 1, 1) := by decide +kernel
theorem dL_law_674 : decode cL_law 674 = .ok (.iadd, 1) := by decide +kernel
theorem dL_law_675 : decode cL_law 675 = .ok (.iaload, 1) := by decide +kernel
theorem dL_law_676 : decode cL_law 676 = .ok (.invokevirtual 124, 3) := by decide +kernel
theorem dL_law_679 : decode cL_law 679 = .ok (.istore 6, 2) := by decide +kernel
theorem dL_law_681 : decode cL_law 681 = .ok (.aload_n 2, 1) := by decide +kernel
theorem dL_law_682 : decode cL_law 682 = .ok (.invokevirtual 97, 3) := by decide +kernel
theorem dL_law_685 : decode cL_law 685 = .ok (.iload 5, 2) := by decide +kernel
theorem dL_law_687 : decode cL_law 687 = .ok (.if_icmp .eq 5, 3) := by decide +kernel
theorem dL_law_690 : decode cL_law 690 = .ok (.iconst 0, 1) := by decide +kernel
theorem dL_law_691 : decode cL_law 691 = .ok (.ireturn, 1) := by decide +kernel
theorem dL_law_692 : decode cL_law 692 = .ok (.iload 5, 2) := by decide +kernel
theorem dL_law_694 : decode cL_law 694 = .ok (.ifCond .ne 15, 3) := by decide +kernel
theorem dL_law_697 : decode cL_law 697 = .ok (.aload_n 3, 1) := by decide +kernel
theorem dL_law_698 : decode cL_law 698 = .ok (.iconst 0, 1) := by decide +kernel
theorem dL_law_699 : decode cL_law 699 = .ok (.laload, 1) := by decide +kernel
theorem dL_law_700 : decode cL_law 700 = .ok (.iload 6, 2) := by decide +kernel
theorem dL_law_702 : decode cL_law 702 = .ok (.i2l, 1) := by decide +kernel
theorem dL_law_703 : decode cL_law 703 = .ok (.lcmp, 1) := by decide +kernel
theorem dL_law_704 : decode cL_law 704 = .ok (.ifCond .eq 5, 3) := by decide +kernel
theorem dL_law_707 : decode cL_law 707 = .ok (.iconst 0, 1) := by decide +kernel
theorem dL_law_708 : decode cL_law 708 = .ok (.ireturn, 1) := by decide +kernel
theorem dL_law_709 : decode cL_law 709 = .ok (.goto 1109, 3) := by decide +kernel
theorem dL_law_712 : decode cL_law 712 = .ok (.aload_n 1, 1) := by decide +kernel
theorem dL_law_713 : decode cL_law 713 = .ok (.aload_n 0, 1) := by decide +kernel
theorem dL_law_714 : decode cL_law 714 = .ok (.iload 4, 2) := by decide +kernel
theorem dL_law_716 : decode cL_law 716 = .ok (.iconst 1, 1) := by decide +kernel
theorem dL_law_717 : decode cL_law 717 = .ok (.iadd, 1) := by decide +kernel
theorem dL_law_718 : decode cL_law 718 = .ok (.iaload, 1) := by decide +kernel
theorem dL_law_719 : decode cL_law 719 = .ok (.aload_n 0, 1) := by decide +kernel
theorem dL_law_720 : decode cL_law 720 = .ok (.iload 4, 2) := by decide +kernel
theorem dL_law_722 : decode cL_law 722 = .ok (.iconst 2, 1) := by decide +kernel
theorem dL_law_723 : decode cL_law 723 = .ok (.iadd, 1) := by decide +kernel
theorem dL_law_724 : decode cL_law 724 = .ok (.iaload, 1) := by decide +kernel
theorem dL_law_725 : decode cL_law 725 = .ok (.aload_n 3, 1) := by decide +kernel
theorem dL_law_726 : decode cL_law 726 = .ok (.invokestatic 125, 3) := by decide +kernel
theorem dL_law_729 : decode cL_law 729 = .ok (.istore 5, 2) := by decide +kernel
theorem dL_law_731 : decode cL_law 731 = .ok (.aload_n 2, 1) := by decide +kernel
theorem dL_law_732 : decode cL_law 732 = .ok (.aload_n 0, 1) := by decide +kernel
theorem dL_law_733 : decode cL_law 733 = .ok (.iload 4, 2) := by decide +kernel
theorem dL_law_735 : decode cL_law 735 = .ok (.iconst 1, 1) := by decide +kernel
theorem dL_law_736 : decode cL_law 736 = .ok (.iadd, 1) := by decide +kernel
theorem dL_law_737 : decode cL_law 737 = .ok (.iaload, 1) := by decide +kernel
theorem dL_law_738 : decode cL_law 738 = .ok (.aload_n 0, 1) := by decide +kernel
theorem dL_law_739 : decode cL_law 739 = .ok (.iload 4, 2) := by decide +kernel
theorem dL_law_741 : decode cL_law 741 = .ok (.iconst 2, 1) := by decide +kernel
theorem dL_law_742 : decode cL_law 742 = .ok (.iadd, 1) := by decide +kernel
theorem dL_law_743 : decode cL_law 743 = .ok (.iaload, 1) := by decide +kernel
theorem dL_law_744 : decode cL_law 744 = .ok (.invokevirtual 127, 3) := by decide +kernel
theorem dL_law_747 : decode cL_law 747 = .ok (.istore 6, 2) := by decide +kernel
theorem dL_law_749 : decode cL_law 749 = .ok (.aload_n 2, 1) := by decide +kernel
theorem dL_law_750 : decode cL_law 750 = .ok (.invokevirtual 97, 3) := by decide +kernel
theorem dL_law_753 : decode cL_law 753 = .ok (.iload 5, 2) := by decide +kernel
theorem dL_law_755 : decode cL_law 755 = .ok (.if_icmp .eq 5, 3) := by decide +kernel
theorem dL_law_758 : decode cL_law 758 = .ok (.iconst 0, 1) := by decide +kernel
theorem dL_law_759 : decode cL_law 759 = .ok (.ireturn, 1) := by decide +kernel
theorem dL_law_760 : decode cL_law 760 = .ok (.iload 5, 2) := by decide +kernel
theorem dL_law_762 : decode cL_law 762 = .ok (.ifCond .ne 15, 3) := by decide +kernel
theorem dL_law_765 : decode cL_law 765 = .ok (.aload_n 3, 1) := by decide +kernel
theorem dL_law_766 : decode cL_law 766 = .ok (.iconst 0, 1) := by decide +kernel
theorem dL_law_767 : decode cL_law 767 = .ok (.laload, 1) := by decide +kernel
theorem dL_law_768 : decode cL_law 768 = .ok (.iload 6, 2) := by decide +kernel
theorem dL_law_770 : decode cL_law 770 = .ok (.i2l, 1) := by decide +kernel
theorem dL_law_771 : decode cL_law 771 = .ok (.lcmp, 1) := by decide +kernel
theorem dL_law_772 : decode cL_law 772 = .ok (.ifCond .eq 5, 3) := by decide +kernel
theorem dL_law_775 : decode cL_law 775 = .ok (.iconst 0, 1) := by decide +kernel
theorem dL_law_776 : decode cL_law 776 = .ok (.ireturn, 1) := by decide +kernel
theorem dL_law_777 : decode cL_law 777 = .ok (.goto 1041, 3) := by decide +kernel
theorem dL_law_780 : decode cL_law 780 = .ok (.aload_n 1, 1) := by decide +kernel
theorem dL_law_781 : decode cL_law 781 = .ok (.aload_n 0, 1) := by decide +kernel
theorem dL_law_782 : decode cL_law 782 = .ok (.iload 4, 2) := by decide +kernel
theorem dL_law_784 : decode cL_law 784 = .ok (.iconst 1, 1) := by decide +kernel
theorem dL_law_785 : decode cL_law 785 = .ok (.iadd, 1) := by decide +kernel
theorem dL_law_786 : decode cL_law 786 = .ok (.iaload, 1) := by decide +kernel
theorem dL_law_787 : decode cL_law 787 = .ok (.aload_n 0, 1) := by decide +kernel
theorem dL_law_788 : decode cL_law 788 = .ok (.iload 4, 2) := by decide +kernel
theorem dL_law_790 : decode cL_law 790 = .ok (.iconst 2, 1) := by decide +kernel
theorem dL_law_791 : decode cL_law 791 = .ok (.iadd, 1) := by decide +kernel
theorem dL_law_792 : decode cL_law 792 = .ok (.iaload, 1) := by decide +kernel
theorem dL_law_793 : decode cL_law 793 = .ok (.aload_n 3, 1) := by decide +kernel
theorem dL_law_794 : decode cL_law 794 = .ok (.invokestatic 128, 3) := by decide +kernel
theorem dL_law_797 : decode cL_law 797 = .ok (.istore 5, 2) := by decide +kernel
theorem dL_law_799 : decode cL_law 799 = .ok (.aload_n 2, 1) := by decide +kernel
theorem dL_law_800 : decode cL_law 800 = .ok (.aload_n 0, 1) := by decide +kernel
theorem dL_law_801 : decode cL_law 801 = .ok (.iload 4, 2) := by decide +kernel
theorem dL_law_803 : decode cL_law 803 = .ok (.iconst 1, 1) := by decide +kernel
theorem dL_law_804 : decode cL_law 804 = .ok (.iadd, 1) := by decide +kernel
theorem dL_law_805 : decode cL_law 805 = .ok (.iaload, 1) := by decide +kernel
theorem dL_law_806 : decode cL_law 806 = .ok (.aload_n 0, 1) := by decide +kernel
theorem dL_law_807 : decode cL_law 807 = .ok (.iload 4, 2) := by decide +kernel
theorem dL_law_809 : decode cL_law 809 = .ok (.iconst 2, 1) := by decide +kernel
theorem dL_law_810 : decode cL_law 810 = .ok (.iadd, 1) := by decide +kernel
theorem dL_law_811 : decode cL_law 811 = .ok (.iaload, 1) := by decide +kernel
theorem dL_law_812 : decode cL_law 812 = .ok (.invokevirtual 130, 3) := by decide +kernel
theorem dL_law_815 : decode cL_law 815 = .ok (.istore 6, 2) := by decide +kernel
theorem dL_law_817 : decode cL_law 817 = .ok (.aload_n 2, 1) := by decide +kernel
theorem dL_law_818 : decode cL_law 818 = .ok (.invokevirtual 97, 3) := by decide +kernel
theorem dL_law_821 : decode cL_law 821 = .ok (.iload 5, 2) := by decide +kernel
theorem dL_law_823 : decode cL_law 823 = .ok (.if_icmp .eq 5, 3) := by decide +kernel
theorem dL_law_826 : decode cL_law 826 = .ok (.iconst 0, 1) := by decide +kernel
theorem dL_law_827 : decode cL_law 827 = .ok (.ireturn, 1) := by decide +kernel
theorem dL_law_828 : decode cL_law 828 = .ok (.iload 5, 2) := by decide +kernel
theorem dL_law_830 : decode cL_law 830 = .ok (.ifCond .ne 15, 3) := by decide +kernel
theorem dL_law_833 : decode cL_law 833 = .ok (.aload_n 3, 1) := by decide +kernel
theorem dL_law_834 : decode cL_law 834 = .ok (.iconst 0, 1) := by decide +kernel
theorem dL_law_835 : decode cL_law 835 = .ok (.laload, 1) := by decide +kernel
theorem dL_law_836 : decode cL_law 836 = .ok (.iload 6, 2) := by decide +kernel
theorem dL_law_838 : decode cL_law 838 = .ok (.i2l, 1) := by decide +kernel
theorem dL_law_839 : decode cL_law 839 = .ok (.lcmp, 1) := by decide +kernel
theorem dL_law_840 : decode cL_law 840 = .ok (.ifCond .eq 5, 3) := by decide +kernel
theorem dL_law_843 : decode cL_law 843 = .ok (.iconst 0, 1) := by decide +kernel
theorem dL_law_844 : decode cL_law 844 = .ok (.ireturn, 1) := by decide +kernel
theorem dL_law_845 : decode cL_law 845 = .ok (.goto 973, 3) := by decide +kernel
theorem dL_law_848 : decode cL_law 848 = .ok (.aload_n 1, 1) := by decide +kernel
theorem dL_law_849 : decode cL_law 849 = .ok (.aload_n 0, 1) := by decide +kernel
theorem dL_law_850 : decode cL_law 850 = .ok (.iload 4, 2) := by decide +kernel
theorem dL_law_852 : decode cL_law 852 = .ok (.iconst 1, 1) := by decide +kernel
theorem dL_law_853 : decode cL_law 853 = .ok (.iadd, 1) := by decide +kernel
theorem dL_law_854 : decode cL_law 854 = .ok (.iaload, 1) := by decide +kernel
theorem dL_law_855 : decode cL_law 855 = .ok (.aload_n 0, 1) := by decide +kernel
theorem dL_law_856 : decode cL_law 856 = .ok (.iload 4, 2) := by decide +kernel
theorem dL_law_858 : decode cL_law 858 = .ok (.iconst 2, 1) := by decide +kernel
theorem dL_law_859 : decode cL_law 859 = .ok (.iadd, 1) := by decide +kernel
theorem dL_law_860 : decode cL_law 860 = .ok (.iaload, 1) := by decide +kernel
theorem dL_law_861 : decode cL_law 861 = .ok (.aload_n 0, 1) := by decide +kernel
theorem dL_law_862 : decode cL_law 862 = .ok (.iload 4, 2) := by decide +kernel
theorem dL_law_864 : decode cL_law 864 = .ok (.iconst 3, 1) := by decide +kernel
theorem dL_law_865 : decode cL_law 865 = .ok (.iadd, 1) := by decide +kernel
theorem dL_law_866 : decode cL_law 866 = .ok (.iaload, 1) := by decide +kernel
theorem dL_law_867 : decode cL_law 867 = .ok (.aload_n 3, 1) := by decide +kernel
theorem dL_law_868 : decode cL_law 868 = .ok (.invokestatic 131, 3) := by decide +kernel
theorem dL_law_871 : decode cL_law 871 = .ok (.istore 5, 2) := by decide +kernel
theorem dL_law_873 : decode cL_law 873 = .ok (.aload_n 2, 1) := by decide +kernel
theorem dL_law_874 : decode cL_law 874 = .ok (.aload_n 0, 1) := by decide +kernel
theorem dL_law_875 : decode cL_law 875 = .ok (.iload 4, 2) := by decide +kernel
theorem dL_law_877 : decode cL_law 877 = .ok (.iconst 1, 1) := by decide +kernel
theorem dL_law_878 : decode cL_law 878 = .ok (.iadd, 1) := by decide +kernel
theorem dL_law_879 : decode cL_law 879 = .ok (.iaload, 1) := by decide +kernel
theorem dL_law_880 : decode cL_law 880 = .ok (.aload_n 0, 1) := by decide +kernel
theorem dL_law_881 : decode cL_law 881 = .ok (.iload 4, 2) := by decide +kernel
theorem dL_law_883 : decode cL_law 883 = .ok (.iconst 2, 1) := by decide +kernel
theorem dL_law_884 : decode cL_law 884 = .ok (.iadd, 1) := by decide +kernel
theorem dL_law_885 : decode cL_law 885 = .ok (.iaload, 1) := by decide +kernel
theorem dL_law_886 : decode cL_law 886 = .ok (.aload_n 0, 1) := by decide +kernel
theorem dL_law_887 : decode cL_law 887 = .ok (.iload 4, 2) := by decide +kernel
theorem dL_law_889 : decode cL_law 889 = .ok (.iconst 3, 1) := by decide +kernel
theorem dL_law_890 : decode cL_law 890 = .ok (.iadd, 1) := by decide +kernel
theorem dL_law_891 : decode cL_law 891 = .ok (.iaload, 1) := by decide +kernel
theorem dL_law_892 : decode cL_law 892 = .ok (.invokevirtual 134, 3) := by decide +kernel
theorem dL_law_895 : decode cL_law 895 = .ok (.istore 6, 2) := by decide +kernel
theorem dL_law_897 : decode cL_law 897 = .ok (.aload_n 2, 1) := by decide +kernel
theorem dL_law_898 : decode cL_law 898 = .ok (.invokevirtual 97, 3) := by decide +kernel
theorem dL_law_901 : decode cL_law 901 = .ok (.iload 5, 2) := by decide +kernel
theorem dL_law_903 : decode cL_law 903 = .ok (.if_icmp .eq 5, 3) := by decide +kernel
theorem dL_law_906 : decode cL_law 906 = .ok (.iconst 0, 1) := by decide +kernel
theorem dL_law_907 : decode cL_law 907 = .ok (.ireturn, 1) := by decide +kernel
theorem dL_law_908 : decode cL_law 908 = .ok (.iload 5, 2) := by decide +kernel
theorem dL_law_910 : decode cL_law 910 = .ok (.ifCond .ne 15, 3) := by decide +kernel
theorem dL_law_913 : decode cL_law 913 = .ok (.aload_n 3, 1) := by decide +kernel
theorem dL_law_914 : decode cL_law 914 = .ok (.iconst 0, 1) := by decide +kernel
theorem dL_law_915 : decode cL_law 915 = .ok (.laload, 1) := by decide +kernel
theorem dL_law_916 : decode cL_law 916 = .ok (.iload 6, 2) := by decide +kernel
theorem dL_law_918 : decode cL_law 918 = .ok (.i2l, 1) := by decide +kernel
theorem dL_law_919 : decode cL_law 919 = .ok (.lcmp, 1) := by decide +kernel
theorem dL_law_920 : decode cL_law 920 = .ok (.ifCond .eq 5, 3) := by decide +kernel
theorem dL_law_923 : decode cL_law 923 = .ok (.iconst 0, 1) := by decide +kernel
theorem dL_law_924 : decode cL_law 924 = .ok (.ireturn, 1) := by decide +kernel
theorem dL_law_925 : decode cL_law 925 = .ok (.goto 893, 3) := by decide +kernel
theorem dL_law_928 : decode cL_law 928 = .ok (.aload_n 1, 1) := by decide +kernel
theorem dL_law_929 : decode cL_law 929 = .ok (.aload_n 0, 1) := by decide +kernel
theorem dL_law_930 : decode cL_law 930 = .ok (.iload 4, 2) := by decide +kernel
theorem dL_law_932 : decode cL_law 932 = .ok (.iconst 1, 1) := by decide +kernel
theorem dL_law_933 : decode cL_law 933 = .ok (.iadd, 1) := by decide +kernel
theorem dL_law_934 : decode cL_law 934 = .ok (.iaload, 1) := by decide +kernel
theorem dL_law_935 : decode cL_law 935 = .ok (.aload_n 0, 1) := by decide +kernel
theorem dL_law_936 : decode cL_law 936 = .ok (.iload 4, 2) := by decide +kernel
theorem dL_law_938 : decode cL_law 938 = .ok (.iconst 2, 1) := by decide +kernel
theorem dL_law_939 : decode cL_law 939 = .ok (.iadd, 1) := by decide +kernel
theorem dL_law_940 : decode cL_law 940 = .ok (.iaload, 1) := by decide +kernel
theorem dL_law_941 : decode cL_law 941 = .ok (.aload_n 0, 1) := by decide +kernel
theorem dL_law_942 : decode cL_law 942 = .ok (.iload 4, 2) := by decide +kernel
theorem dL_law_944 : decode cL_law 944 = .ok (.iconst 3, 1) := by decide +kernel
theorem dL_law_945 : decode cL_law 945 = .ok (.iadd, 1) := by decide +kernel
theorem dL_law_946 : decode cL_law 946 = .ok (.iaload, 1) := by decide +kernel
theorem dL_law_947 : decode cL_law 947 = .ok (.aload_n 3, 1) := by decide +kernel
theorem dL_law_948 : decode cL_law 948 = .ok (.invokestatic 135, 3) := by decide +kernel
theorem dL_law_951 : decode cL_law 951 = .ok (.istore 5, 2) := by decide +kernel
theorem dL_law_953 : decode cL_law 953 = .ok (.aload_n 2, 1) := by decide +kernel
theorem dL_law_954 : decode cL_law 954 = .ok (.aload_n 0, 1) := by decide +kernel
theorem dL_law_955 : decode cL_law 955 = .ok (.iload 4, 2) := by decide +kernel
theorem dL_law_957 : decode cL_law 957 = .ok (.iconst 1, 1) := by decide +kernel
theorem dL_law_958 : decode cL_law 958 = .ok (.iadd, 1) := by decide +kernel
theorem dL_law_959 : decode cL_law 959 = .ok (.iaload, 1) := by decide +kernel
theorem dL_law_960 : decode cL_law 960 = .ok (.aload_n 0, 1) := by decide +kernel
theorem dL_law_961 : decode cL_law 961 = .ok (.iload 4, 2) := by decide +kernel
theorem dL_law_963 : decode cL_law 963 = .ok (.iconst 2, 1) := by decide +kernel
theorem dL_law_964 : decode cL_law 964 = .ok (.iadd, 1) := by decide +kernel
theorem dL_law_965 : decode cL_law 965 = .ok (.iaload, 1) := by decide +kernel
theorem dL_law_966 : decode cL_law 966 = .ok (.aload_n 0, 1) := by decide +kernel
theorem dL_law_967 : decode cL_law 967 = .ok (.iload 4, 2) := by decide +kernel
theorem dL_law_969 : decode cL_law 969 = .ok (.iconst 3, 1) := by decide +kernel
theorem dL_law_970 : decode cL_law 970 = .ok (.iadd, 1) := by decide +kernel
theorem dL_law_971 : decode cL_law 971 = .ok (.iaload, 1) := by decide +kernel
theorem dL_law_972 : decode cL_law 972 = .ok (.invokevirtual 137, 3) := by decide +kernel
theorem dL_law_975 : decode cL_law 975 = .ok (.istore 6, 2) := by decide +kernel
theorem dL_law_977 : decode cL_law 977 = .ok (.aload_n 2, 1) := by decide +kernel
theorem dL_law_978 : decode cL_law 978 = .ok (.invokevirtual 97, 3) := by decide +kernel
theorem dL_law_981 : decode cL_law 981 = .ok (.iload 5, 2) := by decide +kernel
theorem dL_law_983 : decode cL_law 983 = .ok (.if_icmp .eq 5, 3) := by decide +kernel
theorem dL_law_986 : decode cL_law 986 = .ok (.iconst 0, 1) := by decide +kernel
theorem dL_law_987 : decode cL_law 987 = .ok (.ireturn, 1) := by decide +kernel
theorem dL_law_988 : decode cL_law 988 = .ok (.iload 5, 2) := by decide +kernel
theorem dL_law_990 : decode cL_law 990 = .ok (.ifCond .ne 15, 3) := by decide +kernel
theorem dL_law_993 : decode cL_law 993 = .ok (.aload_n 3, 1) := by decide +kernel
theorem dL_law_994 : decode cL_law 994 = .ok (.iconst 0, 1) := by decide +kernel
theorem dL_law_995 : decode cL_law 995 = .ok (.laload, 1) := by decide +kernel
theorem dL_law_996 : decode cL_law 996 = .ok (.iload 6, 2) := by decide +kernel
theorem dL_law_998 : decode cL_law 998 = .ok (.i2l, 1) := by decide +kernel
theorem dL_law_999 : decode cL_law 999 = .ok (.lcmp, 1) := by decide +kernel
theorem dL_law_1000 : decode cL_law 1000 = .ok (.ifCond .eq 5, 3) := by decide +kernel
theorem dL_law_1003 : decode cL_law 1003 = .ok (.iconst 0, 1) := by decide +kernel
theorem dL_law_1004 : decode cL_law 1004 = .ok (.ireturn, 1) := by decide +kernel
theorem dL_law_1005 : decode cL_law 1005 = .ok (.goto 813, 3) := by decide +kernel
theorem dL_law_1008 : decode cL_law 1008 = .ok (.aload_n 1, 1) := by decide +kernel
theorem dL_law_1009 : decode cL_law 1009 = .ok (.aload_n 0, 1) := by decide +kernel
theorem dL_law_1010 : decode cL_law 1010 = .ok (.iload 4, 2) := by decide +kernel
theorem dL_law_1012 : decode cL_law 1012 = .ok (.iconst 1, 1) := by decide +kernel
theorem dL_law_1013 : decode cL_law 1013 = .ok (.iadd, 1) := by decide +kernel
theorem dL_law_1014 : decode cL_law 1014 = .ok (.iaload, 1) := by decide +kernel
theorem dL_law_1015 : decode cL_law 1015 = .ok (.aload_n 0, 1) := by decide +kernel
theorem dL_law_1016 : decode cL_law 1016 = .ok (.iload 4, 2) := by decide +kernel
theorem dL_law_1018 : decode cL_law 1018 = .ok (.iconst 2, 1) := by decide +kernel
theorem dL_law_1019 : decode cL_law 1019 = .ok (.iadd, 1) := by decide +kernel
theorem dL_law_1020 : decode cL_law 1020 = .ok (.iaload, 1) := by decide +kernel
theorem dL_law_1021 : decode cL_law 1021 = .ok (.aload_n 0, 1) := by decide +kernel
theorem dL_law_1022 : decode cL_law 1022 = .ok (.iload 4, 2) := by decide +kernel
theorem dL_law_1024 : decode cL_law 1024 = .ok (.iconst 3, 1) := by decide +kernel
theorem dL_law_1025 : decode cL_law 1025 = .ok (.iadd, 1) := by decide +kernel
theorem dL_law_1026 : decode cL_law 1026 = .ok (.iaload, 1) := by decide +kernel
theorem dL_law_1027 : decode cL_law 1027 = .ok (.aload_n 3, 1) := by decide +kernel
theorem dL_law_1028 : decode cL_law 1028 = .ok (.invokestatic 138, 3) := by decide +kernel
theorem dL_law_1031 : decode cL_law 1031 = .ok (.istore 5, 2) := by decide +kernel
theorem dL_law_1033 : decode cL_law 1033 = .ok (.aload_n 2, 1) := by decide +kernel
theorem dL_law_1034 : decode cL_law 1034 = .ok (.aload_n 0, 1) := by decide +kernel
theorem dL_law_1035 : decode cL_law 1035 = .ok (.iload 4, 2) := by decide +kernel
theorem dL_law_1037 : decode cL_law 1037 = .ok (.iconst 1, 1) := by decide +kernel
theorem dL_law_1038 : decode cL_law 1038 = .ok (.iadd, 1) := by decide +kernel
theorem dL_law_1039 : decode cL_law 1039 = .ok (.iaload, 1) := by decide +kernel
theorem dL_law_1040 : decode cL_law 1040 = .ok (.aload_n 0, 1) := by decide +kernel
theorem dL_law_1041 : decode cL_law 1041 = .ok (.iload 4, 2) := by decide +kernel
theorem dL_law_1043 : decode cL_law 1043 = .ok (.iconst 2, 1) := by decide +kernel
theorem dL_law_1044 : decode cL_law 1044 = .ok (.iadd, 1) := by decide +kernel
theorem dL_law_1045 : decode cL_law 1045 = .ok (.iaload, 1) := by decide +kernel
theorem dL_law_1046 : decode cL_law 1046 = .ok (.aload_n 0, 1) := by decide +kernel
theorem dL_law_1047 : decode cL_law 1047 = .ok (.iload 4, 2) := by decide +kernel
theorem dL_law_1049 : decode cL_law 1049 = .ok (.iconst 3, 1) := by decide +kernel
theorem dL_law_1050 : decode cL_law 1050 = .ok (.iadd, 1) := by decide +kernel
theorem dL_law_1051 : decode cL_law 1051 = .ok (.iaload, 1) := by decide +kernel
theorem dL_law_1052 : decode cL_law 1052 = .ok (.invokevirtual 140, 3) := by decide +kernel
theorem dL_law_1055 : decode cL_law 1055 = .ok (.istore 6, 2) := by decide +kernel
theorem dL_law_1057 : decode cL_law 1057 = .ok (.aload_n 2, 1) := by decide +kernel
theorem dL_law_1058 : decode cL_law 1058 = .ok (.invokevirtual 97, 3) := by decide +kernel
theorem dL_law_1061 : decode cL_law 1061 = .ok (.iload 5, 2) := by decide +kernel
theorem dL_law_1063 : decode cL_law 1063 = .ok (.if_icmp .eq 5, 3) := by decide +kernel
theorem dL_law_1066 : decode cL_law 1066 = .ok (.iconst 0, 1) := by decide +kernel
theorem dL_law_1067 : decode cL_law 1067 = .ok (.ireturn, 1) := by decide +kernel
theorem dL_law_1068 : decode cL_law 1068 = .ok (.iload 5, 2) := by decide +kernel
theorem dL_law_1070 : decode cL_law 1070 = .ok (.ifCond .ne 15, 3) := by decide +kernel
theorem dL_law_1073 : decode cL_law 1073 = .ok (.aload_n 3, 1) := by decide +kernel
theorem dL_law_1074 : decode cL_law 1074 = .ok (.iconst 0, 1) := by decide +kernel
theorem dL_law_1075 : decode cL_law 1075 = .ok (.laload, 1) := by decide +kernel
theorem dL_law_1076 : decode cL_law 1076 = .ok (.iload 6, 2) := by decide +kernel
theorem dL_law_1078 : decode cL_law 1078 = .ok (.i2l, 1) := by decide +kernel
theorem dL_law_1079 : decode cL_law 1079 = .ok (.lcmp, 1) := by decide +kernel
theorem dL_law_1080 : decode cL_law 1080 = .ok (.ifCond .eq 5, 3) := by decide +kernel
theorem dL_law_1083 : decode cL_law 1083 = .ok (.iconst 0, 1) := by decide +kernel
theorem dL_law_1084 : decode cL_law 1084 = .ok (.ireturn, 1) := by decide +kernel
theorem dL_law_1085 : decode cL_law 1085 = .ok (.goto 733, 3) := by decide +kernel
theorem dL_law_1088 : decode cL_law 1088 = .ok (.aload_n 1, 1) := by decide +kernel
theorem dL_law_1089 : decode cL_law 1089 = .ok (.aload_n 0, 1) := by decide +kernel
theorem dL_law_1090 : decode cL_law 1090 = .ok (.iload 4, 2) := by decide +kernel
theorem dL_law_1092 : decode cL_law 1092 = .ok (.iconst 1, 1) := by decide +kernel
theorem dL_law_1093 : decode cL_law 1093 = .ok (.iadd, 1) := by decide +kernel
theorem dL_law_1094 : decode cL_law 1094 = .ok (.iaload, 1) := by decide +kernel
theorem dL_law_1095 : decode cL_law 1095 = .ok (.aload_n 0, 1) := by decide +kernel
theorem dL_law_1096 : decode cL_law 1096 = .ok (.iload 4, 2) := by decide +kernel
theorem dL_law_1098 : decode cL_law 1098 = .ok (.iconst 2, 1) := by decide +kernel
theorem dL_law_1099 : decode cL_law 1099 = .ok (.iadd, 1) := by decide +kernel
theorem dL_law_1100 : decode cL_law 1100 = .ok (.iaload, 1) := by decide +kernel
theorem dL_law_1101 : decode cL_law 1101 = .ok (.aload_n 0, 1) := by decide +kernel
theorem dL_law_1102 : decode cL_law 1102 = .ok (.iload 4, 2) := by decide +kernel
theorem dL_law_1104 : decode cL_law 1104 = .ok (.iconst 3, 1) := by decide +kernel
theorem dL_law_1105 : decode cL_law 1105 = .ok (.iadd, 1) := by decide +kernel
theorem dL_law_1106 : decode cL_law 1106 = .ok (.iaload, 1) := by decide +kernel
theorem dL_law_1107 : decode cL_law 1107 = .ok (.aload_n 3, 1) := by decide +kernel
theorem dL_law_1108 : decode cL_law 1108 = .ok (.invokestatic 141, 3) := by decide +kernel
theorem dL_law_1111 : decode cL_law 1111 = .ok (.istore 5, 2) := by decide +kernel
theorem dL_law_1113 : decode cL_law 1113 = .ok (.aload_n 2, 1) := by decide +kernel
theorem dL_law_1114 : decode cL_law 1114 = .ok (.aload_n 0, 1) := by decide +kernel
theorem dL_law_1115 : decode cL_law 1115 = .ok (.iload 4, 2) := by decide +kernel
theorem dL_law_1117 : decode cL_law 1117 = .ok (.iconst 1, 1) := by decide +kernel
theorem dL_law_1118 : decode cL_law 1118 = .ok (.iadd, 1) := by decide +kernel
theorem dL_law_1119 : decode cL_law 1119 = .ok (.iaload, 1) := by decide +kernel
theorem dL_law_1120 : decode cL_law 1120 = .ok (.aload_n 0, 1) := by decide +kernel
theorem dL_law_1121 : decode cL_law 1121 = .ok (.iload 4, 2) := by decide +kernel
theorem dL_law_1123 : decode cL_law 1123 = .ok (.iconst 2, 1) := by decide +kernel
theorem dL_law_1124 : decode cL_law 1124 = .ok (.iadd, 1) := by decide +kernel
theorem dL_law_1125 : decode cL_law 1125 = .ok (.iaload, 1) := by decide +kernel
theorem dL_law_1126 : decode cL_law 1126 = .ok (.aload_n 0, 1) := by decide +kernel
theorem dL_law_1127 : decode cL_law 1127 = .ok (.iload 4, 2) := by decide +kernel
theorem dL_law_1129 : decode cL_law 1129 = .ok (.iconst 3, 1) := by decide +kernel
theorem dL_law_1130 : decode cL_law 1130 = .ok (.iadd, 1) := by decide +kernel
theorem dL_law_1131 : decode cL_law 1131 = .ok (.iaload, 1) := by decide +kernel
theorem dL_law_1132 : decode cL_law 1132 = .ok (.invokevirtual 143, 3) := by decide +kernel
theorem dL_law_1135 : decode cL_law 1135 = .ok (.istore 6, 2) := by decide +kernel
theorem dL_law_1137 : decode cL_law 1137 = .ok (.aload_n 2, 1) := by decide +kernel
theorem dL_law_1138 : decode cL_law 1138 = .ok (.invokevirtual 97, 3) := by decide +kernel
theorem dL_law_1141 : decode cL_law 1141 = .ok (.iload 5, 2) := by decide +kernel
theorem dL_law_1143 : decode cL_law 1143 = .ok (.if_icmp .eq 5, 3) := by decide +kernel
theorem dL_law_1146 : decode cL_law 1146 = .ok (.iconst 0, 1) := by decide +kernel
theorem dL_law_1147 : decode cL_law 1147 = .ok (.ireturn, 1) := by decide +kernel
theorem dL_law_1148 : decode cL_law 1148 = .ok (.iload 5, 2) := by decide +kernel
theorem dL_law_1150 : decode cL_law 1150 = .ok (.ifCond .ne 15, 3) := by decide +kernel
theorem dL_law_1153 : decode cL_law 1153 = .ok (.aload_n 3, 1) := by decide +kernel
theorem dL_law_1154 : decode cL_law 1154 = .ok (.iconst 0, 1) := by decide +kernel
theorem dL_law_1155 : decode cL_law 1155 = .ok (.laload, 1) := by decide +kernel
theorem dL_law_1156 : decode cL_law 1156 = .ok (.iload 6, 2) := by decide +kernel
theorem dL_law_1158 : decode cL_law 1158 = .ok (.i2l, 1) := by decide +kernel
theorem dL_law_1159 : decode cL_law 1159 = .ok (.lcmp, 1) := by decide +kernel
theorem dL_law_1160 : decode cL_law 1160 = .ok (.ifCond .eq 5, 3) := by decide +kernel
theorem dL_law_1163 : decode cL_law 1163 = .ok (.iconst 0, 1) := by decide +kernel
theorem dL_law_1164 : decode cL_law 1164 = .ok (.ireturn, 1) := by decide +kernel
theorem dL_law_1165 : decode cL_law 1165 = .ok (.goto 653, 3) := by decide +kernel
theorem dL_law_1168 : decode cL_law 1168 = .ok (.aload_n 1, 1) := by decide +kernel
theorem dL_law_1169 : decode cL_law 1169 = .ok (.aload_n 0, 1) := by decide +kernel
theorem dL_law_1170 : decode cL_law 1170 = .ok (.iload 4, 2) := by decide +kernel
theorem dL_law_1172 : decode cL_law 1172 = .ok (.iconst 1, 1) := by decide +kernel
theorem dL_law_1173 : decode cL_law 1173 = .ok (.iadd, 1) := by decide +kernel
theorem dL_law_1174 : decode cL_law 1174 = .ok (.iaload, 1) := by decide +kernel
theorem dL_law_1175 : decode cL_law 1175 = .ok (.aload_n 3, 1) := by decide +kernel
theorem dL_law_1176 : decode cL_law 1176 = .ok (.invokestatic 144, 3) := by decide +kernel
theorem dL_law_1179 : decode cL_law 1179 = .ok (.istore 5, 2) := by decide +kernel
theorem dL_law_1181 : decode cL_law 1181 = .ok (.aload_n 2, 1) := by decide +kernel
theorem dL_law_1182 : decode cL_law 1182 = .ok (.aload_n 0, 1) := by decide +kernel
theorem dL_law_1183 : decode cL_law 1183 = .ok (.iload 4, 2) := by decide +kernel
theorem dL_law_1185 : decode cL_law 1185 = .ok (.iconst 1, 1) := by decide +kernel
theorem dL_law_1186 : decode cL_law 1186 = .ok (.iadd, 1) := by decide +kernel
theorem dL_law_1187 : decode cL_law 1187 = .ok (.iaload, 1) := by decide +kernel
theorem dL_law_1188 : decode cL_law 1188 = .ok (.invokevirtual 146, 3) := by decide +kernel
theorem dL_law_1191 : decode cL_law 1191 = .ok (.istore 6, 2) := by decide +kernel
theorem dL_law_1193 : decode cL_law 1193 = .ok (.aload_n 2, 1) := by decide +kernel
theorem dL_law_1194 : decode cL_law 1194 = .ok (.invokevirtual 97, 3) := by decide +kernel
theorem dL_law_1197 : decode cL_law 1197 = .ok (.iload 5, 2) := by decide +kernel
theorem dL_law_1199 : decode cL_law 1199 = .ok (.if_icmp .eq 5, 3) := by decide +kernel
theorem dL_law_1202 : decode cL_law 1202 = .ok (.iconst 0, 1) := by decide +kernel
theorem dL_law_1203 : decode cL_law 1203 = .ok (.ireturn, 1) := by decide +kernel
theorem dL_law_1204 : decode cL_law 1204 = .ok (.iload 5, 2) := by decide +kernel
theorem dL_law_1206 : decode cL_law 1206 = .ok (.ifCond .ne 15, 3) := by decide +kernel
theorem dL_law_1209 : decode cL_law 1209 = .ok (.aload_n 3, 1) := by decide +kernel
theorem dL_law_1210 : decode cL_law 1210 = .ok (.iconst 0, 1) := by decide +kernel
theorem dL_law_1211 : decode cL_law 1211 = .ok (.laload, 1) := by decide +kernel
theorem dL_law_1212 : decode cL_law 1212 = .ok (.iload 6, 2) := by decide +kernel
theorem dL_law_1214 : decode cL_law 1214 = .ok (.i2l, 1) := by decide +kernel
theorem dL_law_1215 : decode cL_law 1215 = .ok (.lcmp, 1) := by decide +kernel
theorem dL_law_1216 : decode cL_law 1216 = .ok (.ifCond .eq 5, 3) := by decide +kernel
theorem dL_law_1219 : decode cL_law 1219 = .ok (.iconst 0, 1) := by decide +kernel
theorem dL_law_1220 : decode cL_law 1220 = .ok (.ireturn, 1) := by decide +kernel
theorem dL_law_1221 : decode cL_law 1221 = .ok (.goto 597, 3) := by decide +kernel
theorem dL_law_1224 : decode cL_law 1224 = .ok (.aload_n 1, 1) := by decide +kernel
theorem dL_law_1225 : decode cL_law 1225 = .ok (.invokevirtual 147, 3) := by decide +kernel
theorem dL_law_1228 : decode cL_law 1228 = .ok (.aload_n 2, 1) := by decide +kernel
theorem dL_law_1229 : decode cL_law 1229 = .ok (.invokevirtual 150, 3) := by decide +kernel
theorem dL_law_1232 : decode cL_law 1232 = .ok (.if_icmp .eq 586, 3) := by decide +kernel
theorem dL_law_1235 : decode cL_law 1235 = .ok (.iconst 0, 1) := by decide +kernel
theorem dL_law_1236 : decode cL_law 1236 = .ok (.ireturn, 1) := by decide +kernel
theorem dL_law_1237 : decode cL_law 1237 = .ok (.aload_n 1, 1) := by decide +kernel
theorem dL_law_1238 : decode cL_law 1238 = .ok (.invokevirtual 151, 3) := by decide +kernel
theorem dL_law_1241 : decode cL_law 1241 = .ok (.aload_n 2, 1) := by decide +kernel
theorem dL_law_1242 : decode cL_law 1242 = .ok (.invokevirtual 154, 3) := by decide +kernel
theorem dL_law_1245 : decode cL_law 1245 = .ok (.if_icmp .eq 573, 3) := by decide +kernel
theorem dL_law_1248 : decode cL_law 1248 = .ok (.iconst 0, 1) := by decide +kernel
theorem dL_law_1249 : decode cL_law 1249 = .ok (.ireturn, 1) := by decide +kernel
theorem dL_law_1250 : decode cL_law 1250 = .ok (.aload_n 1, 1) := by decide +kernel
theorem dL_law_1251 : decode cL_law 1251 = .ok (.aload_n 0, 1) := by decide +kernel
theorem dL_law_1252 : decode cL_law 1252 = .ok (.iload 4, 2) := by decide +kernel
theorem dL_law_1254 : decode cL_law 1254 = .ok (.iconst 1, 1) := by decide +kernel
theorem dL_law_1255 : decode cL_law 1255 = .ok (.iadd, 1) := by decide +kernel
theorem dL_law_1256 : decode cL_law 1256 = .ok (.iaload, 1) := by decide +kernel
theorem dL_law_1257 : decode cL_law 1257 = .ok (.aload_n 3, 1) := by decide +kernel
theorem dL_law_1258 : decode cL_law 1258 = .ok (.invokestatic 155, 3) := by decide +kernel
theorem dL_law_1261 : decode cL_law 1261 = .ok (.istore 5, 2) := by decide +kernel
theorem dL_law_1263 : decode cL_law 1263 = .ok (.aload_n 2, 1) := by decide +kernel
theorem dL_law_1264 : decode cL_law 1264 = .ok (.aload_n 0, 1) := by decide +kernel
theorem dL_law_1265 : decode cL_law 1265 = .ok (.iload 4, 2) := by decide +kernel
theorem dL_law_1267 : decode cL_law 1267 = .ok (.iconst 1, 1) := by decide +kernel
theorem dL_law_1268 : decode cL_law 1268 = .ok (.iadd, 1) := by decide +kernel
theorem dL_law_1269 : decode cL_law 1269 = .ok (.iaload, 1) := by decide +kernel
theorem dL_law_1270 : decode cL_law 1270 = .ok (.invokevirtual 157, 3) := by decide +kernel
theorem dL_law_1273 : decode cL_law 1273 = .ok (.istore 6, 2) := by decide +kernel
theorem dL_law_1275 : decode cL_law 1275 = .ok (.aload_n 2, 1) := by decide +kernel
theorem dL_law_1276 : decode cL_law 1276 = .ok (.invokevirtual 97, 3) := by decide +kernel
theorem dL_law_1279 : decode cL_law 1279 = .ok (.iload 5, 2) := by decide +kernel
theorem dL_law_1281 : decode cL_law 1281 = .ok (.if_icmp .eq 5, 3) := by decide +kernel
theorem dL_law_1284 : decode cL_law 1284 = .ok (.iconst 0, 1) := by decide +kernel
theorem dL_law_1285 : decode cL_law 1285 = .ok (.ireturn, 1) := by decide +kernel
theorem dL_law_1286 : decode cL_law 1286 = .ok (.iload 5, 2) := by decide +kernel
theorem dL_law_1288 : decode cL_law 1288 = .ok (.ifCond .ne 15, 3) := by decide +kernel
theorem dL_law_1291 : decode cL_law 1291 = .ok (.aload_n 3, 1) := by decide +kernel
theorem dL_law_1292 : decode cL_law 1292 = .ok (.iconst 0, 1) := by decide +kernel
theorem dL_law_1293 : decode cL_law 1293 = .ok (.laload, 1) := by decide +kernel
theorem dL_law_1294 : decode cL_law 1294 = .ok (.iload 6, 2) := by decide +kernel
theorem dL_law_1296 : decode cL_law 1296 = .ok (.i2l, 1) := by decide +kernel
theorem dL_law_1297 : decode cL_law 1297 = .ok (.lcmp, 1) := by decide +kernel
theorem dL_law_1298 : decode cL_law 1298 = .ok (.ifCond .eq 5, 3) := by decide +kernel
theorem dL_law_1301 : decode cL_law 1301 = .ok (.iconst 0, 1) := by decide +kernel
theorem dL_law_1302 : decode cL_law 1302 = .ok (.ireturn, 1) := by decide +kernel
theorem dL_law_1303 : decode cL_law 1303 = .ok (.goto 515, 3) := by decide +kernel
theorem dL_law_1306 : decode cL_law 1306 = .ok (.aload_n 1, 1) := by decide +kernel
theorem dL_law_1307 : decode cL_law 1307 = .ok (.invokevirtual 158, 3) := by decide +kernel
theorem dL_law_1310 : decode cL_law 1310 = .ok (.dstore 5, 2) := by decide +kernel
theorem dL_law_1312 : decode cL_law 1312 = .ok (.aload_n 2, 1) := by decide +kernel
theorem dL_law_1313 : decode cL_law 1313 = .ok (.invokevirtual 162, 3) := by decide +kernel
theorem dL_law_1316 : decode cL_law 1316 = .ok (.dstore 7, 2) := by decide +kernel
theorem dL_law_1318 : decode cL_law 1318 = .ok (.dload 5, 2) := by decide +kernel
theorem dL_law_1320 : decode cL_law 1320 = .ok (.dload 7, 2) := by decide +kernel
theorem dL_law_1322 : decode cL_law 1322 = .ok (.dcmp .l, 1) := by decide +kernel
theorem dL_law_1323 : decode cL_law 1323 = .ok (.ifCond .eq 21, 3) := by decide +kernel
theorem dL_law_1326 : decode cL_law 1326 = .ok (.dload 5, 2) := by decide +kernel
theorem dL_law_1328 : decode cL_law 1328 = .ok (.dload 5, 2) := by decide +kernel
theorem dL_law_1330 : decode cL_law 1330 = .ok (.dcmp .l, 1) := by decide +kernel
theorem dL_law_1331 : decode cL_law 1331 = .ok (.ifCond .eq 11, 3) := by decide +kernel
theorem dL_law_1334 : decode cL_law 1334 = .ok (.dload 7, 2) := by decide +kernel
theorem dL_law_1336 : decode cL_law 1336 = .ok (.dload 7, 2) := by decide +kernel
theorem dL_law_1338 : decode cL_law 1338 = .ok (.dcmp .l, 1) := by decide +kernel
theorem dL_law_1339 : decode cL_law 1339 = .ok (.ifCond .ne 5, 3) := by decide +kernel
theorem dL_law_1342 : decode cL_law 1342 = .ok (.iconst 0, 1) := by decide +kernel
theorem dL_law_1343 : decode cL_law 1343 = .ok (.ireturn, 1) := by decide +kernel
theorem dL_law_1344 : decode cL_law 1344 = .ok (.goto 474, 3) := by decide +kernel
theorem dL_law_1347 : decode cL_law 1347 = .ok (.aload_n 1, 1) := by decide +kernel
theorem dL_law_1348 : decode cL_law 1348 = .ok (.aload_n 0, 1) := by decide +kernel
theorem dL_law_1349 : decode cL_law 1349 = .ok (.iload 4, 2) := by decide +kernel
theorem dL_law_1351 : decode cL_law 1351 = .ok (.iconst 1, 1) := by decide +kernel
theorem dL_law_1352 : decode cL_law 1352 = .ok (.iadd, 1) := by decide +kernel
theorem dL_law_1353 : decode cL_law 1353 = .ok (.iaload, 1) := by decide +kernel
theorem dL_law_1354 : decode cL_law 1354 = .ok (.aload_n 0, 1) := by decide +kernel
theorem dL_law_1355 : decode cL_law 1355 = .ok (.iload 4, 2) := by decide +kernel
theorem dL_law_1357 : decode cL_law 1357 = .ok (.iconst 2, 1) := by decide +kernel
theorem dL_law_1358 : decode cL_law 1358 = .ok (.iadd, 1) := by decide +kernel
theorem dL_law_1359 : decode cL_law 1359 = .ok (.iaload, 1) := by decide +kernel
theorem dL_law_1360 : decode cL_law 1360 = .ok (.aload_n 0, 1) := by decide +kernel
theorem dL_law_1361 : decode cL_law 1361 = .ok (.iload 4, 2) := by decide +kernel
theorem dL_law_1363 : decode cL_law 1363 = .ok (.iconst 3, 1) := by decide +kernel
theorem dL_law_1364 : decode cL_law 1364 = .ok (.iadd, 1) := by decide +kernel
theorem dL_law_1365 : decode cL_law 1365 = .ok (.iaload, 1) := by decide +kernel
theorem dL_law_1366 : decode cL_law 1366 = .ok (.aload_n 3, 1) := by decide +kernel
theorem dL_law_1367 : decode cL_law 1367 = .ok (.invokestatic 163, 3) := by decide +kernel
theorem dL_law_1370 : decode cL_law 1370 = .ok (.istore 5, 2) := by decide +kernel
theorem dL_law_1372 : decode cL_law 1372 = .ok (.aload_n 2, 1) := by decide +kernel
theorem dL_law_1373 : decode cL_law 1373 = .ok (.aload_n 0, 1) := by decide +kernel
theorem dL_law_1374 : decode cL_law 1374 = .ok (.iload 4, 2) := by decide +kernel
theorem dL_law_1376 : decode cL_law 1376 = .ok (.iconst 1, 1) := by decide +kernel
theorem dL_law_1377 : decode cL_law 1377 = .ok (.iadd, 1) := by decide +kernel
theorem dL_law_1378 : decode cL_law 1378 = .ok (.iaload, 1) := by decide +kernel
theorem dL_law_1379 : decode cL_law 1379 = .ok (.aload_n 0, 1) := by decide +kernel
theorem dL_law_1380 : decode cL_law 1380 = .ok (.iload 4, 2) := by decide +kernel
theorem dL_law_1382 : decode cL_law 1382 = .ok (.iconst 2, 1) := by decide +kernel
theorem dL_law_1383 : decode cL_law 1383 = .ok (.iadd, 1) := by decide +kernel
theorem dL_law_1384 : decode cL_law 1384 = .ok (.iaload, 1) := by decide +kernel
theorem dL_law_1385 : decode cL_law 1385 = .ok (.aload_n 0, 1) := by decide +kernel
theorem dL_law_1386 : decode cL_law 1386 = .ok (.iload 4, 2) := by decide +kernel
theorem dL_law_1388 : decode cL_law 1388 = .ok (.iconst 3, 1) := by decide +kernel
theorem dL_law_1389 : decode cL_law 1389 = .ok (.iadd, 1) := by decide +kernel
theorem dL_law_1390 : decode cL_law 1390 = .ok (.iaload, 1) := by decide +kernel
theorem dL_law_1391 : decode cL_law 1391 = .ok (.invokevirtual 165, 3) := by decide +kernel
theorem dL_law_1394 : decode cL_law 1394 = .ok (.istore 6, 2) := by decide +kernel
theorem dL_law_1396 : decode cL_law 1396 = .ok (.aload_n 2, 1) := by decide +kernel
theorem dL_law_1397 : decode cL_law 1397 = .ok (.invokevirtual 97, 3) := by decide +kernel
theorem dL_law_1400 : decode cL_law 1400 = .ok (.iload 5, 2) := by decide +kernel
theorem dL_law_1402 : decode cL_law 1402 = .ok (.if_icmp .eq 5, 3) := by decide +kernel
theorem dL_law_1405 : decode cL_law 1405 = .ok (.iconst 0, 1) := by decide +kernel
theorem dL_law_1406 : decode cL_law 1406 = .ok (.ireturn, 1) := by decide +kernel
theorem dL_law_1407 : decode cL_law 1407 = .ok (.iload 5, 2) := by decide +kernel
theorem dL_law_1409 : decode cL_law 1409 = .ok (.ifCond .ne 15, 3) := by decide +kernel
theorem dL_law_1412 : decode cL_law 1412 = .ok (.aload_n 3, 1) := by decide +kernel
theorem dL_law_1413 : decode cL_law 1413 = .ok (.iconst 0, 1) := by decide +kernel
theorem dL_law_1414 : decode cL_law 1414 = .ok (.laload, 1) := by decide +kernel
theorem dL_law_1415 : decode cL_law 1415 = .ok (.iload 6, 2) := by decide +kernel
theorem dL_law_1417 : decode cL_law 1417 = .ok (.i2l, 1) := by decide +kernel
theorem dL_law_1418 : decode cL_law 1418 = .ok (.lcmp, 1) := by decide +kernel
theorem dL_law_1419 : decode cL_law 1419 = .ok (.ifCond .eq 5, 3) := by decide +kernel
theorem dL_law_1422 : decode cL_law 1422 = .ok (.iconst 0, 1) := by decide +kernel
theorem dL_law_1423 : decode cL_law 1423 = .ok (.ireturn, 1) := by decide +kernel
theorem dL_law_1424 : decode cL_law 1424 = .ok (.goto 394, 3) := by decide +kernel
theorem dL_law_1427 : decode cL_law 1427 = .ok (.aload_n 1, 1) := by decide +kernel
theorem dL_law_1428 : decode cL_law 1428 = .ok (.aload_n 0, 1) := by decide +kernel
theorem dL_law_1429 : decode cL_law 1429 = .ok (.iload 4, 2) := by decide +kernel
theorem dL_law_1431 : decode cL_law 1431 = .ok (.iconst 1, 1) := by decide +kernel
theorem dL_law_1432 : decode cL_law 1432 = .ok (.iadd, 1) := by decide +kernel
theorem dL_law_1433 : decode cL_law 1433 = .ok (.iaload, 1) := by decide +kernel
theorem dL_law_1434 : decode cL_law 1434 = .ok (.aload_n 0, 1) := by decide +kernel
theorem dL_law_1435 : decode cL_law 1435 = .ok (.iload 4, 2) := by decide +kernel
theorem dL_law_1437 : decode cL_law 1437 = .ok (.iconst 2, 1) := by decide +kernel
theorem dL_law_1438 : decode cL_law 1438 = .ok (.iadd, 1) := by decide +kernel
theorem dL_law_1439 : decode cL_law 1439 = .ok (.iaload, 1) := by decide +kernel
theorem dL_law_1440 : decode cL_law 1440 = .ok (.aload_n 0, 1) := by decide +kernel
theorem dL_law_1441 : decode cL_law 1441 = .ok (.iload 4, 2) := by decide +kernel
theorem dL_law_1443 : decode cL_law 1443 = .ok (.iconst 3, 1) := by decide +kernel
theorem dL_law_1444 : decode cL_law 1444 = .ok (.iadd, 1) := by decide +kernel
theorem dL_law_1445 : decode cL_law 1445 = .ok (.iaload, 1) := by decide +kernel
theorem dL_law_1446 : decode cL_law 1446 = .ok (.aload_n 3, 1) := by decide +kernel
theorem dL_law_1447 : decode cL_law 1447 = .ok (.invokestatic 166, 3) := by decide +kernel
theorem dL_law_1450 : decode cL_law 1450 = .ok (.istore 5, 2) := by decide +kernel
theorem dL_law_1452 : decode cL_law 1452 = .ok (.aload_n 2, 1) := by decide +kernel
theorem dL_law_1453 : decode cL_law 1453 = .ok (.aload_n 0, 1) := by decide +kernel
theorem dL_law_1454 : decode cL_law 1454 = .ok (.iload 4, 2) := by decide +kernel
theorem dL_law_1456 : decode cL_law 1456 = .ok (.iconst 1, 1) := by decide +kernel
theorem dL_law_1457 : decode cL_law 1457 = .ok (.iadd, 1) := by decide +kernel
theorem dL_law_1458 : decode cL_law 1458 = .ok (.iaload, 1) := by decide +kernel
theorem dL_law_1459 : decode cL_law 1459 = .ok (.aload_n 0, 1) := by decide +kernel
theorem dL_law_1460 : decode cL_law 1460 = .ok (.iload 4, 2) := by decide +kernel
theorem dL_law_1462 : decode cL_law 1462 = .ok (.iconst 2, 1) := by decide +kernel
theorem dL_law_1463 : decode cL_law 1463 = .ok (.iadd, 1) := by decide +kernel
theorem dL_law_1464 : decode cL_law 1464 = .ok (.iaload, 1) := by decide +kernel
theorem dL_law_1465 : decode cL_law 1465 = .ok (.aload_n 0, 1) := by decide +kernel
theorem dL_law_1466 : decode cL_law 1466 = .ok (.iload 4, 2) := by decide +kernel
theorem dL_law_1468 : decode cL_law 1468 = .ok (.iconst 3, 1) := by decide +kernel
theorem dL_law_1469 : decode cL_law 1469 = .ok (.iadd, 1) := by decide +kernel
theorem dL_law_1470 : decode cL_law 1470 = .ok (.iaload, 1) := by decide +kernel
theorem dL_law_1471 : decode cL_law 1471 = .ok (.invokevirtual 168, 3) := by decide +kernel
theorem dL_law_1474 : decode cL_law 1474 = .ok (.istore 6, 2) := by decide +kernel
theorem dL_law_1476 : decode cL_law 1476 = .ok (.aload_n 2, 1) := by decide +kernel
theorem dL_law_1477 : decode cL_law 1477 = .ok (.invokevirtual 97, 3) := by decide +kernel
theorem dL_law_1480 : decode cL_law 1480 = .ok (.iload 5, 2) := by decide +kernel
theorem dL_law_1482 : decode cL_law 1482 = .ok (.if_icmp .eq 5, 3) := by decide +kernel
theorem dL_law_1485 : decode cL_law 1485 = .ok (.iconst 0, 1) := by decide +kernel
theorem dL_law_1486 : decode cL_law 1486 = .ok (.ireturn, 1) := by decide +kernel
theorem dL_law_1487 : decode cL_law 1487 = .ok (.iload 5, 2) := by decide +kernel
theorem dL_law_1489 : decode cL_law 1489 = .ok (.ifCond .ne 15, 3) := by decide +kernel
theorem dL_law_1492 : decode cL_law 1492 = .ok (.aload_n 3, 1) := by decide +kernel
theorem dL_law_1493 : decode cL_law 1493 = .ok (.iconst 0, 1) := by decide +kernel
theorem dL_law_1494 : decode cL_law 1494 = .ok (.laload, 1) := by decide +kernel
theorem dL_law_1495 : decode cL_law 1495 = .ok (.iload 6, 2) := by decide +kernel
theorem dL_law_1497 : decode cL_law 1497 = .ok (.i2l, 1) := by decide +kernel
theorem dL_law_1498 : decode cL_law 1498 = .ok (.lcmp, 1) := by decide +kernel
theorem dL_law_1499 : decode cL_law 1499 = .ok (.ifCond .eq 5, 3) := by decide +kernel
theorem dL_law_1502 : decode cL_law 1502 = .ok (.iconst 0, 1) := by decide +kernel
theorem dL_law_1503 : decode cL_law 1503 = .ok (.ireturn, 1) := by decide +kernel
theorem dL_law_1504 : decode cL_law 1504 = .ok (.goto 314, 3) := by decide +kernel
theorem dL_law_1507 : decode cL_law 1507 = .ok (.aload_n 1, 1) := by decide +kernel
theorem dL_law_1508 : decode cL_law 1508 = .ok (.aload_n 0, 1) := by decide +kernel
theorem dL_law_1509 : decode cL_law 1509 = .ok (.iload 4, 2) := by decide +kernel
theorem dL_law_1511 : decode cL_law 1511 = .ok (.iconst 1, 1) := by decide +kernel
theorem dL_law_1512 : decode cL_law 1512 = .ok (.iadd, 1) := by decide +kernel
theorem dL_law_1513 : decode cL_law 1513 = .ok (.iaload, 1) := by decide +kernel
theorem dL_law_1514 : decode cL_law 1514 = .ok (.aload_n 0, 1) := by decide +kernel
theorem dL_law_1515 : decode cL_law 1515 = .ok (.iload 4, 2) := by decide +kernel
theorem dL_law_1517 : decode cL_law 1517 = .ok (.iconst 2, 1) := by decide +kernel
theorem dL_law_1518 : decode cL_law 1518 = .ok (.iadd, 1) := by decide +kernel
theorem dL_law_1519 : decode cL_law 1519 = .ok (.iaload, 1) := by decide +kernel
theorem dL_law_1520 : decode cL_law 1520 = .ok (.aload_n 0, 1) := by decide +kernel
theorem dL_law_1521 : decode cL_law 1521 = .ok (.iload 4, 2) := by decide +kernel
theorem dL_law_1523 : decode cL_law 1523 = .ok (.iconst 3, 1) := by decide +kernel
theorem dL_law_1524 : decode cL_law 1524 = .ok (.iadd, 1) := by decide +kernel
theorem dL_law_1525 : decode cL_law 1525 = .ok (.iaload, 1) := by decide +kernel
theorem dL_law_1526 : decode cL_law 1526 = .ok (.aload_n 0, 1) := by decide +kernel
theorem dL_law_1527 : decode cL_law 1527 = .ok (.iload 4, 2) := by decide +kernel
theorem dL_law_1529 : decode cL_law 1529 = .ok (.iconst 4, 1) := by decide +kernel
theorem dL_law_1530 : decode cL_law 1530 = .ok (.iadd, 1) := by decide +kernel
theorem dL_law_1531 : decode cL_law 1531 = .ok (.iaload, 1) := by decide +kernel
theorem dL_law_1532 : decode cL_law 1532 = .ok (.aload_n 3, 1) := by decide +kernel
theorem dL_law_1533 : decode cL_law 1533 = .ok (.invokestatic 169, 3) := by decide +kernel
theorem dL_law_1536 : decode cL_law 1536 = .ok (.istore 5, 2) := by decide +kernel
theorem dL_law_1538 : decode cL_law 1538 = .ok (.aload_n 2, 1) := by decide +kernel
theorem dL_law_1539 : decode cL_law 1539 = .ok (.aload_n 0, 1) := by decide +kernel
theorem dL_law_1540 : decode cL_law 1540 = .ok (.iload 4, 2) := by decide +kernel
theorem dL_law_1542 : decode cL_law 1542 = .ok (.iconst 1, 1) := by decide +kernel
theorem dL_law_1543 : decode cL_law 1543 = .ok (.iadd, 1) := by decide +kernel
theorem dL_law_1544 : decode cL_law 1544 = .ok (.iaload, 1) := by decide +kernel
theorem dL_law_1545 : decode cL_law 1545 = .ok (.aload_n 0, 1) := by decide +kernel
theorem dL_law_1546 : decode cL_law 1546 = .ok (.iload 4, 2) := by decide +kernel
theorem dL_law_1548 : decode cL_law 1548 = .ok (.iconst 2, 1) := by decide +kernel
theorem dL_law_1549 : decode cL_law 1549 = .ok (.iadd, 1) := by decide +kernel
theorem dL_law_1550 : decode cL_law 1550 = .ok (.iaload, 1) := by decide +kernel
theorem dL_law_1551 : decode cL_law 1551 = .ok (.aload_n 0, 1) := by decide +kernel
theorem dL_law_1552 : decode cL_law 1552 = .ok (.iload 4, 2) := by decide +kernel
theorem dL_law_1554 : decode cL_law 1554 = .ok (.iconst 3, 1) := by decide +kernel
theorem dL_law_1555 : decode cL_law 1555 = .ok (.iadd, 1) := by decide +kernel
theorem dL_law_1556 : decode cL_law 1556 = .ok (.iaload, 1) := by decide +kernel
theorem dL_law_1557 : decode cL_law 1557 = .ok (.aload_n 0, 1) := by decide +kernel
theorem dL_law_1558 : decode cL_law 1558 = .ok (.iload 4, 2) := by decide +kernel
theorem dL_law_1560 : decode cL_law 1560 = .ok (.iconst 4, 1) := by decide +kernel
theorem dL_law_1561 : decode cL_law 1561 = .ok (.iadd, 1) := by decide +kernel
theorem dL_law_1562 : decode cL_law 1562 = .ok (.iaload, 1) := by decide +kernel
theorem dL_law_1563 : decode cL_law 1563 = .ok (.invokevirtual 172, 3) := by decide +kernel
theorem dL_law_1566 : decode cL_law 1566 = .ok (.istore 6, 2) := by decide +kernel
theorem dL_law_1568 : decode cL_law 1568 = .ok (.aload_n 2, 1) := by decide +kernel
theorem dL_law_1569 : decode cL_law 1569 = .ok (.invokevirtual 97, 3) := by decide +kernel
theorem dL_law_1572 : decode cL_law 1572 = .ok (.iload 5, 2) := by decide +kernel
theorem dL_law_1574 : decode cL_law 1574 = .ok (.if_icmp .eq 5, 3) := by decide +kernel
theorem dL_law_1577 : decode cL_law 1577 = .ok (.iconst 0, 1) := by decide +kernel
theorem dL_law_1578 : decode cL_law 1578 = .ok (.ireturn, 1) := by decide +kernel
theorem dL_law_1579 : decode cL_law 1579 = .ok (.iload 5, 2) := by decide +kernel
theorem dL_law_1581 : decode cL_law 1581 = .ok (.ifCond .ne 15, 3) := by decide +kernel
theorem dL_law_1584 : decode cL_law 1584 = .ok (.aload_n 3, 1) := by decide +kernel
theorem dL_law_1585 : decode cL_law 1585 = .ok (.iconst 0, 1) := by decide +kernel
theorem dL_law_1586 : decode cL_law 1586 = .ok (.laload, 1) := by decide +kernel
theorem dL_law_1587 : decode cL_law 1587 = .ok (.iload 6, 2) := by decide +kernel
theorem dL_law_1589 : decode cL_law 1589 = .ok (.i2l, 1) := by decide +kernel
theorem dL_law_1590 : decode cL_law 1590 = .ok (.lcmp, 1) := by decide +kernel
theorem dL_law_1591 : decode cL_law 1591 = .ok (.ifCond .eq 5, 3) := by decide +kernel
theorem dL_law_1594 : decode cL_law 1594 = .ok (.iconst 0, 1) := by decide +kernel
theorem dL_law_1595 : decode cL_law 1595 = .ok (.ireturn, 1) := by decide +kernel
theorem dL_law_1596 : decode cL_law 1596 = .ok (.goto 222, 3) := by decide +kernel
theorem dL_law_1599 : decode cL_law 1599 = .ok (.aload_n 1, 1) := by decide +kernel
theorem dL_law_1600 : decode cL_law 1600 = .ok (.aload_n 0, 1) := by decide +kernel
theorem dL_law_1601 : decode cL_law 1601 = .ok (.iload 4, 2) := by decide +kernel
theorem dL_law_1603 : decode cL_law 1603 = .ok (.iconst 1, 1) := by decide +kernel
theorem dL_law_1604 : decode cL_law 1604 = .ok (.iadd, 1) := by decide +kernel
theorem dL_law_1605 : decode cL_law 1605 = .ok (.iaload, 1) := by decide +kernel
theorem dL_law_1606 : decode cL_law 1606 = .ok (.aload_n 0, 1) := by decide +kernel
theorem dL_law_1607 : decode cL_law 1607 = .ok (.iload 4, 2) := by decide +kernel
theorem dL_law_1609 : decode cL_law 1609 = .ok (.iconst 2, 1) := by decide +kernel
theorem dL_law_1610 : decode cL_law 1610 = .ok (.iadd, 1) := by decide +kernel
theorem dL_law_1611 : decode cL_law 1611 = .ok (.iaload, 1) := by decide +kernel
theorem dL_law_1612 : decode cL_law 1612 = .ok (.aload_n 3, 1) := by decide +kernel
theorem dL_law_1613 : decode cL_law 1613 = .ok (.invokestatic 173, 3) := by decide +kernel
theorem dL_law_1616 : decode cL_law 1616 = .ok (.istore 5, 2) := by decide +kernel
theorem dL_law_1618 : decode cL_law 1618 = .ok (.aload_n 2, 1) := by decide +kernel
theorem dL_law_1619 : decode cL_law 1619 = .ok (.aload_n 0, 1) := by decide +kernel
theorem dL_law_1620 : decode cL_law 1620 = .ok (.iload 4, 2) := by decide +kernel
theorem dL_law_1622 : decode cL_law 1622 = .ok (.iconst 1, 1) := by decide +kernel
theorem dL_law_1623 : decode cL_law 1623 = .ok (.iadd, 1) := by decide +kernel
theorem dL_law_1624 : decode cL_law 1624 = .ok (.iaload, 1) := by decide +kernel
theorem dL_law_1625 : decode cL_law 1625 = .ok (.aload_n 0, 1) := by decide +kernel
theorem dL_law_1626 : decode cL_law 1626 = .ok (.iload 4, 2) := by decide +kernel
theorem dL_law_1628 : decode cL_law 1628 = .ok (.iconst 2, 1) := by decide +kernel
theorem dL_law_1629 : decode cL_law 1629 = .ok (.iadd, 1) := by decide +kernel
theorem dL_law_1630 : decode cL_law 1630 = .ok (.iaload, 1) := by decide +kernel
theorem dL_law_1631 : decode cL_law 1631 = .ok (.invokevirtual 175, 3) := by decide +kernel
theorem dL_law_1634 : decode cL_law 1634 = .ok (.istore 6, 2) := by decide +kernel
theorem dL_law_1636 : decode cL_law 1636 = .ok (.aload_n 2, 1) := by decide +kernel
theorem dL_law_1637 : decode cL_law 1637 = .ok (.invokevirtual 97, 3) := by decide +kernel
theorem dL_law_1640 : decode cL_law 1640 = .ok (.iload 5, 2) := by decide +kernel
theorem dL_law_1642 : decode cL_law 1642 = .ok (.if_icmp .eq 5, 3) := by decide +kernel
theorem dL_law_1645 : decode cL_law 1645 = .ok (.iconst 0, 1) := by decide +kernel
theorem dL_law_1646 : decode cL_law 1646 = .ok (.ireturn, 1) := by decide +kernel
theorem dL_law_1647 : decode cL_law 1647 = .ok (.iload 5, 2) := by decide +kernel
theorem dL_law_1649 : decode cL_law 1649 = .ok (.ifCond .ne 15, 3) := by decide +kernel
theorem dL_law_1652 : decode cL_law 1652 = .ok (.aload_n 3, 1) := by decide +kernel
theorem dL_law_1653 : decode cL_law 1653 = .ok (.iconst 0, 1) := by decide +kernel
theorem dL_law_1654 : decode cL_law 1654 = .ok (.laload, 1) := by decide +kernel
theorem dL_law_1655 : decode cL_law 1655 = .ok (.iload 6, 2) := by decide +kernel
theorem dL_law_1657 : decode cL_law 1657 = .ok (.i2l, 1) := by decide +kernel
theorem dL_law_1658 : decode cL_law 1658 = .ok (.lcmp, 1) := by decide +kernel
theorem dL_law_1659 : decode cL_law 1659 = .ok (.ifCond .eq 5, 3) := by decide +kernel
theorem dL_law_1662 : decode cL_law 1662 = .ok (.iconst 0, 1) := by decide +kernel
theorem dL_law_1663 : decode cL_law 1663 = .ok (.ireturn, 1) := by decide +kernel
theorem dL_law_1664 : decode cL_law 1664 = .ok (.goto 154, 3) := by decide +kernel
theorem dL_law_1667 : decode cL_law 1667 = .ok (.aload_n 1, 1) := by decide +kernel
theorem dL_law_1668 : decode cL_law 1668 = .ok (.invokevirtual 176, 3) := by decide +kernel
theorem dL_law_1671 : decode cL_law 1671 = .ok (.aload_n 2, 1) := by decide +kernel
theorem dL_law_1672 : decode cL_law 1672 = .ok (.invokevirtual 179, 3) := by decide +kernel
theorem dL_law_1675 : decode cL_law 1675 = .ok (.if_icmp .eq 143, 3) := by decide +kernel
theorem dL_law_1678 : decode cL_law 1678 = .ok (.iconst 0, 1) := by decide +kernel
theorem dL_law_1679 : decode cL_law 1679 = .ok (.ireturn, 1) := by decide +kernel
theorem dL_law_1680 : decode cL_law 1680 = .ok (.aload_n 1, 1) := by decide +kernel
theorem dL_law_1681 : decode cL_law 1681 = .ok (.aload_n 0, 1) := by decide +kernel
theorem dL_law_1682 : decode cL_law 1682 = .ok (.iload 4, 2) := by decide +kernel
theorem dL_law_1684 : decode cL_law 1684 = .ok (.iconst 1, 1) := by decide +kernel
theorem dL_law_1685 : decode cL_law 1685 = .ok (.iadd, 1) := by decide +kernel
theorem dL_law_1686 : decode cL_law 1686 = .ok (.iaload, 1) := by decide +kernel
theorem dL_law_1687 : decode cL_law 1687 = .ok (.aload_n 3, 1) := by decide +kernel
theorem dL_law_1688 : decode cL_law 1688 = .ok (.invokestatic 180, 3) := by decide +kernel
theorem dL_law_1691 : decode cL_law 1691 = .ok (.istore 5, 2) := by decide +kernel
theorem dL_law_1693 : decode cL_law 1693 = .ok (.aload_n 2, 1) := by decide +kernel
theorem dL_law_1694 : decode cL_law 1694 = .ok (.aload_n 0, 1) := by decide +kernel
theorem dL_law_1695 : decode cL_law 1695 = .ok (.iload 4, 2) := by decide +kernel
theorem dL_law_1697 : decode cL_law 1697 = .ok (.iconst 1, 1) := by decide +kernel
theorem dL_law_1698 : decode cL_law 1698 = .ok (.iadd, 1) := by decide +kernel
theorem dL_law_1699 : decode cL_law 1699 = .ok (.iaload, 1) := by decide +kernel
theorem dL_law_1700 : decode cL_law 1700 = .ok (.invokevirtual 182, 3) := by decide +kernel
theorem dL_law_1703 : decode cL_law 1703 = .ok (.istore 6, 2) := by decide +kernel
theorem dL_law_1705 : decode cL_law 1705 = .ok (.aload_n 2, 1) := by decide +kernel
theorem dL_law_1706 : decode cL_law 1706 = .ok (.invokevirtual 97, 3) := by decide +kernel
theorem dL_law_1709 : decode cL_law 1709 = .ok (.iload 5, 2) := by decide +kernel
theorem dL_law_1711 : decode cL_law 1711 = .ok (.if_icmp .eq 5, 3) := by decide +kernel
theorem dL_law_1714 : decode cL_law 1714 = .ok (.iconst 0, 1) := by decide +kernel
theorem dL_law_1715 : decode cL_law 1715 = .ok (.ireturn, 1) := by decide +kernel
theorem dL_law_1716 : decode cL_law 1716 = .ok (.iload 5, 2) := by decide +kernel
theorem dL_law_1718 : decode cL_law 1718 = .ok (.ifCond .ne 15, 3) := by decide +kernel
theorem dL_law_1721 : decode cL_law 1721 = .ok (.aload_n 3, 1) := by decide +kernel
theorem dL_law_1722 : decode cL_law 1722 = .ok (.iconst 0, 1) := by decide +kernel
theorem dL_law_1723 : decode cL_law 1723 = .ok (.laload, 1) := by decide +kernel
theorem dL_law_1724 : decode cL_law 1724 = .ok (.iload 6, 2) := by decide +kernel
theorem dL_law_1726 : decode cL_law 1726 = .ok (.i2l, 1) := by decide +kernel
theorem dL_law_1727 : decode cL_law 1727 = .ok (.lcmp, 1) := by decide +kernel
theorem dL_law_1728 : decode cL_law 1728 = .ok (.ifCond .eq 5, 3) := by decide +kernel
theorem dL_law_1731 : decode cL_law 1731 = .ok (.iconst 0, 1) := by decide +kernel
theorem dL_law_1732 : decode cL_law 1732 = .ok (.ireturn, 1) := by decide +kernel
theorem dL_law_1733 : decode cL_law 1733 = .ok (.goto 85, 3) := by decide +kernel
theorem dL_law_1736 : decode cL_law 1736 = .ok (.aload_n 1, 1) := by decide +kernel
theorem dL_law_1737 : decode cL_law 1737 = .ok (.aload_n 0, 1) := by decide +kernel
theorem dL_law_1738 : decode cL_law 1738 = .ok (.iload 4, 2) := by decide +kernel
theorem dL_law_1740 : decode cL_law 1740 = .ok (.iconst 1, 1) := by decide +kernel
theorem dL_law_1741 : decode cL_law 1741 = .ok (.iadd, 1) := by decide +kernel
theorem dL_law_1742 : decode cL_law 1742 = .ok (.iaload, 1) := by decide +kernel
theorem dL_law_1743 : decode cL_law 1743 = .ok (.aload_n 0, 1) := by decide +kernel
theorem dL_law_1744 : decode cL_law 1744 = .ok (.iload 4, 2) := by decide +kernel
theorem dL_law_1746 : decode cL_law 1746 = .ok (.iconst 2, 1) := by decide +kernel
theorem dL_law_1747 : decode cL_law 1747 = .ok (.iadd, 1) := by decide +kernel
theorem dL_law_1748 : decode cL_law 1748 = .ok (.iaload, 1) := by decide +kernel
theorem dL_law_1749 : decode cL_law 1749 = .ok (.aload_n 3, 1) := by decide +kernel
theorem dL_law_1750 : decode cL_law 1750 = .ok (.invokestatic 183, 3) := by decide +kernel
theorem dL_law_1753 : decode cL_law 1753 = .ok (.istore 5, 2) := by decide +kernel
theorem dL_law_1755 : decode cL_law 1755 = .ok (.aload_n 2, 1) := by decide +kernel
theorem dL_law_1756 : decode cL_law 1756 = .ok (.aload_n 0, 1) := by decide +kernel
theorem dL_law_1757 : decode cL_law 1757 = .ok (.iload 4, 2) := by decide +kernel
theorem dL_law_1759 : decode cL_law 1759 = .ok (.iconst 1, 1) := by decide +kernel
theorem dL_law_1760 : decode cL_law 1760 = .ok (.iadd, 1) := by decide +kernel
theorem dL_law_1761 : decode cL_law 1761 = .ok (.iaload, 1) := by decide +kernel
theorem dL_law_1762 : decode cL_law 1762 = .ok (.aload_n 0, 1) := by decide +kernel
theorem dL_law_1763 : decode cL_law 1763 = .ok (.iload 4, 2) := by decide +kernel
theorem dL_law_1765 : decode cL_law 1765 = .ok (.iconst 2, 1) := by decide +kernel
theorem dL_law_1766 : decode cL_law 1766 = .ok (.iadd, 1) := by decide +kernel
theorem dL_law_1767 : decode cL_law 1767 = .ok (.iaload, 1) := by decide +kernel
theorem dL_law_1768 : decode cL_law 1768 = .ok (.invokevirtual 185, 3) := by decide +kernel
theorem dL_law_1771 : decode cL_law 1771 = .ok (.istore 6, 2) := by decide +kernel
theorem dL_law_1773 : decode cL_law 1773 = .ok (.aload_n 2, 1) := by decide +kernel
theorem dL_law_1774 : decode cL_law 1774 = .ok (.invokevirtual 97, 3) := by decide +kernel
theorem dL_law_1777 : decode cL_law 1777 = .ok (.iload 5, 2) := by decide +kernel
theorem dL_law_1779 : decode cL_law 1779 = .ok (.if_icmp .eq 5, 3) := by decide +kernel
theorem dL_law_1782 : decode cL_law 1782 = .ok (.iconst 0, 1) := by decide +kernel
theorem dL_law_1783 : decode cL_law 1783 = .ok (.ireturn, 1) := by decide +kernel
theorem dL_law_1784 : decode cL_law 1784 = .ok (.iload 5, 2) := by decide +kernel
theorem dL_law_1786 : decode cL_law 1786 = .ok (.ifCond .ne 15, 3) := by decide +kernel
theorem dL_law_1789 : decode cL_law 1789 = .ok (.aload_n 3, 1) := by decide +kernel
theorem dL_law_1790 : decode cL_law 1790 = .ok (.iconst 0, 1) := by decide +kernel
theorem dL_law_1791 : decode cL_law 1791 = .ok (.laload, 1) := by decide +kernel
theorem dL_law_1792 : decode cL_law 1792 = .ok (.iload 6, 2) := by decide +kernel
theorem dL_law_1794 : decode cL_law 1794 = .ok (.i2l, 1) := by decide +kernel
theorem dL_law_1795 : decode cL_law 1795 = .ok (.lcmp, 1) := by decide +kernel
theorem dL_law_1796 : decode cL_law 1796 = .ok (.ifCond .eq 5, 3) := by decide +kernel
theorem dL_law_1799 : decode cL_law 1799 = .ok (.iconst 0, 1) := by decide +kernel
theorem dL_law_1800 : decode cL_law 1800 = .ok (.ireturn, 1) := by decide +kernel
theorem dL_law_1801 : decode cL_law 1801 = .ok (.goto 17, 3) := by decide +kernel
theorem dL_law_1804 : decode cL_law 1804 = .ok (.aload_n 1, 1) := by decide +kernel
theorem dL_law_1805 : decode cL_law 1805 = .ok (.invokevirtual 186, 3) := by decide +kernel
theorem dL_law_1808 : decode cL_law 1808 = .ok (.aload_n 2, 1) := by decide +kernel
theorem dL_law_1809 : decode cL_law 1809 = .ok (.invokevirtual 190, 3) := by decide +kernel
theorem dL_law_1812 : decode cL_law 1812 = .ok (.lcmp, 1) := by decide +kernel
theorem dL_law_1813 : decode cL_law 1813 = .ok (.ifCond .eq 5, 3) := by decide +kernel
theorem dL_law_1816 : decode cL_law 1816 = .ok (.iconst 0, 1) := by decide +kernel
theorem dL_law_1817 : decode cL_law 1817 = .ok (.ireturn, 1) := by decide +kernel
theorem dL_law_1818 : decode cL_law 1818 = .ok (.iinc 4 6, 3) := by decide +kernel
theorem dL_law_1821 : decode cL_law 1821 = .ok (.goto (-1798), 3) := by decide +kernel
theorem dL_law_1824 : decode cL_law 1824 = .ok (.iconst 1, 1) := by decide +kernel
theorem dL_law_1825 : decode cL_law 1825 = .ok (.ireturn, 1) := by decide +kernel
abbrev vwCl : List vw_C := [(RX0, TX0, 4), (RX2, TX2, 4), (RX3, TX3, 8), (RX4, TX4, 5), (RX5, TX5, 2), (RX6, TX6, 8), (RX7, TX7, 8), (RX8, TX8, 8), (RX9, TX9, 16)]
