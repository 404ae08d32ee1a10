section
-- ===== PART A: goes FIRST, ahead of the names: the tables' words, and 'selects' of the private methods out of them =====
/-- a private method of a class that the tables say can be made, by its rows of tables_1 -/
def lw_okq (q : MethodName × Nat) : Prop := (q.1.cls ≠ "java/lang/invoke/MethodHandle" ∧ q.1.cls ≠ "java/lang/invoke/VarHandle") ∧ Cond.instantiable q.1.cls q.2 ∈ tables_1 ∧ Cond.privateMethod q.1 ∈ tables_1 ∧ Cond.instanceMethod q.1 ∈ tables_1
theorem lw_p0 : lw_okq (⟨"PolicyDesk$Text", "appendCode", "(I)V"⟩, 2) := ⟨⟨by decide +kernel, by decide +kernel⟩, List.mem_of_getElem? (i := 37) (by decide +kernel), List.mem_of_getElem? (i := 216) (by decide +kernel), List.mem_of_getElem? (i := 217) (by decide +kernel)⟩
theorem lw_p1 : lw_okq (⟨"PolicyDesk$Policy", "spread", "(I)I"⟩, 7) := ⟨⟨by decide +kernel, by decide +kernel⟩, List.mem_of_getElem? (i := 146) (by decide +kernel), List.mem_of_getElem? (i := 266) (by decide +kernel), List.mem_of_getElem? (i := 267) (by decide +kernel)⟩
theorem lw_p2 : lw_okq (⟨"PolicyDesk$Policy", "flowsInOneStep", "(II)Z"⟩, 7) := ⟨⟨by decide +kernel, by decide +kernel⟩, List.mem_of_getElem? (i := 146) (by decide +kernel), List.mem_of_getElem? (i := 270) (by decide +kernel), List.mem_of_getElem? (i := 271) (by decide +kernel)⟩
theorem lw_p3 : lw_okq (⟨"PolicyDesk$Policy", "hasMask", "(II)Z"⟩, 7) := ⟨⟨by decide +kernel, by decide +kernel⟩, List.mem_of_getElem? (i := 146) (by decide +kernel), List.mem_of_getElem? (i := 287) (by decide +kernel), List.mem_of_getElem? (i := 288) (by decide +kernel)⟩
theorem lw_p4 : lw_okq (⟨"PolicyDesk$Reader", "keyword", "(LPolicyDesk$Statement;)Z"⟩, 2) := ⟨⟨by decide +kernel, by decide +kernel⟩, List.mem_of_getElem? (i := 51) (by decide +kernel), List.mem_of_getElem? (i := 393) (by decide +kernel), List.mem_of_getElem? (i := 394) (by decide +kernel)⟩
theorem lw_p5 : lw_okq (⟨"PolicyDesk$Reader", "lettersShared", "(Ljava/lang/String;)I"⟩, 2) := ⟨⟨by decide +kernel, by decide +kernel⟩, List.mem_of_getElem? (i := 51) (by decide +kernel), List.mem_of_getElem? (i := 399) (by decide +kernel), List.mem_of_getElem? (i := 400) (by decide +kernel)⟩
theorem lw_p6 : lw_okq (⟨"PolicyDesk$Reader", "names", "(LPolicyDesk$Statement;I)Z"⟩, 2) := ⟨⟨by decide +kernel, by decide +kernel⟩, List.mem_of_getElem? (i := 51) (by decide +kernel), List.mem_of_getElem? (i := 464) (by decide +kernel), List.mem_of_getElem? (i := 465) (by decide +kernel)⟩
theorem lw_p7 : lw_okq (⟨"PolicyDesk$Reader", "blank", "()Z"⟩, 2) := ⟨⟨by decide +kernel, by decide +kernel⟩, List.mem_of_getElem? (i := 51) (by decide +kernel), List.mem_of_getElem? (i := 468) (by decide +kernel), List.mem_of_getElem? (i := 469) (by decide +kernel)⟩
theorem lw_p8 : lw_okq (⟨"PolicyDesk$Reader", "name", "(LPolicyDesk$Statement;)Z"⟩, 2) := ⟨⟨by decide +kernel, by decide +kernel⟩, List.mem_of_getElem? (i := 51) (by decide +kernel), List.mem_of_getElem? (i := 472) (by decide +kernel), List.mem_of_getElem? (i := 473) (by decide +kernel)⟩
theorem lw_p9 : lw_okq (⟨"PolicyDesk$Reader", "mark", "(LPolicyDesk$Statement;Ljava/lang/String;)Z"⟩, 2) := ⟨⟨by decide +kernel, by decide +kernel⟩, List.mem_of_getElem? (i := 51) (by decide +kernel), List.mem_of_getElem? (i := 483) (by decide +kernel), List.mem_of_getElem? (i := 484) (by decide +kernel)⟩
theorem lw_p10 : lw_okq (⟨"PolicyDesk$Reader", "atEnd", "()Z"⟩, 2) := ⟨⟨by decide +kernel, by decide +kernel⟩, List.mem_of_getElem? (i := 51) (by decide +kernel), List.mem_of_getElem? (i := 491) (by decide +kernel), List.mem_of_getElem? (i := 492) (by decide +kernel)⟩
theorem lw_p11 : lw_okq (⟨"PolicyDesk$Reader", "list", "(LPolicyDesk$Statement;II)Z"⟩, 2) := ⟨⟨by decide +kernel, by decide +kernel⟩, List.mem_of_getElem? (i := 51) (by decide +kernel), List.mem_of_getElem? (i := 558) (by decide +kernel), List.mem_of_getElem? (i := 559) (by decide +kernel)⟩
theorem lw_p12 : lw_okq (⟨"java/lang/Throwable", "fillInStackTrace", "(I)Ljava/lang/Throwable;"⟩, 6) := ⟨⟨by decide +kernel, by decide +kernel⟩, List.mem_of_getElem? (i := 608) (by decide +kernel), List.mem_of_getElem? (i := 606) (by decide +kernel), List.mem_of_getElem? (i := 607) (by decide +kernel)⟩
theorem lw_p13 : lw_okq (⟨"PolicyDesk$Draft", "isWrong", "(I)Z"⟩, 2) := ⟨⟨by decide +kernel, by decide +kernel⟩, List.mem_of_getElem? (i := 64) (by decide +kernel), List.mem_of_getElem? (i := 674) (by decide +kernel), List.mem_of_getElem? (i := 675) (by decide +kernel)⟩
theorem lw_p14 : lw_okq (⟨"PolicyDesk$Draft", "repeats", "(II)Z"⟩, 2) := ⟨⟨by decide +kernel, by decide +kernel⟩, List.mem_of_getElem? (i := 64) (by decide +kernel), List.mem_of_getElem? (i := 687) (by decide +kernel), List.mem_of_getElem? (i := 688) (by decide +kernel)⟩
theorem lw_p15 : lw_okq (⟨"PolicyDesk$Draft", "howMany", "(LPolicyDesk$Kind;I)I"⟩, 2) := ⟨⟨by decide +kernel, by decide +kernel⟩, List.mem_of_getElem? (i := 64) (by decide +kernel), List.mem_of_getElem? (i := 708) (by decide +kernel), List.mem_of_getElem? (i := 709) (by decide +kernel)⟩
def lw_privs_1 : List (MethodName × Nat) := [(⟨"PolicyDesk$Text", "appendCode", "(I)V"⟩, 2), (⟨"PolicyDesk$Policy", "spread", "(I)I"⟩, 7), (⟨"PolicyDesk$Policy", "flowsInOneStep", "(II)Z"⟩, 7), (⟨"PolicyDesk$Policy", "hasMask", "(II)Z"⟩, 7), (⟨"PolicyDesk$Reader", "keyword", "(LPolicyDesk$Statement;)Z"⟩, 2), (⟨"PolicyDesk$Reader", "lettersShared", "(Ljava/lang/String;)I"⟩, 2), (⟨"PolicyDesk$Reader", "names", "(LPolicyDesk$Statement;I)Z"⟩, 2), (⟨"PolicyDesk$Reader", "blank", "()Z"⟩, 2), (⟨"PolicyDesk$Reader", "name", "(LPolicyDesk$Statement;)Z"⟩, 2), (⟨"PolicyDesk$Reader", "mark", "(LPolicyDesk$Statement;Ljava/lang/String;)Z"⟩, 2), (⟨"PolicyDesk$Reader", "atEnd", "()Z"⟩, 2), (⟨"PolicyDesk$Reader", "list", "(LPolicyDesk$Statement;II)Z"⟩, 2), (⟨"java/lang/Throwable", "fillInStackTrace", "(I)Ljava/lang/Throwable;"⟩, 6), (⟨"PolicyDesk$Draft", "isWrong", "(I)Z"⟩, 2), (⟨"PolicyDesk$Draft", "repeats", "(II)Z"⟩, 2), (⟨"PolicyDesk$Draft", "howMany", "(LPolicyDesk$Kind;I)I"⟩, 2)]
theorem lw_r1 : ∀ q ∈ lw_privs_1, lw_okq q := List.forall_mem_cons.mpr ⟨lw_p0, List.forall_mem_cons.mpr ⟨lw_p1, List.forall_mem_cons.mpr ⟨lw_p2, List.forall_mem_cons.mpr ⟨lw_p3, List.forall_mem_cons.mpr ⟨lw_p4, List.forall_mem_cons.mpr ⟨lw_p5, List.forall_mem_cons.mpr ⟨lw_p6, List.forall_mem_cons.mpr ⟨lw_p7, List.forall_mem_cons.mpr ⟨lw_p8, List.forall_mem_cons.mpr ⟨lw_p9, List.forall_mem_cons.mpr ⟨lw_p10, List.forall_mem_cons.mpr ⟨lw_p11, List.forall_mem_cons.mpr ⟨lw_p12, List.forall_mem_cons.mpr ⟨lw_p13, List.forall_mem_cons.mpr ⟨lw_p14, List.forall_mem_cons.mpr ⟨lw_p15, fun _ h => absurd h List.not_mem_nil⟩⟩⟩⟩⟩⟩⟩⟩⟩⟩⟩⟩⟩⟩⟩⟩
theorem lw_p16 : lw_okq (⟨"PolicyDesk$Draft", "isAttribute", "(I)Z"⟩, 2) := ⟨⟨by decide +kernel, by decide +kernel⟩, List.mem_of_getElem? (i := 64) (by decide +kernel), List.mem_of_getElem? (i := 713) (by decide +kernel), List.mem_of_getElem? (i := 714) (by decide +kernel)⟩
theorem lw_p17 : lw_okq (⟨"PolicyDesk$Draft", "isDoer", "(I)Z"⟩, 2) := ⟨⟨by decide +kernel, by decide +kernel⟩, List.mem_of_getElem? (i := 64) (by decide +kernel), List.mem_of_getElem? (i := 720) (by decide +kernel), List.mem_of_getElem? (i := 721) (by decide +kernel)⟩
theorem lw_p18 : lw_okq (⟨"PolicyDesk$Draft", "isType", "(I)Z"⟩, 2) := ⟨⟨by decide +kernel, by decide +kernel⟩, List.mem_of_getElem? (i := 64) (by decide +kernel), List.mem_of_getElem? (i := 724) (by decide +kernel), List.mem_of_getElem? (i := 725) (by decide +kernel)⟩
theorem lw_p19 : lw_okq (⟨"PolicyDesk$Draft", "declaresPermissions", "(LPolicyDesk$Statement;I)Z"⟩, 2) := ⟨⟨by decide +kernel, by decide +kernel⟩, List.mem_of_getElem? (i := 64) (by decide +kernel), List.mem_of_getElem? (i := 733) (by decide +kernel), List.mem_of_getElem? (i := 734) (by decide +kernel)⟩
theorem lw_p20 : lw_okq (⟨"PolicyDesk$Draft", "declaresPermission", "(II)Z"⟩, 2) := ⟨⟨by decide +kernel, by decide +kernel⟩, List.mem_of_getElem? (i := 64) (by decide +kernel), List.mem_of_getElem? (i := 741) (by decide +kernel), List.mem_of_getElem? (i := 742) (by decide +kernel)⟩
theorem lw_p21 : lw_okq (⟨"PolicyDesk", "putInForce", "()I"⟩, 10) := ⟨⟨by decide +kernel, by decide +kernel⟩, List.mem_of_getElem? (i := 29) (by decide +kernel), List.mem_of_getElem? (i := 836) (by decide +kernel), List.mem_of_getElem? (i := 837) (by decide +kernel)⟩
theorem lw_p22 : lw_okq (⟨"PolicyDesk$Memory", "drop", "(I)V"⟩, 5) := ⟨⟨by decide +kernel, by decide +kernel⟩, List.mem_of_getElem? (i := 99) (by decide +kernel), List.mem_of_getElem? (i := 874) (by decide +kernel), List.mem_of_getElem? (i := 875) (by decide +kernel)⟩
theorem lw_p23 : lw_okq (⟨"PolicyDesk$Memory", "append", "(II)V"⟩, 5) := ⟨⟨by decide +kernel, by decide +kernel⟩, List.mem_of_getElem? (i := 99) (by decide +kernel), List.mem_of_getElem? (i := 878) (by decide +kernel), List.mem_of_getElem? (i := 879) (by decide +kernel)⟩
theorem lw_p24 : lw_okq (⟨"PolicyDeskModel", "readStatement", "()Z"⟩, 32) := ⟨⟨by decide +kernel, by decide +kernel⟩, List.mem_of_getElem? (i := 925) (by decide +kernel), List.mem_of_getElem? (i := 1043) (by decide +kernel), List.mem_of_getElem? (i := 1044) (by decide +kernel)⟩
theorem lw_p25 : lw_okq (⟨"PolicyDeskModel", "readKind", "()I"⟩, 32) := ⟨⟨by decide +kernel, by decide +kernel⟩, List.mem_of_getElem? (i := 925) (by decide +kernel), List.mem_of_getElem? (i := 1047) (by decide +kernel), List.mem_of_getElem? (i := 1048) (by decide +kernel)⟩
theorem lw_p26 : lw_okq (⟨"PolicyDeskModel", "isLetter", "()Z"⟩, 32) := ⟨⟨by decide +kernel, by decide +kernel⟩, List.mem_of_getElem? (i := 925) (by decide +kernel), List.mem_of_getElem? (i := 1057) (by decide +kernel), List.mem_of_getElem? (i := 1058) (by decide +kernel)⟩
theorem lw_p27 : lw_okq (⟨"PolicyDeskModel", "here", "()C"⟩, 32) := ⟨⟨by decide +kernel, by decide +kernel⟩, List.mem_of_getElem? (i := 925) (by decide +kernel), List.mem_of_getElem? (i := 1061) (by decide +kernel), List.mem_of_getElem? (i := 1062) (by decide +kernel)⟩
theorem lw_p28 : lw_okq (⟨"PolicyDeskModel", "readNames", "(III)Z"⟩, 32) := ⟨⟨by decide +kernel, by decide +kernel⟩, List.mem_of_getElem? (i := 925) (by decide +kernel), List.mem_of_getElem? (i := 1065) (by decide +kernel), List.mem_of_getElem? (i := 1066) (by decide +kernel)⟩
theorem lw_p29 : lw_okq (⟨"PolicyDeskModel", "readName", "()I"⟩, 32) := ⟨⟨by decide +kernel, by decide +kernel⟩, List.mem_of_getElem? (i := 925) (by decide +kernel), List.mem_of_getElem? (i := 1069) (by decide +kernel), List.mem_of_getElem? (i := 1070) (by decide +kernel)⟩
theorem lw_p30 : lw_okq (⟨"PolicyDeskModel", "readExtra", "(II)Z"⟩, 32) := ⟨⟨by decide +kernel, by decide +kernel⟩, List.mem_of_getElem? (i := 925) (by decide +kernel), List.mem_of_getElem? (i := 1073) (by decide +kernel), List.mem_of_getElem? (i := 1074) (by decide +kernel)⟩
theorem lw_p31 : lw_okq (⟨"PolicyDeskModel", "firstWrong", "()I"⟩, 32) := ⟨⟨by decide +kernel, by decide +kernel⟩, List.mem_of_getElem? (i := 925) (by decide +kernel), List.mem_of_getElem? (i := 1089) (by decide +kernel), List.mem_of_getElem? (i := 1090) (by decide +kernel)⟩
def lw_privs_2 : List (MethodName × Nat) := [(⟨"PolicyDesk$Draft", "isAttribute", "(I)Z"⟩, 2), (⟨"PolicyDesk$Draft", "isDoer", "(I)Z"⟩, 2), (⟨"PolicyDesk$Draft", "isType", "(I)Z"⟩, 2), (⟨"PolicyDesk$Draft", "declaresPermissions", "(LPolicyDesk$Statement;I)Z"⟩, 2), (⟨"PolicyDesk$Draft", "declaresPermission", "(II)Z"⟩, 2), (⟨"PolicyDesk", "putInForce", "()I"⟩, 10), (⟨"PolicyDesk$Memory", "drop", "(I)V"⟩, 5), (⟨"PolicyDesk$Memory", "append", "(II)V"⟩, 5), (⟨"PolicyDeskModel", "readStatement", "()Z"⟩, 32), (⟨"PolicyDeskModel", "readKind", "()I"⟩, 32), (⟨"PolicyDeskModel", "isLetter", "()Z"⟩, 32), (⟨"PolicyDeskModel", "here", "()C"⟩, 32), (⟨"PolicyDeskModel", "readNames", "(III)Z"⟩, 32), (⟨"PolicyDeskModel", "readName", "()I"⟩, 32), (⟨"PolicyDeskModel", "readExtra", "(II)Z"⟩, 32), (⟨"PolicyDeskModel", "firstWrong", "()I"⟩, 32)]
theorem lw_r2 : ∀ q ∈ lw_privs_2, lw_okq q := List.forall_mem_cons.mpr ⟨lw_p16, List.forall_mem_cons.mpr ⟨lw_p17, List.forall_mem_cons.mpr ⟨lw_p18, List.forall_mem_cons.mpr ⟨lw_p19, List.forall_mem_cons.mpr ⟨lw_p20, List.forall_mem_cons.mpr ⟨lw_p21, List.forall_mem_cons.mpr ⟨lw_p22, List.forall_mem_cons.mpr ⟨lw_p23, List.forall_mem_cons.mpr ⟨lw_p24, List.forall_mem_cons.mpr ⟨lw_p25, List.forall_mem_cons.mpr ⟨lw_p26, List.forall_mem_cons.mpr ⟨lw_p27, List.forall_mem_cons.mpr ⟨lw_p28, List.forall_mem_cons.mpr ⟨lw_p29, List.forall_mem_cons.mpr ⟨lw_p30, List.forall_mem_cons.mpr ⟨lw_p31, fun _ h => absurd h List.not_mem_nil⟩⟩⟩⟩⟩⟩⟩⟩⟩⟩⟩⟩⟩⟩⟩⟩
theorem lw_p32 : lw_okq (⟨"PolicyDeskModel", "isWrong", "(I)Z"⟩, 32) := ⟨⟨by decide +kernel, by decide +kernel⟩, List.mem_of_getElem? (i := 925) (by decide +kernel), List.mem_of_getElem? (i := 1093) (by decide +kernel), List.mem_of_getElem? (i := 1094) (by decide +kernel)⟩
theorem lw_p33 : lw_okq (⟨"PolicyDeskModel", "nameAt", "(II)I"⟩, 32) := ⟨⟨by decide +kernel, by decide +kernel⟩, List.mem_of_getElem? (i := 925) (by decide +kernel), List.mem_of_getElem? (i := 1097) (by decide +kernel), List.mem_of_getElem? (i := 1098) (by decide +kernel)⟩
theorem lw_p34 : lw_okq (⟨"PolicyDeskModel", "before", "(III)I"⟩, 32) := ⟨⟨by decide +kernel, by decide +kernel⟩, List.mem_of_getElem? (i := 925) (by decide +kernel), List.mem_of_getElem? (i := 1101) (by decide +kernel), List.mem_of_getElem? (i := 1102) (by decide +kernel)⟩
theorem lw_p35 : lw_okq (⟨"PolicyDeskModel", "allDifferent", "(I)Z"⟩, 32) := ⟨⟨by decide +kernel, by decide +kernel⟩, List.mem_of_getElem? (i := 925) (by decide +kernel), List.mem_of_getElem? (i := 1105) (by decide +kernel), List.mem_of_getElem? (i := 1106) (by decide +kernel)⟩
theorem lw_p36 : lw_okq (⟨"PolicyDeskModel", "isAttribute", "(I)Z"⟩, 32) := ⟨⟨by decide +kernel, by decide +kernel⟩, List.mem_of_getElem? (i := 925) (by decide +kernel), List.mem_of_getElem? (i := 1109) (by decide +kernel), List.mem_of_getElem? (i := 1110) (by decide +kernel)⟩
theorem lw_p37 : lw_okq (⟨"PolicyDeskModel", "twice", "(I)Z"⟩, 32) := ⟨⟨by decide +kernel, by decide +kernel⟩, List.mem_of_getElem? (i := 925) (by decide +kernel), List.mem_of_getElem? (i := 1113) (by decide +kernel), List.mem_of_getElem? (i := 1114) (by decide +kernel)⟩
theorem lw_p38 : lw_okq (⟨"PolicyDeskModel", "isType", "(I)Z"⟩, 32) := ⟨⟨by decide +kernel, by decide +kernel⟩, List.mem_of_getElem? (i := 925) (by decide +kernel), List.mem_of_getElem? (i := 1117) (by decide +kernel), List.mem_of_getElem? (i := 1118) (by decide +kernel)⟩
theorem lw_p39 : lw_okq (⟨"PolicyDeskModel", "isClass", "(I)Z"⟩, 32) := ⟨⟨by decide +kernel, by decide +kernel⟩, List.mem_of_getElem? (i := 925) (by decide +kernel), List.mem_of_getElem? (i := 1121) (by decide +kernel), List.mem_of_getElem? (i := 1122) (by decide +kernel)⟩
theorem lw_p40 : lw_okq (⟨"PolicyDeskModel", "arePermissions", "(III)Z"⟩, 32) := ⟨⟨by decide +kernel, by decide +kernel⟩, List.mem_of_getElem? (i := 925) (by decide +kernel), List.mem_of_getElem? (i := 1128) (by decide +kernel), List.mem_of_getElem? (i := 1129) (by decide +kernel)⟩
theorem lw_p41 : lw_okq (⟨"PolicyDeskModel", "isPermission", "(II)Z"⟩, 32) := ⟨⟨by decide +kernel, by decide +kernel⟩, List.mem_of_getElem? (i := 925) (by decide +kernel), List.mem_of_getElem? (i := 1132) (by decide +kernel), List.mem_of_getElem? (i := 1133) (by decide +kernel)⟩
theorem lw_p42 : lw_okq (⟨"PolicyDeskModel", "firstAgainst", "()I"⟩, 32) := ⟨⟨by decide +kernel, by decide +kernel⟩, List.mem_of_getElem? (i := 925) (by decide +kernel), List.mem_of_getElem? (i := 1136) (by decide +kernel), List.mem_of_getElem? (i := 1137) (by decide +kernel)⟩
theorem lw_p43 : lw_okq (⟨"PolicyDeskModel", "shared", "(II)Z"⟩, 32) := ⟨⟨by decide +kernel, by decide +kernel⟩, List.mem_of_getElem? (i := 925) (by decide +kernel), List.mem_of_getElem? (i := 1140) (by decide +kernel), List.mem_of_getElem? (i := 1141) (by decide +kernel)⟩
theorem lw_p44 : lw_okq (⟨"PolicyDeskModel", "isAbout", "(III)Z"⟩, 32) := ⟨⟨by decide +kernel, by decide +kernel⟩, List.mem_of_getElem? (i := 925) (by decide +kernel), List.mem_of_getElem? (i := 1144) (by decide +kernel), List.mem_of_getElem? (i := 1145) (by decide +kernel)⟩
theorem lw_p45 : lw_okq (⟨"PolicyDeskModel", "typeStatement", "(I)I"⟩, 32) := ⟨⟨by decide +kernel, by decide +kernel⟩, List.mem_of_getElem? (i := 925) (by decide +kernel), List.mem_of_getElem? (i := 1148) (by decide +kernel), List.mem_of_getElem? (i := 1149) (by decide +kernel)⟩
theorem lw_p46 : lw_okq (⟨"PolicyDeskModel", "standsFor", "(II)Z"⟩, 32) := ⟨⟨by decide +kernel, by decide +kernel⟩, List.mem_of_getElem? (i := 925) (by decide +kernel), List.mem_of_getElem? (i := 1152) (by decide +kernel), List.mem_of_getElem? (i := 1153) (by decide +kernel)⟩
theorem lw_p47 : lw_okq (⟨"PolicyDeskModel", "begin", "()V"⟩, 32) := ⟨⟨by decide +kernel, by decide +kernel⟩, List.mem_of_getElem? (i := 925) (by decide +kernel), List.mem_of_getElem? (i := 1156) (by decide +kernel), List.mem_of_getElem? (i := 1157) (by decide +kernel)⟩
def lw_privs_3 : List (MethodName × Nat) := [(⟨"PolicyDeskModel", "isWrong", "(I)Z"⟩, 32), (⟨"PolicyDeskModel", "nameAt", "(II)I"⟩, 32), (⟨"PolicyDeskModel", "before", "(III)I"⟩, 32), (⟨"PolicyDeskModel", "allDifferent", "(I)Z"⟩, 32), (⟨"PolicyDeskModel", "isAttribute", "(I)Z"⟩, 32), (⟨"PolicyDeskModel", "twice", "(I)Z"⟩, 32), (⟨"PolicyDeskModel", "isType", "(I)Z"⟩, 32), (⟨"PolicyDeskModel", "isClass", "(I)Z"⟩, 32), (⟨"PolicyDeskModel", "arePermissions", "(III)Z"⟩, 32), (⟨"PolicyDeskModel", "isPermission", "(II)Z"⟩, 32), (⟨"PolicyDeskModel", "firstAgainst", "()I"⟩, 32), (⟨"PolicyDeskModel", "shared", "(II)Z"⟩, 32), (⟨"PolicyDeskModel", "isAbout", "(III)Z"⟩, 32), (⟨"PolicyDeskModel", "typeStatement", "(I)I"⟩, 32), (⟨"PolicyDeskModel", "standsFor", "(II)Z"⟩, 32), (⟨"PolicyDeskModel", "begin", "()V"⟩, 32)]
theorem lw_r3 : ∀ q ∈ lw_privs_3, lw_okq q := List.forall_mem_cons.mpr ⟨lw_p32, List.forall_mem_cons.mpr ⟨lw_p33, List.forall_mem_cons.mpr ⟨lw_p34, List.forall_mem_cons.mpr ⟨lw_p35, List.forall_mem_cons.mpr ⟨lw_p36, List.forall_mem_cons.mpr ⟨lw_p37, List.forall_mem_cons.mpr ⟨lw_p38, List.forall_mem_cons.mpr ⟨lw_p39, List.forall_mem_cons.mpr ⟨lw_p40, List.forall_mem_cons.mpr ⟨lw_p41, List.forall_mem_cons.mpr ⟨lw_p42, List.forall_mem_cons.mpr ⟨lw_p43, List.forall_mem_cons.mpr ⟨lw_p44, List.forall_mem_cons.mpr ⟨lw_p45, List.forall_mem_cons.mpr ⟨lw_p46, List.forall_mem_cons.mpr ⟨lw_p47, fun _ h => absurd h List.not_mem_nil⟩⟩⟩⟩⟩⟩⟩⟩⟩⟩⟩⟩⟩⟩⟩⟩
theorem lw_p48 : lw_okq (⟨"PolicyDeskModel", "put", "(I)V"⟩, 32) := ⟨⟨by decide +kernel, by decide +kernel⟩, List.mem_of_getElem? (i := 925) (by decide +kernel), List.mem_of_getElem? (i := 1160) (by decide +kernel), List.mem_of_getElem? (i := 1161) (by decide +kernel)⟩
theorem lw_p49 : lw_okq (⟨"PolicyDeskModel", "classNumber", "(I)I"⟩, 32) := ⟨⟨by decide +kernel, by decide +kernel⟩, List.mem_of_getElem? (i := 925) (by decide +kernel), List.mem_of_getElem? (i := 1164) (by decide +kernel), List.mem_of_getElem? (i := 1165) (by decide +kernel)⟩
theorem lw_p50 : lw_okq (⟨"PolicyDeskModel", "maskOf", "(III)I"⟩, 32) := ⟨⟨by decide +kernel, by decide +kernel⟩, List.mem_of_getElem? (i := 925) (by decide +kernel), List.mem_of_getElem? (i := 1168) (by decide +kernel), List.mem_of_getElem? (i := 1169) (by decide +kernel)⟩
theorem lw_p51 : lw_okq (⟨"PolicyDeskModel", "typeNumber", "(I)I"⟩, 32) := ⟨⟨by decide +kernel, by decide +kernel⟩, List.mem_of_getElem? (i := 925) (by decide +kernel), List.mem_of_getElem? (i := 1172) (by decide +kernel), List.mem_of_getElem? (i := 1173) (by decide +kernel)⟩
theorem lw_p52 : lw_okq (⟨"PolicyDeskModel", "isThere", "(III)Z"⟩, 32) := ⟨⟨by decide +kernel, by decide +kernel⟩, List.mem_of_getElem? (i := 925) (by decide +kernel), List.mem_of_getElem? (i := 1184) (by decide +kernel), List.mem_of_getElem? (i := 1185) (by decide +kernel)⟩
theorem lw_p53 : lw_okq (⟨"PolicyDeskModel", "worked", "(III)I"⟩, 32) := ⟨⟨by decide +kernel, by decide +kernel⟩, List.mem_of_getElem? (i := 925) (by decide +kernel), List.mem_of_getElem? (i := 1188) (by decide +kernel), List.mem_of_getElem? (i := 1189) (by decide +kernel)⟩
theorem lw_p54 : lw_okq (⟨"PolicyDeskModel", "flows", "(II)Z"⟩, 32) := ⟨⟨by decide +kernel, by decide +kernel⟩, List.mem_of_getElem? (i := 925) (by decide +kernel), List.mem_of_getElem? (i := 1200) (by decide +kernel), List.mem_of_getElem? (i := 1201) (by decide +kernel)⟩
theorem lw_p55 : lw_okq (⟨"PolicyDeskModel", "say", "(I)V"⟩, 32) := ⟨⟨by decide +kernel, by decide +kernel⟩, List.mem_of_getElem? (i := 925) (by decide +kernel), List.mem_of_getElem? (i := 1212) (by decide +kernel), List.mem_of_getElem? (i := 1213) (by decide +kernel)⟩
theorem lw_p56 : lw_okq (⟨"PolicyDeskModel", "wellFormed", "()Z"⟩, 32) := ⟨⟨by decide +kernel, by decide +kernel⟩, List.mem_of_getElem? (i := 925) (by decide +kernel), List.mem_of_getElem? (i := 1228) (by decide +kernel), List.mem_of_getElem? (i := 1229) (by decide +kernel)⟩
def lw_privs_4 : List (MethodName × Nat) := [(⟨"PolicyDeskModel", "put", "(I)V"⟩, 32), (⟨"PolicyDeskModel", "classNumber", "(I)I"⟩, 32), (⟨"PolicyDeskModel", "maskOf", "(III)I"⟩, 32), (⟨"PolicyDeskModel", "typeNumber", "(I)I"⟩, 32), (⟨"PolicyDeskModel", "isThere", "(III)Z"⟩, 32), (⟨"PolicyDeskModel", "worked", "(III)I"⟩, 32), (⟨"PolicyDeskModel", "flows", "(II)Z"⟩, 32), (⟨"PolicyDeskModel", "say", "(I)V"⟩, 32), (⟨"PolicyDeskModel", "wellFormed", "()Z"⟩, 32)]
theorem lw_r4 : ∀ q ∈ lw_privs_4, lw_okq q := List.forall_mem_cons.mpr ⟨lw_p48, List.forall_mem_cons.mpr ⟨lw_p49, List.forall_mem_cons.mpr ⟨lw_p50, List.forall_mem_cons.mpr ⟨lw_p51, List.forall_mem_cons.mpr ⟨lw_p52, List.forall_mem_cons.mpr ⟨lw_p53, List.forall_mem_cons.mpr ⟨lw_p54, List.forall_mem_cons.mpr ⟨lw_p55, List.forall_mem_cons.mpr ⟨lw_p56, fun _ h => absurd h List.not_mem_nil⟩⟩⟩⟩⟩⟩⟩⟩⟩
def lw_privs : List (MethodName × Nat) := lw_privs_1 ++ (lw_privs_2 ++ (lw_privs_3 ++ (lw_privs_4)))
def lw_tbl : List Cond := k2_sels lw_privs ++ tables_1
theorem lw_privs_ok : ∀ q ∈ lw_privs, lw_okq q := by
  show ∀ q ∈ lw_privs_1 ++ (lw_privs_2 ++ (lw_privs_3 ++ (lw_privs_4))), lw_okq q
  exact List.forall_mem_append.mpr ⟨lw_r1, List.forall_mem_append.mpr ⟨lw_r2, List.forall_mem_append.mpr ⟨lw_r3, lw_r4⟩⟩⟩
-- ===== end of PART A; then your names; then what follows =====
end
section
/-! ===== BEGIN words of one list among another's, by their places ===== -/
theorem goodIn_r {big : List Cond} (ws : List Cond) (ps : List Nat) (hp : ws = ps.filterMap (fun i => big[i]?)) (h : ws.all goodWord = true) : GoodIn big ws := by
  intro w hw
  have h1 := List.all_eq_true.mp h w hw
  rw [hp] at hw
  obtain ⟨i, -, hi⟩ := List.mem_filterMap.mp hw
  have hm : w ∈ big := by first | exact List.mem_of_getElem? hi | exact List.getElem?_mem hi
  exact ⟨hm, good_of_word h1⟩
theorem goodIn_app {big a b : List Cond} (ha : GoodIn big a) (hb : GoodIn big b) : GoodIn big (a ++ b) := fun w h => (List.mem_append.mp h).elim (ha w) (hb w)
theorem goodIn_ca {big a b : List Cond} {c : Cond} (ha : GoodIn big (c :: a)) (hb : GoodIn big b) : GoodIn big (c :: (a ++ b)) := fun w h => (List.mem_cons.mp h).elim (fun e => ha w (List.mem_cons.mpr (Or.inl e))) (fun h => (List.mem_append.mp h).elim (fun h => ha w (List.mem_cons.mpr (Or.inr h))) (hb w))
theorem goodIn_sub {big ws : List Cond} (hm : ∀ w ∈ ws, w ∈ big) (h : ws.all goodWord = true) : GoodIn big ws := fun w hw => ⟨hm w hw, good_of_word (List.all_eq_true.mp h w hw)⟩
/-! ===== END ===== -/

/-! ===== BEGIN exceptions that leave a method, and their catching by the caller (launches without stack traces) ===== -/
section VXA
/-! The laws vx_back, vx_callV, vx_callS, vx_callSW, vx_throw0, vx_throwS follow proofs of the library, with one case more: JvmDerived/Free/Laws.lean (Back.of_free), Shelf42/LK1.lean (callV, callS), Shelf/KitTraced.lean (throwNew0V, throwNewS). -/
/-- where a method has thrown q: the class by its name, the cell, what was written, the world -/
def vx_T (XC : String → State → State → Prop) (st : State) (q : Addr) (t : State) (mc ms : Nat) (free : Addr → Prop) : Prop :=
  ∃ (E : String) (ce : Cell) (L : List Loc), XC E st t ∧ t.heap[q]? = some ce ∧ ce.vm = .none ∧ st.vm.findClass E = some ce.cls ∧ st.WarmedH t.vm ∧ st.sameButNew ({ t with vm := st.vm } : State) L mc ms ∧ ∀ z ∈ L, free z.base
def vx_Q (Qc : Array Value → State → Outcome → State → Prop) (XC : String → State → State → Prop) (mc ms : Nat) (free : Addr → Prop) : Array Value → State → Outcome → State → Prop := fun a st o t =>
  (Qc a st o t ∧ ∃ L, FrameEnd st o t L mc ms ∧ ∀ q ∈ L, free q.base) ∨ ∃ q, o = .threw q ∧ vx_T XC st q t mc ms free
/-- a callee that returns or throws -/
def vx_Met (l : Launch) (y : MethodName) (ws : List Cond) (rm : Room) (Pc : Array Value → State → Prop) (Qc : Array Value → State → Outcome → State → Prop) (XC : String → State → State → Prop) (mc ms : Nat) (free : Addr → Prop) : Prop :=
  MetFree l y (headSpec ws rm) Pc (fun _ _ _ _ _ => True) (vx_Q Qc XC mc ms free)
def vx_Post (XC : String → State → State → Prop) (mc ms : Nat) (free : Addr → Prop) : Pt → Array Value → Addr → Pt → Prop := fun A a q B =>
  ∃ (g : JFrame) (mk : MethodId) (t : State) (L : List Loc) (E : String) (ce : Cell), B.U.heap = t.heap ∧ B.U.vm = t.vm ∧ XC E (A.U.calling g mk a) t ∧ t.heap[q]? = some ce ∧ ce.vm = .none ∧ A.U.vm.findClass E = some ce.cls ∧ B.locs = A.locs ++ L ∧ (∀ z ∈ L, free z.base) ∧ B.cells = A.cells + mc ∧ B.slots = A.slots + ms
def vx_Back (l : Launch) (R : Room) (p : Program) (e : Env) (below : List Frame) (s : State) (sargs : Array Value) (y : MethodName) (len W9 : Nat)
    (Pre : Pt → Array Value → Prop) (Post : Pt → Array Value → Option Value → Pt → Prop) (PostX : Pt → Array Value → Addr → Pt → Prop) : Prop :=
  ∀ (m : MethodId) (meth : Method) (c : Code) (A : Pt) (g : JFrame) (ig : Instr) (mk : MethodId) (a : Array Value),
    Stand p l e R s m sargs below meth c A.U A.locs A.cells A.slots → g.method = m → g.locals.size = c.maxLocals → decode c.code g.pc = .ok (ig, len) →
    2 * g.monitorRoom + (g.stack.map fun v => v.category).sum ≤ W9 → A.U.methodNamed? y = some mk → Pre A a →
    (∃ (v : Option Value) (B : Pt), Stand p l e R s m sargs below meth c B.U B.locs B.cells B.slots ∧ Post A a v B ∧
      Steps p.tables e below (doInvoke e (A.U.setTop g) [] mk a).1 (B.U.setTop { g with pc := g.pc + len, stack := v.toList ++ g.stack })) ∨
    (∃ (q : Addr) (B : Pt), Stand p l e R s m sargs below meth c B.U B.locs B.cells B.slots ∧ PostX A a q B ∧
      Steps p.tables e below (doInvoke e (A.U.setTop g) [] mk a).1 ((B.U.setTop g).pushFrame (.throwing q)))
section Payer
variable {l : Launch} {R : Room} {p : Program} {e : Env} {below : List Frame} {s : State} {sargs : Array Value} {y : MethodName} {len W9 : Nat}
theorem vx_back {ws : List Cond} {rm : Room} {Pc : Array Value → State → Prop} {Qc : Array Value → State → Outcome → State → Prop} {XC : String → State → State → Prop} {mc ms : Nat} {free : Addr → Prop} {bytes : ByteArray} {maxL : Nat} {ret : Option FieldType}
    (hM : vx_Met l y ws rm Pc Qc XC mc ms free) (hblind : FrameBlind Pc) (hrc : rm.cells = mc) (hrs : rm.slots = ms)
    (hframes : rm.frames + 1 ≤ R.frames) (hlocals : W9 + (maxL + 11) + rm.locals ≤ R.locals)
    (hws : ∀ w ∈ ws, ∀ a' U, s.WarmedH U.vm → w.before a' U = true) (hcode : Cond.code y bytes maxL ret ∈ ws) (hinit : ∀ a' U, s.WarmedH U.vm → (Cond.initialized y.cls).before a' U = true) :
    vx_Back l R p e below s sargs y len W9 (PreOf R mc ms Pc) (PostOf Qc mc ms free) (vx_Post XC mc ms free) := by
  intro m meth c A g ig mk a X hg hsize hdg hW hn hp
  have h1 : (headSpec ws rm).pre.before a A.U = true := atoms_intro fun w hw => hws w hw _ _ X.warmed
  have h2 : (Cond.code y bytes maxL ret).before a A.U = true := hws _ hcode _ _ X.warmed
  have h3 : (Cond.initialized y.cls).before a A.U = true := hinit _ _ X.warmed
  have h4 : A.cells + (headSpec ws rm).room.cells ≤ R.cells := by rw [show (headSpec ws rm).room.cells = mc from hrc]; exact hp.1
  have h5 : A.slots + (headSpec ws rm).room.slots ≤ R.slots := by rw [show (headSpec ws rm).room.slots = ms from hrs]; exact hp.2.1
  have hPc : Pc a (A.U.calling g mk a) := hblind _ _ _ _ hp.2.2
  obtain ⟨U, Ls, c0, s0⟩ := A
  dsimp only [Pt.U, Pt.locs, Pt.cells, Pt.slots] at h1 h2 h3 h4 h5 X hn hPc ⊢
  obtain ⟨methY, cY, hmY, hcY, -, hlY, -, -, -, -⟩ := Cond.code_spec hn h2
  obtain ⟨kY, hkY, -⟩ := className_of_methodNamed hn
  have hinitY : kY.init = .initialized := Cond.initialized_spec (findClass_of_methodNamed hn) hkY h3
  have h : At U g.method c below := by rw [hg]; exact X.here
  have hlocals9 : W9 + (maxL + 11) + (headSpec ws rm).room.locals ≤ R.locals := hlocals
  have happ : (headSpec ws rm).appliesLoose y e.platform (U.calling g mk a) = true :=
    Spec.appliesLoose_calling (g := g) h hdg hn hkY hinitY
      (X.room_calling (g := g) (R' := (headSpec ws rm).room) hsize hmY hcY hframes (by rw [hlY]; omega) h4 h5) h1
  obtain ⟨mid, hmid⟩ := h.above
  have hfr : (U.setTop g).frames = (.java g :: mid) ++ below := by rw [State.frames_setTop' g h.top, hmid]; rfl
  obtain ⟨o, s₂, hsteps, -, hend, hq⟩ := Steps.callFree hM p X.admits X.cas X.clock (acts := []) hfr happ hPc trivial
  have hq' : vx_Q Qc XC mc ms free a (U.calling g mk a) o s₂ := hq
  rw [State.frames_setTop' g h.top] at hend
  obtain ⟨g₀, hg0⟩ := Option.isSome_iff_exists.mp h.top
  obtain ⟨r, hr⟩ := State.topJava?_eq_some.mp hg0
  have hr' : (({ U with heap := s₂.heap, slotsUsed := s₂.slotsUsed } : State).setVm s₂.vm).frames = .java g₀ :: r := hr
  rcases hq' with ⟨hqc, L, hfe, hL⟩ | ⟨q, rfl, E, ce, L, hx, hce, hcv, hcl, hW₂, hsm, hL⟩
  · obtain ⟨⟨v, rfl⟩, hW₂, e2, q2, q3, q4, q5, q6⟩ := id hfe
    have e3 : s₂ = ({ (U.calling g mk a).setFrames s₂.frames with heap := s₂.heap, slotsUsed := s₂.slotsUsed } : State).setVm s₂.vm := by
      have : s₂ = ({ s₂ with vm := (U.calling g mk a).vm } : State).setVm s₂.vm := rfl
      rw [e2] at this
      exact this
    obtain ⟨c₂, i₂, len₂, hc₂, hd₂, hf₂⟩ := hend
    have hW' : U.WarmedH s₂.vm := hW₂
    have hcc : c₂ = c := by
      have h1 : s₂.code? g.method = U.code? g.method := by
        rw [State.code?_eq, State.code?_eq, hW'.alike.method?]
      exact Option.some.inj (hc₂.symm.trans (h1.trans h.code))
    subst hcc
    have hlen : len₂ = len := by rw [hdg] at hd₂; cases hd₂; rfl
    subst hlen
    have hs₂ : s₂ = (({ U with heap := s₂.heap, slotsUsed := s₂.slotsUsed } : State).setVm s₂.vm).setTop { g with pc := g.pc + len₂, stack := v.toList ++ g.stack } := by
      refine e3.trans ?_
      rw [hf₂, State.calling_eq h.top, State.setFrames_setFrames, State.setTop_of_frames _ hr', hr]
      rfl
    have hsame : U.sameButNew ({ U with heap := s₂.heap, slotsUsed := s₂.slotsUsed } : State) L mc ms := by
      refine ⟨?_, q2, q3, q4, q5, q6⟩
      obtain ⟨t, ht, -⟩ := State.frames_cons hr
      show ({ U with heap := s₂.heap, slotsUsed := s₂.slotsUsed } : State) = { U.setFrames U.frames with heap := s₂.heap, slotsUsed := s₂.slotsUsed }
      rw [State.setFrames_self ht]
    subst hg
    refine Or.inl ⟨v, ⟨(({ U with heap := s₂.heap, slotsUsed := s₂.slotsUsed } : State).setVm s₂.vm), Ls ++ L, c0 + mc, s0 + ms⟩,
      ⟨X.admits, X.cas, X.clock, X.frames, X.room, X.hears, X.method, X.code, (X.here.setHeapUsed s₂.heap s₂.slotsUsed).setVm hW'.alike, X.tail, State.WarmedH.trans X.warmed hW', X.limits, X.bytes, X.same.trans (hsame.setVm s.vm)⟩,
      ⟨g, mk, s₂, L, rfl, rfl, hqc, rfl, hL, rfl, rfl⟩, ?_⟩
    show Steps p.tables e below _ ((({ U with heap := s₂.heap, slotsUsed := s₂.slotsUsed } : State).setVm s₂.vm).setTop { g with pc := g.pc + len₂, stack := v.toList ++ g.stack })
    rw [← hs₂]
    exact hsteps
  · obtain ⟨e2, q2, q3, q4, q5, q6⟩ := id hsm
    have e3 : s₂ = ({ (U.calling g mk a).setFrames s₂.frames with heap := s₂.heap, slotsUsed := s₂.slotsUsed } : State).setVm s₂.vm := by
      have : s₂ = ({ s₂ with vm := (U.calling g mk a).vm } : State).setVm s₂.vm := rfl
      rw [e2] at this
      exact this
    have hf₂ : s₂.frames = .throwing q :: .java g :: U.frames.tail := hend
    have hW' : U.WarmedH s₂.vm := hW₂
    have hs₂ : s₂ = ((({ U with heap := s₂.heap, slotsUsed := s₂.slotsUsed } : State).setVm s₂.vm).setTop g).pushFrame (.throwing q) := by
      refine e3.trans ?_
      rw [hf₂, State.calling_eq h.top, State.setFrames_setFrames, State.pushFrame, State.frames_setTop _ hr', State.setTop_of_frames _ hr', State.setFrames_setFrames, hr]
      rfl
    have hsame : U.sameButNew ({ U with heap := s₂.heap, slotsUsed := s₂.slotsUsed } : State) L mc ms := by
      refine ⟨?_, q2, q3, q4, q5, q6⟩
      obtain ⟨t, ht, -⟩ := State.frames_cons hr
      show ({ U with heap := s₂.heap, slotsUsed := s₂.slotsUsed } : State) = { U.setFrames U.frames with heap := s₂.heap, slotsUsed := s₂.slotsUsed }
      rw [State.setFrames_self ht]
    subst hg
    refine Or.inr ⟨q, ⟨(({ U with heap := s₂.heap, slotsUsed := s₂.slotsUsed } : State).setVm s₂.vm), Ls ++ L, c0 + mc, s0 + ms⟩,
      ⟨X.admits, X.cas, X.clock, X.frames, X.room, X.hears, X.method, X.code, (X.here.setHeapUsed s₂.heap s₂.slotsUsed).setVm hW'.alike, X.tail, State.WarmedH.trans X.warmed hW', X.limits, X.bytes, X.same.trans (hsame.setVm s.vm)⟩,
      ⟨g, mk, s₂, L, E, ce, rfl, rfl, hx, hce, hcv, hcl, rfl, hL, rfl, rfl⟩, ?_⟩
    show Steps p.tables e below _ (((({ U with heap := s₂.heap, slotsUsed := s₂.slotsUsed } : State).setVm s₂.vm).setTop g).pushFrame (.throwing q))
    rw [← hs₂]
    exact hsteps
end Payer
section Calls
variable {p : Program} {l : Launch} {e : Env} {R : Room} {s : State} {m : MethodId} {args : Array Value} {below : List Frame} {meth : Method} {c : Code} {T : State} {locs : List Loc} {cells slots : Nat}
theorem vx_callV (X : Stand p l e R s m args below meth c T locs cells slots) (hexec : p.tables.exec = Jvm.exec) {own C : String} {index : Nat} {y : MethodName} {bytes : ByteArray} {maxL : Nat} {ret : Option FieldType}
    (hown : s.vm.findClass own = some m.cls) (hlink : (Cond.methodLink own index y).before args s = true) (hinst : (Cond.instanceMethod y).before args s = true) (hsel : (Cond.selects C y y).before args s = true)
    (hcode : (Cond.code y bytes maxL ret).before args s = true) (hy : y.cls ≠ "java/lang/invoke/MethodHandle" ∧ y.cls ≠ "java/lang/invoke/VarHandle")
    {W9 : Nat} {Pre : Pt → Array Value → Prop} {Post : Pt → Array Value → Option Value → Pt → Prop} {PostX : Pt → Array Value → Addr → Pt → Prop} (hK : vx_Back l R p e below s args y 3 W9 Pre Post PostX)
    {b : Addr} {cellB : Cell} (hcell : T.heap[b]? = some cellB) (hobj : cellB.vm.isStatics = false) (hcls : s.vm.findClass C = some cellB.cls)
    {g : JFrame} (hg : g.method = m) (hsize : g.locals.size = c.maxLocals) {argsL rest : List Value} (hlen : ∀ sig, parseMethodDescriptor y.desc = some sig → argsL.length = sig.parameters.length)
    (hstack : g.stack = argsL.reverse ++ .ref b :: rest) (hW : 2 * g.monitorRoom + (rest.map fun v => v.category).sum ≤ W9) (hdg : decode c.code g.pc = .ok (.invokevirtual index, 3))
    (hpre : ∀ vm₁, s.WarmedH vm₁ → Pre ⟨T.setVm vm₁, locs, cells, slots⟩ (Value.ref b :: argsL).toArray) :
    (∃ (v : Option Value) (vm₁ : Vm) (B : Pt), s.WarmedH vm₁ ∧ Stand p l e R s m args below meth c B.U B.locs B.cells B.slots ∧ Post ⟨T.setVm vm₁, locs, cells, slots⟩ (Value.ref b :: argsL).toArray v B ∧
      ∀ target, Steps p.tables e below (B.U.setTop { g with pc := g.pc + 3, stack := v.toList ++ rest }) target → Steps p.tables e below (T.setTop g) target) ∨
    (∃ (q : Addr) (vm₁ : Vm) (B : Pt), s.WarmedH vm₁ ∧ Stand p l e R s m args below meth c B.U B.locs B.cells B.slots ∧ PostX ⟨T.setVm vm₁, locs, cells, slots⟩ (Value.ref b :: argsL).toArray q B ∧
      Steps p.tables e below (T.setTop g) ((B.U.setTop { g with stack := rest }).pushFrame (.throwing q))) := by
  obtain ⟨mk, methM, hnamed, hmethM, hstM, habM⟩ := Cond.instanceMethod_spec hinst
  obtain ⟨methM', cM, hmethM', -, -, -, -, -, -, hsigM⟩ := Cond.code_spec hnamed hcode
  cases hmethM.symm.trans hmethM'
  obtain ⟨c2, r2, m2, q1, q2, q3, q4, kP, hkP, hkPi⟩ := Cond.selects_spec hsel
  cases hcls.symm.trans q1
  cases (State.methodFound?_of_named hnamed hy).symm.trans q2
  cases hnamed.symm.trans q3
  have hselP : selectMethod e.platform s.vm cellB.cls mk = .method mk := by rw [Launch.admits_selectMethod X.admits]; exact q4
  obtain ⟨vm₁, X₁, hstep₁⟩ := X.invokevirtual hexec hown hlink hnamed hmethM hstM hkP hkPi hy (a := b) (cell := cellB) hcell
    (fun z h => by rw [h] at hobj; cases hobj) hselP hmethM habM hkP hkPi (g := g) hg (argsL := argsL) (rest := rest) (hlen _ hsigM) hstack hdg
  rcases hK m meth c ⟨T.setVm vm₁, locs, cells, slots⟩ { g with stack := rest } (.invokevirtual index) mk (Value.ref b :: argsL).toArray X₁ hg hsize hdg hW (X₁.named hnamed) (hpre vm₁ X₁.warmed) with ⟨v, B, X', hpost, hsteps⟩ | ⟨q, B, X', hpost, hsteps⟩
  · exact Or.inl ⟨v, vm₁, B, X₁.warmed, X', hpost, fun target h => hstep₁ _ fun acts => by rw [doInvoke_state]; exact hsteps.trans h⟩
  · exact Or.inr ⟨q, vm₁, B, X₁.warmed, X', hpost, hstep₁ _ fun acts => by rw [doInvoke_state]; exact hsteps⟩
theorem vx_callS (X : Stand p l e R s m args below meth c T locs cells slots) (hexec : p.tables.exec = Jvm.exec) {own : String} {index : Nat} {y : MethodName} {bytes : ByteArray} {maxL : Nat} {ret : Option FieldType}
    (hown : s.vm.findClass own = some m.cls) (hlink : (Cond.methodLink own index y).before args s = true) (hstat : (Cond.static y).before args s = true) (hinit : (Cond.initialized y.cls).before args s = true)
    (hcode : (Cond.code y bytes maxL ret).before args s = true) (hy : y.cls ≠ "java/lang/invoke/MethodHandle" ∧ y.cls ≠ "java/lang/invoke/VarHandle")
    {W9 : Nat} {Pre : Pt → Array Value → Prop} {Post : Pt → Array Value → Option Value → Pt → Prop} {PostX : Pt → Array Value → Addr → Pt → Prop} (hK : vx_Back l R p e below s args y 3 W9 Pre Post PostX)
    {g : JFrame} (hg : g.method = m) (hsize : g.locals.size = c.maxLocals) {argsL rest : List Value} (hlen : ∀ sig, parseMethodDescriptor y.desc = some sig → argsL.length = sig.parameters.length)
    (hstack : g.stack = argsL.reverse ++ rest) (hW : 2 * g.monitorRoom + (rest.map fun v => v.category).sum ≤ W9) (hdg : decode c.code g.pc = .ok (.invokestatic index, 3))
    (hpre : ∀ vm₁, s.WarmedH vm₁ → Pre ⟨T.setVm vm₁, locs, cells, slots⟩ argsL.toArray) :
    (∃ (v : Option Value) (vm₁ : Vm) (B : Pt), s.WarmedH vm₁ ∧ Stand p l e R s m args below meth c B.U B.locs B.cells B.slots ∧ Post ⟨T.setVm vm₁, locs, cells, slots⟩ argsL.toArray v B ∧
      ∀ target, Steps p.tables e below (B.U.setTop { g with pc := g.pc + 3, stack := v.toList ++ rest }) target → Steps p.tables e below (T.setTop g) target) ∨
    (∃ (q : Addr) (vm₁ : Vm) (B : Pt), s.WarmedH vm₁ ∧ Stand p l e R s m args below meth c B.U B.locs B.cells B.slots ∧ PostX ⟨T.setVm vm₁, locs, cells, slots⟩ argsL.toArray q B ∧
      Steps p.tables e below (T.setTop g) ((B.U.setTop { g with stack := rest }).pushFrame (.throwing q))) := by
  obtain ⟨mk, hnamed⟩ := Cond.code_named hcode
  obtain ⟨methM, cM, hmethM, -, -, -, -, -, -, hsigM⟩ := Cond.code_spec hnamed hcode
  have hstatic : methM.isStatic = true := Cond.static_spec hnamed hmethM hstat
  obtain ⟨kP, hkP, -⟩ := className_of_methodNamed hnamed
  have hinitP : kP.init = .initialized := Cond.initialized_spec (findClass_of_methodNamed hnamed) hkP hinit
  obtain ⟨vm₁, X₁, hstep₁⟩ := X.invokestatic hexec hown hlink hnamed hmethM hstatic hkP hinitP hy (g := g) hg (argsL := argsL) (rest := rest) (hlen _ hsigM) hstack hdg
  rcases hK m meth c ⟨T.setVm vm₁, locs, cells, slots⟩ { g with stack := rest } (.invokestatic index) mk argsL.toArray X₁ hg hsize hdg hW (X₁.named hnamed) (hpre vm₁ X₁.warmed) with ⟨v, B, X', hpost, hsteps⟩ | ⟨q, B, X', hpost, hsteps⟩
  · exact Or.inl ⟨v, vm₁, B, X₁.warmed, X', hpost, fun target h => hstep₁ _ fun acts => by rw [doInvoke_state]; exact hsteps.trans h⟩
  · exact Or.inr ⟨q, vm₁, B, X₁.warmed, X', hpost, hstep₁ _ fun acts => by rw [doInvoke_state]; exact hsteps⟩
end Calls
theorem vx_cls {s : State} {T : State} {vm₁ : Vm} {E : String} {k : ClassId} (hW : s.WarmedH vm₁) (h : (T.setVm vm₁).vm.findClass E = some k) : s.vm.findClass E = some k := by
  have h1 : vm₁.findClass E = some k := h
  rw [hW.alike.findClass] at h1
  exact h1
/-- the method's frame g, with q thrown over it -/
def vx_W (p : Program) (l : Launch) (e : Env) (R : Room) (s : State) (m : MethodId) (args : Array Value) (below : List Frame) (meth : Method) (c : Code) (H : Heap) (locs : List Loc) (cells slots : Nat) (Q : State → Prop) (g : JFrame) (q : Addr) : Prop :=
  ∀ T : State, T.heap = H → Stand p l e R s m args below meth c T locs cells slots → ∃ t, Steps p.tables e below ((T.setTop g).pushFrame (.throwing q)) t ∧ Q t
def vx_Run (p : Program) (l : Launch) (e : Env) (R : Room) (s : State) (m : MethodId) (args : Array Value) (below : List Frame) (meth : Method) (c : Code) (H : Heap) (locs : List Loc) (cells slots mc ms : Nat) (g : JFrame) (rest : List Value) (Qa : State → Outcome → State → Prop) (XC : String → State → State → Prop) (free : Addr → Prop) : Prop :=
  ∀ T : State, T.heap = H → Stand p l e R s m args below meth c T locs cells slots →
    (∃ (v : Option Value) (st₀ t T' : State) (L : List Loc), st₀.heap = H ∧ Stand p l e R s m args below meth c T' (locs ++ L) (cells + mc) (slots + ms) ∧ (∀ q ∈ L, free q.base) ∧ T'.heap = t.heap ∧ T'.vm = t.vm ∧ Qa st₀ (.returned v) t ∧
      Goes p e below T g T' { g with pc := g.pc + 3, stack := v.toList ++ rest }) ∨
    (∃ (q : Addr) (st₀ t T' : State) (L : List Loc) (E : String) (ce : Cell), st₀.heap = H ∧ Stand p l e R s m args below meth c T' (locs ++ L) (cells + mc) (slots + ms) ∧ (∀ z ∈ L, free z.base) ∧ T'.heap = t.heap ∧ T'.vm = t.vm ∧ XC E st₀ t ∧ t.heap[q]? = some ce ∧ ce.vm = .none ∧ s.vm.findClass E = some ce.cls ∧
      Steps p.tables e below (T.setTop g) ((T'.setTop { g with stack := rest }).pushFrame (.throwing q)))
def vx_X {S : Type} (px : S → Prop) (B : String → S → State → Prop) (A : Nat → Prop) : String → State → State → Prop := fun E st t => ∃ u : S, px u ∧ B E u t ∧ va_F A st t
section Runs
variable {p : Program} {l : Launch} {e : Env} {R : Room} {s : State} {m : MethodId} {args : Array Value} {below : List Frame} {meth : Method} {c : Code} {H : Heap} {locs : List Loc} {cells slots : Nat}
variable {y : MethodName} {bytes cc : ByteArray} {maxL nL mc ms n index : Nat} {ret : Option FieldType} {ws : List Cond} {rm : Room} {Pc : Array Value → State → Prop} {Qc : Array Value → State → Outcome → State → Prop} {XC : String → State → State → Prop} {free : Addr → Prop} {Ts : List Cond} {own C : String} {b : Addr} {As rest : List Value} {g : JFrame}
theorem vx_callBack (cb : CallB R s args own index y bytes maxL ret ws rm mc ms n) (hM : vx_Met l y ws rm Pc Qc XC mc ms free) (hbl : FrameBlind Pc) : vx_Back l R p e below s args y 3 8 (PreOf R mc ms Pc) (PostOf Qc mc ms free) (vx_Post XC mc ms free) := by
  obtain ⟨hrc, hrs, hfr, hlo, hws, hcw, -, hini, -⟩ := cb
  exact vx_back (bytes := bytes) (maxL := maxL) (ret := ret) hM hbl hrc hrs hfr hlo hws hcw (fun a' U hW => word_at hW (Or.inl (by first | rfl | simp [Cond.onTables, Cond.keeps, Cond.steady])) hini)
theorem vx_runV (S : CallFix p m c cc nL s args Ts own) (hM : vx_Met l y ws rm Pc Qc XC mc ms free) (cw : CallW R s args own C index y bytes maxL ret ws rm mc ms n) (hp : PreV s H C b Pc As)
    (hg : g.method = m) (hn : As.length = n) (hsize : g.locals.size = nL) (hstack : g.stack = As.reverse ++ .ref b :: rest) (hW : 2 * g.monitorRoom + (rest.map fun v => v.category).sum ≤ 8) (hdg : decode cc g.pc = .ok (.invokevirtual index, 3)) (hf : cells + mc ≤ R.cells ∧ slots + ms ≤ R.slots) :
    vx_Run p l e R s m args below meth c H locs cells slots mc ms g rest (Qc (Value.ref b :: As).toArray) XC free := by
  have hK : vx_Back l R p e below s args y 3 8 (PreOf R mc ms Pc) (PostOf Qc mc ms free) (vx_Post XC mc ms free) := vx_callBack cw.1 hM hp.1
  obtain ⟨⟨-, -, -, -, -, -, hcode, -, hy, hlen, hl⟩, hin, hse⟩ := cw
  obtain ⟨hx, hb, hml, ho, -⟩ := S
  obtain ⟨-, ⟨cellB, hcB, hoB, hclB⟩, hPc⟩ := hp
  intro T hT X
  rcases vx_callV X hx (C := C) (bytes := bytes) (maxL := maxL) (ret := ret) ho hl hin hse hcode hy hK (by rw [hT]; exact hcB) hoB hclB hg (hsize.trans hml.symm) (argsL := As) (rest := rest) (fun sig h => hn.trans (hlen sig h)) hstack hW (by rw [hb]; exact hdg)
    (fun vm₁ hW₁ => ⟨hf.1, hf.2, hPc (T.setVm vm₁) hT hW₁⟩) with ⟨v, vm₁, ⟨U', l2, c2, s2⟩, hW₁, X', ⟨g', mk, t, L, e1, e2, hq, h1, hL, h2, h3⟩, st⟩ | ⟨q, vm₁, ⟨U', l2, c2, s2⟩, hW₁, X', ⟨g', mk, t, L, E, ce, e1, e2, hq, hce, hcv, hcl, h1, hL, h2, h3⟩, st⟩
  · dsimp only [Pt.U, Pt.locs, Pt.cells, Pt.slots] at X' e1 e2 h1 h2 h3 st
    subst h1; subst h2; subst h3
    exact Or.inl ⟨v, (T.setVm vm₁).calling g' mk (Value.ref b :: As).toArray, t, U', L, hT, X', hL, e1, e2, hq, st⟩
  · dsimp only [Pt.U, Pt.locs, Pt.cells, Pt.slots] at X' e1 e2 h1 h2 h3 st hcl
    subst h1; subst h2; subst h3
    exact Or.inr ⟨q, (T.setVm vm₁).calling g' mk (Value.ref b :: As).toArray, t, U', L, E, ce, hT, X', hL, e1, e2, hq, hce, hcv, vx_cls hW₁ hcl, st⟩
theorem vx_runS (S : CallFix p m c cc nL s args Ts own) (hM : vx_Met l y ws rm Pc Qc XC mc ms free) (cw : CallB R s args own index y bytes maxL ret ws rm mc ms n ∧ (Cond.static y).before args s = true) (hp : PreS s H Pc As)
    (hg : g.method = m) (hn : As.length = n) (hsize : g.locals.size = nL) (hstack : g.stack = As.reverse ++ rest) (hW : 2 * g.monitorRoom + (rest.map fun v => v.category).sum ≤ 8) (hdg : decode cc g.pc = .ok (.invokestatic index, 3)) (hf : cells + mc ≤ R.cells ∧ slots + ms ≤ R.slots) :
    vx_Run p l e R s m args below meth c H locs cells slots mc ms g rest (Qc As.toArray) XC free := by
  have hK : vx_Back l R p e below s args y 3 8 (PreOf R mc ms Pc) (PostOf Qc mc ms free) (vx_Post XC mc ms free) := vx_callBack cw.1 hM hp.1
  obtain ⟨⟨-, -, -, -, -, -, hcode, hini, hy, hlen, hl⟩, hstt⟩ := cw
  obtain ⟨hx, hb, hml, ho, -⟩ := S
  intro T hT X
  rcases vx_callS X hx (bytes := bytes) (maxL := maxL) (ret := ret) ho hl hstt hini hcode hy hK hg (hsize.trans hml.symm) (argsL := As) (rest := rest) (fun sig h => hn.trans (hlen sig h)) hstack hW (by rw [hb]; exact hdg)
    (fun vm₁ hW₁ => ⟨hf.1, hf.2, hp.2 (T.setVm vm₁) hT hW₁⟩) with ⟨v, vm₁, ⟨U', l2, c2, s2⟩, hW₁, X', ⟨g', mk, t, L, e1, e2, hq, h1, hL, h2, h3⟩, st⟩ | ⟨q, vm₁, ⟨U', l2, c2, s2⟩, hW₁, X', ⟨g', mk, t, L, E, ce, e1, e2, hq, hce, hcv, hcl, h1, hL, h2, h3⟩, st⟩
  · dsimp only [Pt.U, Pt.locs, Pt.cells, Pt.slots] at X' e1 e2 h1 h2 h3 st
    subst h1; subst h2; subst h3
    exact Or.inl ⟨v, (T.setVm vm₁).calling g' mk As.toArray, t, U', L, hT, X', hL, e1, e2, hq, st⟩
  · dsimp only [Pt.U, Pt.locs, Pt.cells, Pt.slots] at X' e1 e2 h1 h2 h3 st hcl
    subst h1; subst h2; subst h3
    exact Or.inr ⟨q, (T.setVm vm₁).calling g' mk As.toArray, t, U', L, E, ce, hT, X', hL, e1, e2, hq, hce, hcv, vx_cls hW₁ hcl, st⟩
end Runs
section Rows
variable {p : Program} {l : Launch} {e : Env} {R : Room} {s : State} {m : MethodId} {args : Array Value} {below : List Frame} {meth : Method} {c : Code} {H : Heap} {locs : List Loc} {cells slots : Nat} {Q : State → Prop}
variable {mc ms : Nat} {free : Addr → Prop} {A0 A1 : Nat → Prop} {H0 : Heap} {a : Array Value} {pc : Nat} {ls : Array Slot} {st0 rest : List Value}
theorem vx_keep {st₀ t T' : State} {L : List Loc} (h0 : st₀.heap = H) (e1 : T'.heap = t.heap) (hS : va_S A0 H0 H locs) (hA : ∀ q, q < H.size → A1 q → A0 q) (hf : ∀ q, free q → A0 q) (hL : ∀ q ∈ L, free q.base) (hF : va_F A1 st₀ t) :
    H.size ≤ T'.heap.size ∧ (∀ q : Nat, q < H.size → ¬ A1 q → T'.heap[q]? = H[q]?) ∧ va_S A0 H0 T'.heap (locs ++ L) := by
  obtain ⟨hz, hk⟩ := hF
  rw [h0] at hz hk
  exact ⟨by rw [e1]; exact hz, fun q h1 h2 => by rw [e1]; exact hk q h1 h2,
    ⟨Nat.le_trans hS.1 (by rw [e1]; exact hz), fun q h1 h2 => by rw [e1, hk q (Nat.lt_of_lt_of_le h1 hS.1) (fun z => h2 (hA q (Nat.lt_of_lt_of_le h1 hS.1) z))]; exact hS.2.1 q h1 h2, fun q hq => by
      rcases List.mem_append.mp hq with h | h
      · exact hS.2.2 q h
      · exact hf _ (hL q h)⟩⟩
theorem vx_calli {S SX : Type} {post : Int32 → S → Prop} {px : SX → Prop} {B : S → State → Prop} {BX : String → SX → State → Prop} {AX : Nat → Prop} (hr : vx_Run p l e R s m args below meth c H locs cells slots mc ms (F0 m pc ls st0) rest (va_Qi post B A1 a) (vx_X px BX AX) free) (hS : va_S A0 H0 H locs) (hA : ∀ q, q < H.size → A1 q → A0 q) (hf : ∀ q, free q → A0 q) (hAX : ∀ q, q < H.size → AX q → A0 q)
    (kx : ∀ (E : String) (ce : Cell) (q9 : Addr) (u : SX) (t : State) (H1 : Heap) (locs1 : List Loc), t.heap = H1 → s.vm.Alike t.vm → px u → BX E u t → H.size ≤ H1.size → (∀ q : Nat, q < H.size → ¬ AX q → H1[q]? = H[q]?) → va_S A0 H0 H1 locs1 → H1[q9]? = some ce → ce.vm = .none → s.vm.findClass E = some ce.cls → vx_W p l e R s m args below meth c H1 locs1 (cells + mc) (slots + ms) Q (F0 m pc ls rest) q9)
    (kk : ∀ (r : Int32) (u : S) (t : State) (H1 : Heap) (locs1 : List Loc), t.heap = H1 → s.vm.Alike t.vm → post r u → B u t → H.size ≤ H1.size → (∀ q : Nat, q < H.size → ¬ A1 q → H1[q]? = H[q]?) → va_S A0 H0 H1 locs1 → W p l e R s m args below meth c H1 locs1 (cells + mc) (slots + ms) Q (F0 m (pc + 3) ls (.int r :: rest))) : W p l e R s m args below meth c H locs cells slots Q (F0 m pc ls st0) := by
  intro T hT X
  rcases hr T hT X with ⟨v, st₀, t, T', L, h0, X', hL, e1, e2, ⟨⟨r, u, hv, hp, hb⟩, hF⟩, st⟩ | ⟨q, st₀, t, T', L, E, ce, h0, X', hL, e1, e2, ⟨u, hp, hb, hF⟩, hce, hcv, hcl, st⟩
  · cases hv
    obtain ⟨k1, k2, k3⟩ := vx_keep h0 e1 hS hA hf hL hF
    obtain ⟨t2, a1, b1⟩ := kk r u t T'.heap (locs ++ L) e1.symm (by rw [← e2]; exact X'.warmed.alike) hp hb k1 k2 k3 T' rfl X'
    exact ⟨t2, st t2 a1, b1⟩
  · obtain ⟨k1, k2, k3⟩ := vx_keep h0 e1 hS hAX hf hL hF
    obtain ⟨t2, a1, b1⟩ := kx E ce q u t T'.heap (locs ++ L) e1.symm (by rw [← e2]; exact X'.warmed.alike) hp hb k1 k2 k3 (by rw [e1]; exact hce) hcv hcl T' rfl X'
    exact ⟨t2, st.trans a1, b1⟩
theorem vx_calll {S SX : Type} {post : Int64 → S → Prop} {px : SX → Prop} {B : S → State → Prop} {BX : String → SX → State → Prop} {AX : Nat → Prop} (hr : vx_Run p l e R s m args below meth c H locs cells slots mc ms (F0 m pc ls st0) rest (va_Ql post B A1 a) (vx_X px BX AX) free) (hS : va_S A0 H0 H locs) (hA : ∀ q, q < H.size → A1 q → A0 q) (hf : ∀ q, free q → A0 q) (hAX : ∀ q, q < H.size → AX q → A0 q)
    (kx : ∀ (E : String) (ce : Cell) (q9 : Addr) (u : SX) (t : State) (H1 : Heap) (locs1 : List Loc), t.heap = H1 → s.vm.Alike t.vm → px u → BX E u t → H.size ≤ H1.size → (∀ q : Nat, q < H.size → ¬ AX q → H1[q]? = H[q]?) → va_S A0 H0 H1 locs1 → H1[q9]? = some ce → ce.vm = .none → s.vm.findClass E = some ce.cls → vx_W p l e R s m args below meth c H1 locs1 (cells + mc) (slots + ms) Q (F0 m pc ls rest) q9)
    (kk : ∀ (r : Int64) (u : S) (t : State) (H1 : Heap) (locs1 : List Loc), t.heap = H1 → s.vm.Alike t.vm → post r u → B u t → H.size ≤ H1.size → (∀ q : Nat, q < H.size → ¬ A1 q → H1[q]? = H[q]?) → va_S A0 H0 H1 locs1 → W p l e R s m args below meth c H1 locs1 (cells + mc) (slots + ms) Q (F0 m (pc + 3) ls (.long r :: rest))) : W p l e R s m args below meth c H locs cells slots Q (F0 m pc ls st0) := by
  intro T hT X
  rcases hr T hT X with ⟨v, st₀, t, T', L, h0, X', hL, e1, e2, ⟨⟨r, u, hv, hp, hb⟩, hF⟩, st⟩ | ⟨q, st₀, t, T', L, E, ce, h0, X', hL, e1, e2, ⟨u, hp, hb, hF⟩, hce, hcv, hcl, st⟩
  · cases hv
    obtain ⟨k1, k2, k3⟩ := vx_keep h0 e1 hS hA hf hL hF
    obtain ⟨t2, a1, b1⟩ := kk r u t T'.heap (locs ++ L) e1.symm (by rw [← e2]; exact X'.warmed.alike) hp hb k1 k2 k3 T' rfl X'
    exact ⟨t2, st t2 a1, b1⟩
  · obtain ⟨k1, k2, k3⟩ := vx_keep h0 e1 hS hAX hf hL hF
    obtain ⟨t2, a1, b1⟩ := kx E ce q u t T'.heap (locs ++ L) e1.symm (by rw [← e2]; exact X'.warmed.alike) hp hb k1 k2 k3 (by rw [e1]; exact hce) hcv hcl T' rfl X'
    exact ⟨t2, st.trans a1, b1⟩
theorem vx_callf {S SX : Type} {post : UInt32 → S → Prop} {px : SX → Prop} {B : S → State → Prop} {BX : String → SX → State → Prop} {AX : Nat → Prop} (hr : vx_Run p l e R s m args below meth c H locs cells slots mc ms (F0 m pc ls st0) rest (va_Qf post B A1 a) (vx_X px BX AX) free) (hS : va_S A0 H0 H locs) (hA : ∀ q, q < H.size → A1 q → A0 q) (hf : ∀ q, free q → A0 q) (hAX : ∀ q, q < H.size → AX q → A0 q)
    (kx : ∀ (E : String) (ce : Cell) (q9 : Addr) (u : SX) (t : State) (H1 : Heap) (locs1 : List Loc), t.heap = H1 → s.vm.Alike t.vm → px u → BX E u t → H.size ≤ H1.size → (∀ q : Nat, q < H.size → ¬ AX q → H1[q]? = H[q]?) → va_S A0 H0 H1 locs1 → H1[q9]? = some ce → ce.vm = .none → s.vm.findClass E = some ce.cls → vx_W p l e R s m args below meth c H1 locs1 (cells + mc) (slots + ms) Q (F0 m pc ls rest) q9)
    (kk : ∀ (r : UInt32) (u : S) (t : State) (H1 : Heap) (locs1 : List Loc), t.heap = H1 → s.vm.Alike t.vm → post r u → B u t → H.size ≤ H1.size → (∀ q : Nat, q < H.size → ¬ A1 q → H1[q]? = H[q]?) → va_S A0 H0 H1 locs1 → W p l e R s m args below meth c H1 locs1 (cells + mc) (slots + ms) Q (F0 m (pc + 3) ls (.float r :: rest))) : W p l e R s m args below meth c H locs cells slots Q (F0 m pc ls st0) := by
  intro T hT X
  rcases hr T hT X with ⟨v, st₀, t, T', L, h0, X', hL, e1, e2, ⟨⟨r, u, hv, hp, hb⟩, hF⟩, st⟩ | ⟨q, st₀, t, T', L, E, ce, h0, X', hL, e1, e2, ⟨u, hp, hb, hF⟩, hce, hcv, hcl, st⟩
  · cases hv
    obtain ⟨k1, k2, k3⟩ := vx_keep h0 e1 hS hA hf hL hF
    obtain ⟨t2, a1, b1⟩ := kk r u t T'.heap (locs ++ L) e1.symm (by rw [← e2]; exact X'.warmed.alike) hp hb k1 k2 k3 T' rfl X'
    exact ⟨t2, st t2 a1, b1⟩
  · obtain ⟨k1, k2, k3⟩ := vx_keep h0 e1 hS hAX hf hL hF
    obtain ⟨t2, a1, b1⟩ := kx E ce q u t T'.heap (locs ++ L) e1.symm (by rw [← e2]; exact X'.warmed.alike) hp hb k1 k2 k3 (by rw [e1]; exact hce) hcv hcl T' rfl X'
    exact ⟨t2, st.trans a1, b1⟩
theorem vx_calld {S SX : Type} {post : UInt64 → S → Prop} {px : SX → Prop} {B : S → State → Prop} {BX : String → SX → State → Prop} {AX : Nat → Prop} (hr : vx_Run p l e R s m args below meth c H locs cells slots mc ms (F0 m pc ls st0) rest (va_Qd post B A1 a) (vx_X px BX AX) free) (hS : va_S A0 H0 H locs) (hA : ∀ q, q < H.size → A1 q → A0 q) (hf : ∀ q, free q → A0 q) (hAX : ∀ q, q < H.size → AX q → A0 q)
    (kx : ∀ (E : String) (ce : Cell) (q9 : Addr) (u : SX) (t : State) (H1 : Heap) (locs1 : List Loc), t.heap = H1 → s.vm.Alike t.vm → px u → BX E u t → H.size ≤ H1.size → (∀ q : Nat, q < H.size → ¬ AX q → H1[q]? = H[q]?) → va_S A0 H0 H1 locs1 → H1[q9]? = some ce → ce.vm = .none → s.vm.findClass E = some ce.cls → vx_W p l e R s m args below meth c H1 locs1 (cells + mc) (slots + ms) Q (F0 m pc ls rest) q9)
    (kk : ∀ (r : UInt64) (u : S) (t : State) (H1 : Heap) (locs1 : List Loc), t.heap = H1 → s.vm.Alike t.vm → post r u → B u t → H.size ≤ H1.size → (∀ q : Nat, q < H.size → ¬ A1 q → H1[q]? = H[q]?) → va_S A0 H0 H1 locs1 → W p l e R s m args below meth c H1 locs1 (cells + mc) (slots + ms) Q (F0 m (pc + 3) ls (.double r :: rest))) : W p l e R s m args below meth c H locs cells slots Q (F0 m pc ls st0) := by
  intro T hT X
  rcases hr T hT X with ⟨v, st₀, t, T', L, h0, X', hL, e1, e2, ⟨⟨r, u, hv, hp, hb⟩, hF⟩, st⟩ | ⟨q, st₀, t, T', L, E, ce, h0, X', hL, e1, e2, ⟨u, hp, hb, hF⟩, hce, hcv, hcl, st⟩
  · cases hv
    obtain ⟨k1, k2, k3⟩ := vx_keep h0 e1 hS hA hf hL hF
    obtain ⟨t2, a1, b1⟩ := kk r u t T'.heap (locs ++ L) e1.symm (by rw [← e2]; exact X'.warmed.alike) hp hb k1 k2 k3 T' rfl X'
    exact ⟨t2, st t2 a1, b1⟩
  · obtain ⟨k1, k2, k3⟩ := vx_keep h0 e1 hS hAX hf hL hF
    obtain ⟨t2, a1, b1⟩ := kx E ce q u t T'.heap (locs ++ L) e1.symm (by rw [← e2]; exact X'.warmed.alike) hp hb k1 k2 k3 (by rw [e1]; exact hce) hcv hcl T' rfl X'
    exact ⟨t2, st.trans a1, b1⟩
theorem vx_callv {S SX : Type} {post : S → Prop} {px : SX → Prop} {B : S → State → Prop} {BX : String → SX → State → Prop} {AX : Nat → Prop} (hr : vx_Run p l e R s m args below meth c H locs cells slots mc ms (F0 m pc ls st0) rest (va_Qv post B A1 a) (vx_X px BX AX) free) (hS : va_S A0 H0 H locs) (hA : ∀ q, q < H.size → A1 q → A0 q) (hf : ∀ q, free q → A0 q) (hAX : ∀ q, q < H.size → AX q → A0 q)
    (kx : ∀ (E : String) (ce : Cell) (q9 : Addr) (u : SX) (t : State) (H1 : Heap) (locs1 : List Loc), t.heap = H1 → s.vm.Alike t.vm → px u → BX E u t → H.size ≤ H1.size → (∀ q : Nat, q < H.size → ¬ AX q → H1[q]? = H[q]?) → va_S A0 H0 H1 locs1 → H1[q9]? = some ce → ce.vm = .none → s.vm.findClass E = some ce.cls → vx_W p l e R s m args below meth c H1 locs1 (cells + mc) (slots + ms) Q (F0 m pc ls rest) q9)
    (kk : ∀ (u : S) (t : State) (H1 : Heap) (locs1 : List Loc), t.heap = H1 → s.vm.Alike t.vm → post u → B u t → H.size ≤ H1.size → (∀ q : Nat, q < H.size → ¬ A1 q → H1[q]? = H[q]?) → va_S A0 H0 H1 locs1 → W p l e R s m args below meth c H1 locs1 (cells + mc) (slots + ms) Q (F0 m (pc + 3) ls (rest))) : W p l e R s m args below meth c H locs cells slots Q (F0 m pc ls st0) := by
  intro T hT X
  rcases hr T hT X with ⟨v, st₀, t, T', L, h0, X', hL, e1, e2, ⟨⟨u, hv, hp, hb⟩, hF⟩, st⟩ | ⟨q, st₀, t, T', L, E, ce, h0, X', hL, e1, e2, ⟨u, hp, hb, hF⟩, hce, hcv, hcl, st⟩
  · cases hv
    obtain ⟨k1, k2, k3⟩ := vx_keep h0 e1 hS hA hf hL hF
    obtain ⟨t2, a1, b1⟩ := kk u t T'.heap (locs ++ L) e1.symm (by rw [← e2]; exact X'.warmed.alike) hp hb k1 k2 k3 T' rfl X'
    exact ⟨t2, st t2 a1, b1⟩
  · obtain ⟨k1, k2, k3⟩ := vx_keep h0 e1 hS hAX hf hL hF
    obtain ⟨t2, a1, b1⟩ := kx E ce q u t T'.heap (locs ++ L) e1.symm (by rw [← e2]; exact X'.warmed.alike) hp hb k1 k2 k3 (by rw [e1]; exact hce) hcv hcl T' rfl X'
    exact ⟨t2, st.trans a1, b1⟩
end Rows
section Ends
variable {p : Program} {l : Launch} {e : Env} {R : Room} {s : State} {m : MethodId} {args : Array Value} {below : List Frame} {meth : Method} {c : Code} {H : Heap} {locs : List Loc} {cells slots : Nat} {Q : State → Prop}
variable {mc ms : Nat} {free : Addr → Prop} {A0 A1 : Nat → Prop} {H0 : Heap} {a : Array Value} {ls : Array Slot} {st0 rest : List Value}
variable {Qc : Array Value → State → Outcome → State → Prop} {XC : String → State → State → Prop}
/-- what a body that may throw owes at its end -/
def vx_MQ (below : List Frame) (Qc : Array Value → State → Outcome → State → Prop) (XC : String → State → State → Prop) (a : Array Value) (s : State) (mc ms : Nat) (free : Addr → Prop) : State → Prop := fun t =>
  ∃ o, t.status = .running ∧ Ended t below o ∧ vx_Q Qc XC mc ms free a s o t
theorem vx_ret {g : JFrame} {mc ms : Nat} (k : W p l e R s m args below meth c H locs cells slots (MQ below Qc args s mc ms free) g) : W p l e R s m args below meth c H locs cells slots (vx_MQ below Qc XC args s mc ms free) g := by
  intro T hT X
  obtain ⟨t, a1, o, b1, b2, b3, b4⟩ := k T hT X
  exact ⟨t, a1, o, b1, b2, Or.inl ⟨b3, b4⟩⟩
/-- not caught here: it goes on to the caller -/
theorem vx_widen {g : JFrame} {q : Addr} {k n : Nat} (h1 : cells ≤ k) (h2 : slots ≤ n) (kk : vx_W p l e R s m args below meth c H locs k n Q g q) : vx_W p l e R s m args below meth c H locs cells slots Q g q := fun T hT X => kk T hT (stand_widen X h1 h2)
theorem vx_out {pc : Nat} {E : String} {ce : Cell} {q : Addr} {mc ms : Nat} (hout : ∀ x ∈ c.exceptionTable.toList, covers x pc = false) (hlocks : meth.locks = false) (hcell : H[q]? = some ce) (hv : ce.vm = .none) (hcl : s.vm.findClass E = some ce.cls)
    (hx : ∀ t : State, t.heap = H → s.vm.Alike t.vm → XC E s t) (hf : ∀ z ∈ locs, free z.base) (hc : cells ≤ mc) (hs : slots ≤ ms) :
    vx_W p l e R s m args below meth c H locs cells slots (vx_MQ below Qc XC args s mc ms free) (F0 m pc ls rest) q := by
  intro T hT X
  obtain ⟨st1, hrun, hend, hW, hsm⟩ := X.leaveThrown q (g := F0 m pc ls rest) rfl rfl rfl hout hlocks
  have hcell9 : (T.setFrames (.throwing q :: below)).heap[q]? = some ce := by
    show T.heap[q]? = some ce
    rw [hT]; exact hcell
  exact ⟨_, st1, .threw q, hrun, hend, Or.inr ⟨q, rfl, E, ce, locs, hx _ hT hW.alike, hcell9, hv, hcl, hW, hsm.mono hc hs, hf⟩⟩
theorem vx_frame {U : State} {k n : Nat} (h : s.sameButNew ({ U with vm := s.vm } : State) locs k n) : s.heap.size ≤ U.heap.size ∧ ∀ q : Nat, q < s.heap.size → (∀ z ∈ locs, z.base ≠ q) → U.heap[q]? = s.heap[q]? := by
  obtain ⟨-, h2, -, -, -, h6⟩ := h
  refine ⟨h2, fun q hq hz => ?_⟩
  obtain ⟨c9, e1, e2, e3, e4⟩ := h6 q _ (Array.getElem?_eq_getElem hq)
  have hs : c9.slots = (s.heap[q]).slots := Array.ext_getElem? fun i => e4 i fun hm => hz _ hm rfl
  have h9 : c9 = s.heap[q] := by
    rw [hs] at e2
    exact e2
  have e5 : U.heap[q]? = some c9 := e1
  rw [e5, h9, Array.getElem?_eq_getElem hq]
/-- the words of a throw but the four that speak of the heap -/
def vx_no (w : Cond) : Bool := decide (w ≠ .isRef (.static Bundle.tN "UNASSIGNED_STACK" Bundle.steD)) && decide (w ≠ .isRef (.static Bundle.tN "SUPPRESSED_SENTINEL" Bundle.listD)) && decide (w ≠ .laysStatic Bundle.tN "UNASSIGNED_STACK" Bundle.steD) && decide (w ≠ .laysStatic Bundle.tN "SUPPRESSED_SENTINEL" Bundle.listD)
def vx_at0 (own : String) (ic : Nat) (X : String) (names : List String) : List Cond := (Bundle.ownAtoms0 own ic X names).filter vx_no
def vx_atS (own : String) (ic : Nat) (X : String) (names : List String) : List Cond := (Bundle.ownAtoms own ic X names).filter vx_no
/-- a word that the tables alone decide, or a good one -/
def vx_ot (w : Cond) : Bool := w.onTables || goodWord w
theorem vx_ot_at {args a' : Array Value} {s U : State} {w : Cond} (hW : s.WarmedH U.vm) (hvm : s.vm = U.vm) (hg : vx_ot w = true) (h : w.before args s = true) : w.before a' U = true := by
  simp only [vx_ot, Bool.or_eq_true] at hg
  rcases hg with hg | hg
  · exact va_tabs hg hvm h
  · exact word_at hW (good_of_word hg) h
/-- a list's words: the good ones out of the method's own list, the others by premises of their own -/
theorem vx_hat {args : Array Value} {s : State} {L B : List Cond} (h1 : ∀ w ∈ L.filter goodWord, w.before args s = true) (h2 : ∀ w ∈ L.filter (fun w => !goodWord w), w ∈ B) (h3 : ∀ w ∈ B, w.before args s = true) : ∀ w ∈ L, w.before args s = true := by
  intro w hw
  by_cases g : goodWord w = true
  · exact h1 w (List.mem_filter.mpr ⟨hw, g⟩)
  · refine h3 w (h2 w (List.mem_filter.mpr ⟨hw, ?_⟩))
    show (!goodWord w) = true
    cases hgw : goodWord w
    · rfl
    · exact absurd hgw g
theorem vx_c {args : Array Value} {s : State} {w : Cond} {B : List Cond} (h : w.before args s = true) (t : ∀ w ∈ B, w.before args s = true) : ∀ w' ∈ w :: B, w'.before args s = true := fun w' h' => (List.mem_cons.mp h').elim (fun e => by rw [e]; exact h) (t w')
theorem vx_n {args : Array Value} {s : State} : ∀ w ∈ ([] : List Cond), w.before args s = true := fun _ h => nomatch h
theorem vx_own {args : Array Value} {s : State} {L : List Cond} (h1 : ∀ w ∈ L.filter vx_no, w.before args s = true)
    (hU : (Cond.isRef (.static Bundle.tN "UNASSIGNED_STACK" Bundle.steD)).before args s = true) (hN : (Cond.isRef (.static Bundle.tN "SUPPRESSED_SENTINEL" Bundle.listD)).before args s = true)
    (lU : (Cond.laysStatic Bundle.tN "UNASSIGNED_STACK" Bundle.steD).before args s = true) (lN : (Cond.laysStatic Bundle.tN "SUPPRESSED_SENTINEL" Bundle.listD).before args s = true) : ∀ w ∈ L, w.before args s = true := by
  intro w hw
  by_cases e1 : w = .isRef (.static Bundle.tN "UNASSIGNED_STACK" Bundle.steD)
  · rw [e1]; exact hU
  · by_cases e2 : w = .isRef (.static Bundle.tN "SUPPRESSED_SENTINEL" Bundle.listD)
    · rw [e2]; exact hN
    · by_cases e3 : w = .laysStatic Bundle.tN "UNASSIGNED_STACK" Bundle.steD
      · rw [e3]; exact lU
      · by_cases e4 : w = .laysStatic Bundle.tN "SUPPRESSED_SENTINEL" Bundle.listD
        · rw [e4]; exact lN
        · exact h1 w (List.mem_filter.mpr ⟨hw, by unfold vx_no; rw [decide_eq_true e1, decide_eq_true e2, decide_eq_true e3, decide_eq_true e4]; rfl⟩)
/-- where a static field lies, its class's statics cell in H -/
def vx_L (C n d : String) (A : Nat → Prop) (U : State) (H : Heap) : Prop := ∃ (c : ClassId) (k : Class) (i : Nat) (f : Field) (a : Nat) (cell : Cell), U.vm.findClass C = some c ∧ U.fieldFound? C n d = some (c, k, i, f) ∧ f.isStatic = true ∧ k.statics = some a ∧ H[a]? = some cell ∧ cell.vm.isStatics = true ∧ cell.cls = c ∧ f.slot < cell.slots.size ∧ k.staticTypes[f.slot]? = some f.type ∧ ¬ A a
theorem vx_L.moved {C n d : String} {A : Nat → Prop} {u U : State} {H : Heap} (hvm : u.vm.Alike U.vm) (h : vx_L C n d A u H) : vx_L C n d A U H := by
  obtain ⟨c, k, i, f, a, cell, h1, h2, h3, h4, h5, h6, h7, h8, h9, h10⟩ := h
  obtain ⟨k', hi', he⟩ := State.fieldFound?_setVm hvm h2
  exact ⟨c, k', i, f, a, cell, by rw [hvm.findClass]; exact h1, hi', h3, by rw [he]; exact h4, h5, h6, h7, h8, by rw [he]; exact h9, h10⟩
theorem vx_L.kept {C n d : String} {A : Nat → Prop} {U : State} {H H1 : Heap} (h : vx_L C n d A U H) (hq : ∀ a : Nat, a < H.size → ¬ A a → H1[a]? = H[a]?) : vx_L C n d A U H1 := by
  obtain ⟨c, k, i, f, a, cell, h1, h2, h3, h4, h5, h6, h7, h8, h9, h10⟩ := h
  exact ⟨c, k, i, f, a, cell, h1, h2, h3, h4, by rw [hq a (Array.getElem?_eq_some_iff.mp h5).1 h10]; exact h5, h6, h7, h8, h9, h10⟩
theorem vx_L.narrow {C n d : String} {A B : Nat → Prop} {U : State} {H : Heap} (h : vx_L C n d A U H) (hAB : ∀ q, B q → A q) : vx_L C n d B U H := by
  obtain ⟨c, k, i, f, a, cell, h1, h2, h3, h4, h5, h6, h7, h8, h9, h10⟩ := h
  exact ⟨c, k, i, f, a, cell, h1, h2, h3, h4, h5, h6, h7, h8, h9, fun z => h10 (hAB _ z)⟩
theorem vx_L.word {C n d : String} {A : Nat → Prop} {s : State} {args : Array Value} (h : vx_L C n d A s s.heap) : (Cond.laysStatic C n d).before args s = true := by
  obtain ⟨c, k, i, f, a, cell, h1, h2, h3, h4, h5, h6, h7, h8, h9, -⟩ := h
  show (Cond.laysStatic C n d).holds args s none s [] = true
  exact Cond.laysStatic_of h1 h2 h3 h4 h5 h6 h7 h8 h9
/-- .. and what it holds: null or some reference -/
def vx_Zq (C n d : String) (A : Nat → Prop) (U : State) (H : Heap) : Prop := va_Zq C n d A U H ∧ vx_L C n d A U H
theorem vx_Zq.moved {C n d : String} {A : Nat → Prop} {u U : State} {H : Heap} (hvm : u.vm.Alike U.vm) (h : vx_Zq C n d A u H) : vx_Zq C n d A U H := ⟨va_Zq.moved hvm h.1, vx_L.moved hvm h.2⟩
theorem vx_Zq.kept {C n d : String} {A : Nat → Prop} {U : State} {H H1 : Heap} (h : vx_Zq C n d A U H) (hq : ∀ a : Nat, a < H.size → ¬ A a → H1[a]? = H[a]?) : vx_Zq C n d A U H1 := ⟨va_Zq.kept h.1 hq, vx_L.kept h.2 hq⟩
theorem vx_Zq.narrow {C n d : String} {A B : Nat → Prop} {U : State} {H : Heap} (h : vx_Zq C n d A U H) (hAB : ∀ q, B q → A q) : vx_Zq C n d B U H := ⟨va_Zq.narrow h.1 hAB, vx_L.narrow h.2 hAB⟩
theorem vx_Zqof {args : Array Value} {s : State} {C n d : String} {A : Nat → Prop} (hl : (Cond.laysStatic C n d).before args s = true) (hini : (Cond.initialized C).before args s = true) (h : (Cond.isRef (.static C n d)).before args s = true) (hA : ∀ a : Nat, a < s.heap.size → ¬ A a) : vx_Zq C n d A s s.heap := by
  refine ⟨va_Zqof hl hini h hA, ?_⟩
  obtain ⟨c, k, i, f, a, cell, h1, h2, h3, h4, h5, h6, h7, h8, h9⟩ := Cond.laysStatic_spec hl
  exact ⟨c, k, i, f, a, cell, h1, h2, h3, h4, h5, h6, h7, h8, h9, hA a (Array.getElem?_eq_some_iff.mp h5).1⟩
theorem vx_isRef {C n d : String} {v : Value} {A : Nat → Prop} {s : State} {args : Array Value} (h : va_Z C n d v A s s.heap) (hv : v.isRef = true) : (Cond.isRef (.static C n d)).before args s = true := by
  obtain ⟨cf, kf, fi, f, a, cell, h1, h2, h3, h4, h5, h6, h7, -⟩ := h
  have he : (Term.static C n d).eval args s none [] s = some v := by
    simp [Term.eval, State.fieldNamed?, h1, h2, h4, h5, h6, h7]
  simp only [Cond.before, Cond.holds, Cond.value, he]
  cases v <;> simp_all [Value.isRef]
theorem vx_isRefq {C n d : String} {A : Nat → Prop} {s : State} {args : Array Value} (h : va_Zq C n d A s s.heap) : (Cond.isRef (.static C n d)).before args s = true := by
  rcases h with h | ⟨t, h⟩
  · exact vx_isRef h rfl
  · exact vx_isRef h rfl
/-- the same frame, seen from here: as if the method were called anew in this heap -/
theorem vx_rebase {T : State} (X : Stand p l e R s m args below meth c T locs cells slots) {R' : Room} (hf : R'.frames ≤ R.frames) (hl : R'.locals ≤ R.locals) (hc : cells + R'.cells ≤ R.cells) (hs : slots + R'.slots ≤ R.slots) :
    Stand p l e R' ((T.setVm s.vm).setFrames (.invoking m args :: below)) m args below meth c T [] 0 0 := by
  have htop : (T.setVm s.vm).topJava?.isSome := X.here.top
  have hF : ((T.setVm s.vm).setFrames (.invoking m args :: below)).frames = .invoking m args :: below := State.frames_setFrames _ (State.cur_lt_of_top htop)
  obtain ⟨g₀, hg0⟩ := Option.isSome_iff_exists.mp htop
  obtain ⟨r, hr⟩ := State.topJava?_eq_some.mp hg0
  have hl9 : e.platform.stackLimits (T.setVm s.vm).me = e.platform.stackLimits s.me := X.limits
  have hb9 : (T.setVm s.vm).me.stackBytes = s.me.stackBytes := X.bytes
  refine ⟨X.admits, X.cas, X.clock, hF, ?_, X.hears, X.method, X.code, X.here, X.tail, X.warmed, ?_, ?_, ?_⟩
  · have h := X.room
    have hU : ((T.setVm s.vm).setFrames (.invoking m args :: below)).localsInUse = s.localsInUse := by
      rw [State.localsInUse_invoking hF (meth := meth) (c := c) X.method X.code, State.localsInUse_invoking X.frames X.method X.code]
    simp only [State.hasRoom, Bool.and_eq_true, decide_eq_true_eq] at h ⊢
    obtain ⟨⟨⟨⟨h1, h2, h3, h4, h5, h6⟩, h7⟩, h8⟩, h9⟩ := h
    rw [X.frames, List.length_cons] at h2 h3
    have q1 := X.heapSize
    have q2 := X.used
    simp only [hF, hU, List.length_cons, State.stackLimits_setFrames, State.stackBytes_setFrames, hl9, hb9]
    refine ⟨⟨⟨⟨by omega, by omega, by omega, by omega, by omega, h6⟩, ?_⟩, ?_⟩, X.book⟩
    · show T.heap.size + R'.cells ≤ e.platform.maxCells
      omega
    · show T.slotsUsed + R'.slots ≤ e.platform.maxSlots
      omega
  · rw [State.stackLimits_setFrames]; rfl
  · rw [State.stackBytes_setFrames]; rfl
  · refine ⟨?_, Nat.le_refl _, Nat.le_refl _, ?_, ?_, fun a c9 h9 => ⟨c9, h9, rfl, rfl, fun _ _ => rfl⟩⟩
    · obtain ⟨t, ht, -⟩ := State.frames_cons hr
      show T.setVm s.vm = { ((T.setVm s.vm).setFrames (.invoking m args :: below)).setFrames (T.setVm s.vm).frames with heap := T.heap, slotsUsed := T.slotsUsed }
      rw [State.setFrames_setFrames, State.setFrames_self ht]
      rfl
    · show T.slotsUsed = T.slotsUsed + ((T.heap.toList.drop T.heap.size).map (·.slots.size)).sum
      rw [List.drop_eq_nil_of_le (Nat.le_of_eq Array.length_toList)]
      rfl
    · show ((T.heap.toList.drop T.heap.size).map (·.slots.size)).sum ≤ 0
      rw [List.drop_eq_nil_of_le (Nat.le_of_eq Array.length_toList)]
      exact Nat.le_refl _
/-- 'throw new E()': new; dup; invokespecial; athrow -/
theorem vx_throw0 {cc : ByteArray} {pc : Nat} (hexec : p.tables.exec = Jvm.exec) (hb : c.code = cc) (hl : l.stackTraces = false) {own cls : String} {names : List String} {ik ic mc ms : Nat} {A : Nat → Prop}
    (hown : s.vm.findClass own = some m.cls) (hcls : Bundle.fit cls = true) (hnames : ∀ n ∈ names, Bundle.fit n = true)
    (hk : (Cond.classLink own ik cls).before args s = true) (hini : (Cond.initialized cls).before args s = true) (hat : ∀ w ∈ vx_at0 own ic cls names, w.before args s = true)
    (hgood : ∀ w ∈ Cond.classLink own ik cls :: Cond.initialized cls :: vx_at0 own ic cls names, vx_ot w = true)
    (hU : vx_Zq Bundle.tN "UNASSIGNED_STACK" Bundle.steD A s s.heap) (hN : vx_Zq Bundle.tN "SUPPRESSED_SENTINEL" Bundle.listD A s s.heap) (hS : va_S A s.heap H locs) (hsize : ls.size = c.maxLocals)
    (d0 : decode cc pc = .ok (.new ik, 3)) (d3 : decode cc (pc + 3) = .ok (.dup, 1)) (d4 : decode cc (pc + 4) = .ok (.invokespecial ic, 3)) (d7 : decode cc (pc + 7) = .ok (.athrow, 1))
    (hout : ∀ x ∈ c.exceptionTable.toList, covers x (pc + 7) = false)
    (hRframes : names.length + 3 < R.frames) (hRlocals : (rest.map fun v => v.category).sum + (13 * (names.length + 1) + 42) ≤ R.locals) (hRcells : cells + 1 ≤ R.cells) (hRslots : slots + 6 ≤ R.slots) (hlocks : meth.locks = false)
    (hx : ∀ t : State, s.vm.Alike t.vm → H.size ≤ t.heap.size → (∀ q : Nat, q < H.size → t.heap[q]? = H[q]?) → XC cls s t)
    (hf : ∀ z ∈ locs, free z.base) (hc : cells + 1 ≤ mc) (hs : slots + 6 ≤ ms) :
    W p l e R s m args below meth c H locs cells slots (vx_MQ below Qc XC args s mc ms free) (F0 m pc ls rest) := by
  intro T hT X
  have htr : e.platform.stackTraces = false := (show e.platform.stackTraces = l.stackTraces by rw [X.admits.platform]).trans hl
  have Y := vx_rebase X (R' := { frames := R.frames, locals := R.locals, cells := 1, slots := 6 }) (Nat.le_refl _) (Nat.le_refl _) hRcells hRslots
  obtain ⟨s', hA⟩ : ∃ z, z = (T.setVm s.vm).setFrames (.invoking m args :: below) := ⟨_, rfl⟩
  rw [← hA] at Y
  have hvm : s'.vm = s.vm := by rw [hA]; rfl
  have hhp : s'.heap = H := by rw [hA]; exact hT
  have hW0 : s.WarmedH s'.vm := by rw [hvm]; exact State.WarmedH.refl s
  have hat' : ∀ w ∈ vx_at0 own ic cls names, w.before args s' = true := fun w hw => vx_ot_at hW0 hvm.symm (hgood w (List.mem_cons_of_mem _ (List.mem_cons_of_mem _ hw))) (hat w hw)
  have hk' : (Cond.classLink own ik cls).before args s' = true := vx_ot_at hW0 hvm.symm (hgood _ List.mem_cons_self) hk
  have hini' : (Cond.initialized cls).before args s' = true := vx_ot_at hW0 hvm.symm (hgood _ (List.mem_cons_of_mem _ List.mem_cons_self)) hini
  have hU' : vx_Zq Bundle.tN "UNASSIGNED_STACK" Bundle.steD A s' s'.heap := by rw [hhp]; exact vx_Zq.moved hW0.alike (hU.kept hS.2.1)
  have hN' : vx_Zq Bundle.tN "SUPPRESSED_SENTINEL" Bundle.listD A s' s'.heap := by rw [hhp]; exact vx_Zq.moved hW0.alike (hN.kept hS.2.1)
  have h : ∀ w ∈ Bundle.ownAtoms0 own ic cls names, w.before args s' = true := vx_own hat' (vx_isRefq hU'.1) (vx_isRefq hN'.1) hU'.2.word hN'.2.word
  have hown' : s'.vm.findClass own = some m.cls := by rw [hvm]; exact hown
  have hins : (Cond.instantiable cls 6).before args s' = true := h _ (by simp [Bundle.ownAtoms0])
  obtain ⟨vm₁, cX, kX, hfX, hkX, -, -, X₁, st1⟩ := Y.newCold hexec (own := own) (C := cls) (index := ik) (n := 6) hown' hk' hins hini'
    (g := F0 m pc ls rest) rfl (by rw [hb]; exact d0) (Nat.le_refl _) (Nat.le_refl _)
  generalize hT1 : (T.setVm vm₁).pushCell { cls := cX, slots := kX.instanceTypes.map defaultValue, vm := .none } = T1 at X₁ st1
  have hcat : (Value.ref T.heap.size).category = 1 := rfl
  have hcellA : T1.heap[T.heap.size]? = some (freshCell cX kX) := by rw [← hT1]; exact State.heap_pushCell_size _ _
  have d3' : decode c.code (pc + 3) = .ok (.dup, 1) := by rw [hb]; exact d3
  obtain ⟨U, hsteps, hrun, hend, hW, hsame, ce, hce, hO⟩ := X₁.ctorThrow0 hexec htr (own := own) (cls := cls) (names := names) (ic := ic) hown' hcls hnames h (fun x hx => nomatch hx) hfX hkX hcellA (by rw [hhp, hT]; exact Nat.le_refl _)
    (g := { method := m, pc := pc + 4, locals := ls, stack := .ref T.heap.size :: .ref T.heap.size :: rest, locked := none }) rfl hsize rfl rfl (rest := rest) rfl
    (by rw [hb]; exact d4) (by rw [hb]; exact d7) hout hRframes (by simp only [List.map_cons, List.sum_cons, hcat]; omega) hlocks
  obtain ⟨f1, f2⟩ := vx_frame hsame
  rw [hhp] at f1 f2
  have hWs : s.WarmedH U.vm := State.WarmedH.trans hW0 hW
  have hcl : s.vm.findClass cls = some ce.cls := by
    have h9 := hO.cls
    rw [hvm] at h9
    exact h9
  have hall : s.sameButNew ({ U with vm := s.vm } : State) locs mc ms := by
    subst hA
    obtain ⟨e1, e2⟩ := hsame
    rw [State.setFrames_setFrames] at e1
    have h2 : (T.setVm s.vm).sameButNew ({ U with vm := s.vm } : State) [] (0 + 1) (0 + 6) := ⟨e1, e2⟩
    have h3 := X.same.trans h2
    rw [List.append_nil] at h3
    exact h3.mono hc hs
  refine ⟨U, ?_, .threw T.heap.size, hrun, hend, Or.inr ⟨T.heap.size, rfl, cls, ce, locs, hx U hWs.alike f1 (fun q hq => f2 q hq (fun z hz => nomatch hz)), hce, hO.vm, hcl, hWs, hall, hf⟩⟩
  refine st1 _ ?_
  show Steps p.tables e below (T1.setTop { method := m, pc := pc + 3, locals := ls, stack := .ref T.heap.size :: rest, locked := none }) _
  jvm_step X₁.here [X₁.here.top, hexec, d3', Value.category]
  exact hsteps
/-- 'throw new E("text")': new; dup; ldc; invokespecial; athrow -/
theorem vx_throwS {cc : ByteArray} {pc : Nat} (hexec : p.tables.exec = Jvm.exec) (hb : c.code = cc) (hl : l.stackTraces = false) {own cls text : String} {names : List String} {ik is ic mc ms sa : Nat} {A : Nat → Prop}
    (hown : s.vm.findClass own = some m.cls) (hcls : Bundle.fit cls = true) (hnames : ∀ n ∈ names, Bundle.fit n = true)
    (hk : (Cond.classLink own ik cls).before args s = true) (hini : (Cond.initialized cls).before args s = true) (hstr : vk_R own is text sa s) (hat : ∀ w ∈ vx_atS own ic cls names, w.before args s = true)
    (hgood : ∀ w ∈ Cond.classLink own ik cls :: Cond.initialized cls :: vx_atS own ic cls names, vx_ot w = true)
    (hU : vx_Zq Bundle.tN "UNASSIGNED_STACK" Bundle.steD A s s.heap) (hN : vx_Zq Bundle.tN "SUPPRESSED_SENTINEL" Bundle.listD A s s.heap) (hS : va_S A s.heap H locs) (hsize : ls.size = c.maxLocals)
    (d0 : decode cc pc = .ok (.new ik, 3)) (d3 : decode cc (pc + 3) = .ok (.dup, 1)) (d4 : decode cc (pc + 4) = .ok (.ldc is, 2)) (d6 : decode cc (pc + 6) = .ok (.invokespecial ic, 3)) (d9 : decode cc (pc + 9) = .ok (.athrow, 1))
    (hout : ∀ x ∈ c.exceptionTable.toList, covers x (pc + 9) = false)
    (hRframes : names.length + 3 < R.frames) (hRlocals : (rest.map fun v => v.category).sum + (13 * (names.length + 1) + 43) ≤ R.locals) (hRcells : cells + 1 ≤ R.cells) (hRslots : slots + 6 ≤ R.slots) (hlocks : meth.locks = false)
    (hx : ∀ t : State, s.vm.Alike t.vm → H.size ≤ t.heap.size → (∀ q : Nat, q < H.size → t.heap[q]? = H[q]?) → XC cls s t)
    (hf : ∀ z ∈ locs, free z.base) (hc : cells + 1 ≤ mc) (hs : slots + 6 ≤ ms) :
    W p l e R s m args below meth c H locs cells slots (vx_MQ below Qc XC args s mc ms free) (F0 m pc ls rest) := by
  intro T hT X
  have htr : e.platform.stackTraces = false := (show e.platform.stackTraces = l.stackTraces by rw [X.admits.platform]).trans hl
  have Y := vx_rebase X (R' := { frames := R.frames, locals := R.locals, cells := 1, slots := 6 }) (Nat.le_refl _) (Nat.le_refl _) hRcells hRslots
  obtain ⟨s', hA⟩ : ∃ z, z = (T.setVm s.vm).setFrames (.invoking m args :: below) := ⟨_, rfl⟩
  rw [← hA] at Y
  have hvm : s'.vm = s.vm := by rw [hA]; rfl
  have hhp : s'.heap = H := by rw [hA]; exact hT
  have hW0 : s.WarmedH s'.vm := by rw [hvm]; exact State.WarmedH.refl s
  have hat' : ∀ w ∈ vx_atS own ic cls names, w.before args s' = true := fun w hw => vx_ot_at hW0 hvm.symm (hgood w (List.mem_cons_of_mem _ (List.mem_cons_of_mem _ hw))) (hat w hw)
  have hk' : (Cond.classLink own ik cls).before args s' = true := vx_ot_at hW0 hvm.symm (hgood _ List.mem_cons_self) hk
  have hini' : (Cond.initialized cls).before args s' = true := vx_ot_at hW0 hvm.symm (hgood _ (List.mem_cons_of_mem _ List.mem_cons_self)) hini
  have hU' : vx_Zq Bundle.tN "UNASSIGNED_STACK" Bundle.steD A s' s'.heap := by rw [hhp]; exact vx_Zq.moved hW0.alike (hU.kept hS.2.1)
  have hN' : vx_Zq Bundle.tN "SUPPRESSED_SENTINEL" Bundle.listD A s' s'.heap := by rw [hhp]; exact vx_Zq.moved hW0.alike (hN.kept hS.2.1)
  have h : ∀ w ∈ Bundle.ownAtoms own ic cls names, w.before args s' = true := vx_own hat' (vx_isRefq hU'.1) (vx_isRefq hN'.1) hU'.2.word hN'.2.word
  have hown' : s'.vm.findClass own = some m.cls := by rw [hvm]; exact hown
  have hins : (Cond.instantiable cls 6).before args s' = true := h _ (by simp [Bundle.ownAtoms])
  obtain ⟨vm₁, cX, kX, hfX, hkX, -, -, X₁, st1⟩ := Y.newCold hexec (own := own) (C := cls) (index := ik) (n := 6) hown' hk' hins hini'
    (g := F0 m pc ls rest) rfl (by rw [hb]; exact d0) (Nat.le_refl _) (Nat.le_refl _)
  generalize hT1 : (T.setVm vm₁).pushCell { cls := cX, slots := kX.instanceTypes.map defaultValue, vm := .none } = T1 at X₁ st1
  have hcat : (Value.ref T.heap.size).category = 1 := rfl
  have hcellA : T1.heap[T.heap.size]? = some (freshCell cX kX) := by rw [← hT1]; exact State.heap_pushCell_size _ _
  have d3' : decode c.code (pc + 3) = .ok (.dup, 1) := by rw [hb]; exact d3
  have d4' : decode c.code (pc + 4) = .ok (.ldc is, 2) := by rw [hb]; exact d4
  have hstr' : vk_R own is text sa s' := vk_R.warm hW0 hstr
  obtain ⟨U, hsteps, hrun, hend, hW, hsame, ce, hce, hO⟩ := X₁.ctorThrowS hexec htr (own := own) (cls := cls) (names := names) (ic := ic) hown' hcls hnames h (fun x hx => nomatch hx) hfX hkX hcellA (by rw [hhp, hT]; exact Nat.le_refl _) (msg := .ref sa) rfl
    (g := { method := m, pc := pc + 6, locals := ls, stack := .ref sa :: .ref T.heap.size :: .ref T.heap.size :: rest, locked := none }) rfl hsize rfl rfl (rest := rest) rfl
    (by rw [hb]; exact d6) (by rw [hb]; exact d9) hout hRframes (by simp only [List.map_cons, List.sum_cons, hcat]; omega) hlocks
  obtain ⟨f1, f2⟩ := vx_frame hsame
  rw [hhp] at f1 f2
  have hWs : s.WarmedH U.vm := State.WarmedH.trans hW0 hW
  have hcl : s.vm.findClass cls = some ce.cls := by
    have h9 := hO.cls
    rw [hvm] at h9
    exact h9
  have hall : s.sameButNew ({ U with vm := s.vm } : State) locs mc ms := by
    subst hA
    obtain ⟨e1, e2⟩ := hsame
    rw [State.setFrames_setFrames] at e1
    have h2 : (T.setVm s.vm).sameButNew ({ U with vm := s.vm } : State) [] (0 + 1) (0 + 6) := ⟨e1, e2⟩
    have h3 := X.same.trans h2
    rw [List.append_nil] at h3
    exact h3.mono hc hs
  refine ⟨U, ?_, .threw T.heap.size, hrun, hend, Or.inr ⟨T.heap.size, rfl, cls, ce, locs, hx U hWs.alike f1 (fun q hq => f2 q hq (fun z hz => nomatch hz)), hce, hO.vm, hcl, hWs, hall, hf⟩⟩
  refine st1 _ ?_
  show Steps p.tables e below (T1.setTop { method := m, pc := pc + 3, locals := ls, stack := .ref T.heap.size :: rest, locked := none }) _
  jvm_step X₁.here [X₁.here.top, hexec, d3', Value.category]
  exact X₁.ldcString hexec (own := own) (text := text) (index := is) (a := sa) hown' hstr'.1 hstr'.2
    (g := { method := m, pc := pc + 4, locals := ls, stack := .ref T.heap.size :: .ref T.heap.size :: rest, locked := none }) rfl d4' _ hsteps
/-- 'throw new E("text")', the text by a wide index -/
theorem vx_throwSW {cc : ByteArray} {pc : Nat} (hexec : p.tables.exec = Jvm.exec) (hb : c.code = cc) (hl : l.stackTraces = false) {own cls text : String} {names : List String} {ik is ic mc ms sa : Nat} {A : Nat → Prop}
    (hown : s.vm.findClass own = some m.cls) (hcls : Bundle.fit cls = true) (hnames : ∀ n ∈ names, Bundle.fit n = true)
    (hk : (Cond.classLink own ik cls).before args s = true) (hini : (Cond.initialized cls).before args s = true) (hstr : vk_R own is text sa s) (hat : ∀ w ∈ vx_atS own ic cls names, w.before args s = true)
    (hgood : ∀ w ∈ Cond.classLink own ik cls :: Cond.initialized cls :: vx_atS own ic cls names, vx_ot w = true)
    (hU : vx_Zq Bundle.tN "UNASSIGNED_STACK" Bundle.steD A s s.heap) (hN : vx_Zq Bundle.tN "SUPPRESSED_SENTINEL" Bundle.listD A s s.heap) (hS : va_S A s.heap H locs) (hsize : ls.size = c.maxLocals)
    (d0 : decode cc pc = .ok (.new ik, 3)) (d3 : decode cc (pc + 3) = .ok (.dup, 1)) (d4 : decode cc (pc + 4) = .ok (.ldc_w is, 3)) (d7 : decode cc (pc + 7) = .ok (.invokespecial ic, 3)) (d10 : decode cc (pc + 10) = .ok (.athrow, 1))
    (hout : ∀ x ∈ c.exceptionTable.toList, covers x (pc + 10) = false)
    (hRframes : names.length + 3 < R.frames) (hRlocals : (rest.map fun v => v.category).sum + (13 * (names.length + 1) + 43) ≤ R.locals) (hRcells : cells + 1 ≤ R.cells) (hRslots : slots + 6 ≤ R.slots) (hlocks : meth.locks = false)
    (hx : ∀ t : State, s.vm.Alike t.vm → H.size ≤ t.heap.size → (∀ q : Nat, q < H.size → t.heap[q]? = H[q]?) → XC cls s t)
    (hf : ∀ z ∈ locs, free z.base) (hc : cells + 1 ≤ mc) (hs : slots + 6 ≤ ms) :
    W p l e R s m args below meth c H locs cells slots (vx_MQ below Qc XC args s mc ms free) (F0 m pc ls rest) := by
  intro T hT X
  have htr : e.platform.stackTraces = false := (show e.platform.stackTraces = l.stackTraces by rw [X.admits.platform]).trans hl
  have Y := vx_rebase X (R' := { frames := R.frames, locals := R.locals, cells := 1, slots := 6 }) (Nat.le_refl _) (Nat.le_refl _) hRcells hRslots
  obtain ⟨s', hA⟩ : ∃ z, z = (T.setVm s.vm).setFrames (.invoking m args :: below) := ⟨_, rfl⟩
  rw [← hA] at Y
  have hvm : s'.vm = s.vm := by rw [hA]; rfl
  have hhp : s'.heap = H := by rw [hA]; exact hT
  have hW0 : s.WarmedH s'.vm := by rw [hvm]; exact State.WarmedH.refl s
  have hat' : ∀ w ∈ vx_atS own ic cls names, w.before args s' = true := fun w hw => vx_ot_at hW0 hvm.symm (hgood w (List.mem_cons_of_mem _ (List.mem_cons_of_mem _ hw))) (hat w hw)
  have hk' : (Cond.classLink own ik cls).before args s' = true := vx_ot_at hW0 hvm.symm (hgood _ List.mem_cons_self) hk
  have hini' : (Cond.initialized cls).before args s' = true := vx_ot_at hW0 hvm.symm (hgood _ (List.mem_cons_of_mem _ List.mem_cons_self)) hini
  have hU' : vx_Zq Bundle.tN "UNASSIGNED_STACK" Bundle.steD A s' s'.heap := by rw [hhp]; exact vx_Zq.moved hW0.alike (hU.kept hS.2.1)
  have hN' : vx_Zq Bundle.tN "SUPPRESSED_SENTINEL" Bundle.listD A s' s'.heap := by rw [hhp]; exact vx_Zq.moved hW0.alike (hN.kept hS.2.1)
  have h : ∀ w ∈ Bundle.ownAtoms own ic cls names, w.before args s' = true := vx_own hat' (vx_isRefq hU'.1) (vx_isRefq hN'.1) hU'.2.word hN'.2.word
  have hown' : s'.vm.findClass own = some m.cls := by rw [hvm]; exact hown
  have hins : (Cond.instantiable cls 6).before args s' = true := h _ (by simp [Bundle.ownAtoms])
  obtain ⟨vm₁, cX, kX, hfX, hkX, -, -, X₁, st1⟩ := Y.newCold hexec (own := own) (C := cls) (index := ik) (n := 6) hown' hk' hins hini'
    (g := F0 m pc ls rest) rfl (by rw [hb]; exact d0) (Nat.le_refl _) (Nat.le_refl _)
  generalize hT1 : (T.setVm vm₁).pushCell { cls := cX, slots := kX.instanceTypes.map defaultValue, vm := .none } = T1 at X₁ st1
  have hcat : (Value.ref T.heap.size).category = 1 := rfl
  have hcellA : T1.heap[T.heap.size]? = some (freshCell cX kX) := by rw [← hT1]; exact State.heap_pushCell_size _ _
  have d3' : decode c.code (pc + 3) = .ok (.dup, 1) := by rw [hb]; exact d3
  have d4' : decode c.code (pc + 4) = .ok (.ldc_w is, 3) := by rw [hb]; exact d4
  have hstr' : vk_R own is text sa s' := vk_R.warm hW0 hstr
  obtain ⟨U, hsteps, hrun, hend, hW, hsame, ce, hce, hO⟩ := X₁.ctorThrowS hexec htr (own := own) (cls := cls) (names := names) (ic := ic) hown' hcls hnames h (fun x hx => nomatch hx) hfX hkX hcellA (by rw [hhp, hT]; exact Nat.le_refl _) (msg := .ref sa) rfl
    (g := { method := m, pc := pc + 7, locals := ls, stack := .ref sa :: .ref T.heap.size :: .ref T.heap.size :: rest, locked := none }) rfl hsize rfl rfl (rest := rest) rfl
    (by rw [hb]; exact d7) (by rw [hb]; exact d10) hout hRframes (by simp only [List.map_cons, List.sum_cons, hcat]; omega) hlocks
  obtain ⟨f1, f2⟩ := vx_frame hsame
  rw [hhp] at f1 f2
  have hWs : s.WarmedH U.vm := State.WarmedH.trans hW0 hW
  have hcl : s.vm.findClass cls = some ce.cls := by
    have h9 := hO.cls
    rw [hvm] at h9
    exact h9
  have hall : s.sameButNew ({ U with vm := s.vm } : State) locs mc ms := by
    subst hA
    obtain ⟨e1, e2⟩ := hsame
    rw [State.setFrames_setFrames] at e1
    have h2 : (T.setVm s.vm).sameButNew ({ U with vm := s.vm } : State) [] (0 + 1) (0 + 6) := ⟨e1, e2⟩
    have h3 := X.same.trans h2
    rw [List.append_nil] at h3
    exact h3.mono hc hs
  refine ⟨U, ?_, .threw T.heap.size, hrun, hend, Or.inr ⟨T.heap.size, rfl, cls, ce, locs, hx U hWs.alike f1 (fun q hq => f2 q hq (fun z hz => nomatch hz)), hce, hO.vm, hcl, hWs, hall, hf⟩⟩
  refine st1 _ ?_
  show Steps p.tables e below (T1.setTop { method := m, pc := pc + 3, locals := ls, stack := .ref T.heap.size :: rest, locked := none }) _
  jvm_step X₁.here [X₁.here.top, hexec, d3', Value.category]
  exact X₁.ldcStringW hexec (own := own) (text := text) (index := is) (a := sa) hown' hstr'.1 hstr'.2
    (g := { method := m, pc := pc + 4, locals := ls, stack := .ref T.heap.size :: .ref T.heap.size :: rest, locked := none }) rfl d4' _ hsteps
end Ends
section Bodies
variable {l : Launch}
theorem vx_ofW {y : MethodName} {ws ws' : List Cond} {rm : Room} {Pc : Array Value → State → Prop} {Qc : Array Value → State → Outcome → State → Prop} {XC : String → State → State → Prop} {mc ms : Nat} {free : Addr → Prop} {cc : ByteArray} {maxL : Nat} {ret : Option FieldType}
    (hy : plainName y.cls = true) (hw : ws = Cond.code y cc maxL ret :: ws')
    (body : ∀ p e s m args below meth c s₁, BodyLoose p l y (headSpec ws rm) cc maxL ret e s m args below meth c s₁ → c.maxLocals = maxL → (∀ x ∈ c.exceptionTable.toList, False) → Pc args s →
      W p l e (headSpec ws rm).room s m args below meth c s.heap [] 0 0 (vx_MQ below Qc XC args s mc ms free) (entryFrame m args maxL)) : vx_Met l y ws rm Pc Qc XC mc ms free := by
  refine MetFree.of_bodyS (code := cc) (maxLocals := maxL) (ret := ret) hy ?_ ?_
  · intro args s m h hn
    obtain ⟨meth, c, h1, h2, h3, h4, h5, h6, -, -⟩ := Cond.code_spec hn (atoms_spec (ws := ws) h _ (by rw [hw]; exact List.mem_cons_self))
    exact ⟨meth, c, h1, h2, h3, h4, h5, h6⟩
  · intro p e s m args below meth c s₁ B hml hP _
    have hh0 : s₁.heap = s.heap := by rw [B.state]; rfl
    have ht : ∀ x ∈ c.exceptionTable.toList, False := by
      obtain ⟨meth9, c9, h1, h2, -, -, -, -, h7, -⟩ := Cond.code_spec B.named (atoms_spec (ws := ws) B.pre _ (by rw [hw]; exact List.mem_cons_self))
      cases Option.some.inj (h1.symm.trans B.method)
      cases Option.some.inj (h2.symm.trans (Stand.of_body B).code)
      intro x hx
      rw [Array.isEmpty_iff.mp h7] at hx
      cases hx
    obtain ⟨t, a1, o, b1, b2, b3⟩ := body p e s m args below meth c s₁ B hml ht hP s₁ hh0 (Stand.of_body B)
    exact ⟨t, o, a1, b1, b2, b3⟩
/-- the table of a body with handlers -/
theorem vx_table {p : Program} {x y : MethodName} {S : Spec} {cc bytes : ByteArray} {maxL maxL' : Nat} {ret ret' : Option FieldType} {e : Env} {s s₁ : State} {m : MethodId} {args : Array Value} {below : List Frame} {meth : Method} {c : Code} {hh : List (Nat × Nat × Nat × Nat)}
    (B : BodyLoose p l y S cc maxL ret e s m args below meth c s₁) (h : (Cond.codeWith y bytes maxL' ret' hh).before args s = true) : c.exceptionTable.toList = tableOf hh := by
  obtain ⟨m9, meth9, c9, hn9, h1, h2, -, -, h6, -⟩ := Cond.codeWith_spec h
  cases Option.some.inj (hn9.symm.trans B.named)
  cases Option.some.inj (h1.symm.trans B.method)
  cases Option.some.inj (h2.symm.trans (Stand.of_body B).code)
  rw [← h6, table_eq]
end Bodies
end VXA
/-! ===== END ===== -/
/-! ===== BEGIN a static call of a method with an exception table ===== -/
section VXS
variable {p : Program} {l : Launch} {e : Env} {R : Room} {s : State} {m : MethodId} {args : Array Value} {below : List Frame} {meth : Method} {c : Code} {T : State} {H : Heap} {locs : List Loc} {cells slots : Nat}
abbrev vx_CSW (R : Room) (s : State) (args : Array Value) (own : String) (index : Nat) (y : MethodName) (bytes : ByteArray) (maxL : Nat) (ret : Option FieldType) (hh : List (Nat × Nat × Nat × Nat)) (ws : List Cond) (rm : Room) (mc ms n : Nat) : Prop :=
  (rm.cells = mc ∧ rm.slots = ms ∧ rm.frames + 1 ≤ R.frames ∧ 8 + (maxL + 11) + rm.locals ≤ R.locals ∧ (∀ w ∈ ws, ∀ (a' : Array Value) (U : State), s.WarmedH U.vm → w.before a' U = true) ∧ Cond.codeWith y bytes maxL ret hh ∈ ws) ∧
  (Cond.codeWith y bytes maxL ret hh).before args s = true ∧ (Cond.initialized y.cls).before args s = true ∧ (y.cls ≠ "java/lang/invoke/MethodHandle" ∧ y.cls ≠ "java/lang/invoke/VarHandle") ∧
  (∀ sig, parseMethodDescriptor y.desc = some sig → n = sig.parameters.length) ∧ (Cond.methodLink own index y).before args s = true ∧ (Cond.static y).before args s = true
theorem vx_cwSW {own : String} {index maxL mc ms : Nat} {y : MethodName} {bytes : ByteArray} {ret : Option FieldType} {hh : List (Nat × Nat × Nat × Nat)} {Ts ws ws' : List Cond} {rm : Room} (n : Nat) (ht : ∀ w ∈ Ts, w.before args s = true) (hT : GoodIn Ts (va_wsS own index y ws)) (hw : ws = Cond.codeWith y bytes maxL ret hh :: ws') (hrc : rm.cells = mc) (hrs : rm.slots = ms)
    (hd : y.cls ≠ "java/lang/invoke/MethodHandle" ∧ y.cls ≠ "java/lang/invoke/VarHandle" ∧ (parseMethodDescriptor y.desc).map (fun d => d.parameters.length) = some n) (hR : rm.frames + 1 ≤ R.frames ∧ 8 + (maxL + 11) + rm.locals ≤ R.locals) :
    vx_CSW R s args own index y bytes maxL ret hh ws rm mc ms n := by
  have ok : ∀ w ∈ va_wsS own index y ws, w.before args s = true := fun w h => ht w (hT w h).1
  have hG : GoodIn Ts ws := fun w h => hT w (by unfold va_wsS; exact List.mem_append_right _ h)
  have hc : Cond.codeWith y bytes maxL ret hh ∈ ws := by rw [hw]; exact List.mem_cons_self
  refine ⟨⟨hrc, hrs, hR.1, hR.2, pay_in ht hG, hc⟩, ht _ (hG _ hc).1, ok _ (by simp [va_wsS]), ⟨hd.1, hd.2.1⟩, fun sig h => ?_, ok _ (by simp [va_wsS]), ok _ (by simp [va_wsS])⟩
  have h2 := hd.2.2
  rw [h] at h2
  exact (Option.some.inj h2).symm
theorem vx_callSW (X : Stand p l e R s m args below meth c T locs cells slots) (hexec : p.tables.exec = Jvm.exec) {own : String} {index : Nat} {y : MethodName} {bytes : ByteArray} {maxL : Nat} {ret : Option FieldType} {hh : List (Nat × Nat × Nat × Nat)}
    (hown : s.vm.findClass own = some m.cls) (hlink : (Cond.methodLink own index y).before args s = true) (hstat : (Cond.static y).before args s = true) (hinit : (Cond.initialized y.cls).before args s = true)
    (hcode : (Cond.codeWith y bytes maxL ret hh).before args s = true) (hy : y.cls ≠ "java/lang/invoke/MethodHandle" ∧ y.cls ≠ "java/lang/invoke/VarHandle")
    {W9 : Nat} {Pre : Pt → Array Value → Prop} {Post : Pt → Array Value → Option Value → Pt → Prop} (hK : Back l R p e below s args y 3 W9 Pre Post)
    {g : JFrame} (hg : g.method = m) (hsize : g.locals.size = c.maxLocals) {argsL rest : List Value} (hlen : ∀ sig, parseMethodDescriptor y.desc = some sig → argsL.length = sig.parameters.length)
    (hstack : g.stack = argsL.reverse ++ rest) (hW : 2 * g.monitorRoom + (rest.map fun v => v.category).sum ≤ W9) (hdg : decode c.code g.pc = .ok (.invokestatic index, 3))
    (hpre : ∀ vm₁, s.WarmedH vm₁ → Pre ⟨T.setVm vm₁, locs, cells, slots⟩ argsL.toArray) :
    ∃ (v : Option Value) (vm₁ : Vm) (B : Pt), s.WarmedH vm₁ ∧ Stand p l e R s m args below meth c B.U B.locs B.cells B.slots ∧ Post ⟨T.setVm vm₁, locs, cells, slots⟩ argsL.toArray v B ∧
      ∀ target, Steps p.tables e below (B.U.setTop { g with pc := g.pc + 3, stack := v.toList ++ rest }) target → Steps p.tables e below (T.setTop g) target := by
  obtain ⟨mk, methM, cM, hnamed, hmethM, -, -, -, -, -, -, hsigM⟩ := Cond.codeWith_spec hcode
  have hstatic : methM.isStatic = true := Cond.static_spec hnamed hmethM hstat
  obtain ⟨kP, hkP, -⟩ := className_of_methodNamed hnamed
  have hinitP : kP.init = .initialized := Cond.initialized_spec (findClass_of_methodNamed hnamed) hkP hinit
  obtain ⟨vm₁, X₁, hstep₁⟩ := X.invokestatic hexec hown hlink hnamed hmethM hstatic hkP hinitP hy (g := g) hg (argsL := argsL) (rest := rest) (hlen _ hsigM) hstack hdg
  obtain ⟨v, B, X', hpost, hsteps⟩ := hK m meth c ⟨T.setVm vm₁, locs, cells, slots⟩ { g with stack := rest } (.invokestatic index) mk argsL.toArray X₁ hg hsize hdg hW (X₁.named hnamed) (hpre vm₁ X₁.warmed)
  exact ⟨v, vm₁, B, X₁.warmed, X', hpost, fun target h => hstep₁ _ fun acts => by rw [doInvoke_state]; exact hsteps.trans h⟩
theorem vx_runSW {y : MethodName} {bytes cc : ByteArray} {maxL nL mc ms n index : Nat} {ret : Option FieldType} {hh : List (Nat × Nat × Nat × Nat)} {ws : List Cond} {rm : Room} {Pc : Array Value → State → Prop} {Qc : Array Value → State → Outcome → State → Prop} {free : Addr → Prop} {Ts : List Cond} {own : String} {As rest : List Value} {g : JFrame}
    (S : CallFix p m c cc nL s args Ts own) (hM : Met l y ws rm Pc Qc mc ms free) (cw : vx_CSW R s args own index y bytes maxL ret hh ws rm mc ms n) (hp : PreS s H Pc As)
    (hg : g.method = m) (hn : As.length = n) (hsize : g.locals.size = nL) (hstack : g.stack = As.reverse ++ rest) (hW : 2 * g.monitorRoom + (rest.map fun v => v.category).sum ≤ 8) (hdg : decode cc g.pc = .ok (.invokestatic index, 3)) (hf : cells + mc ≤ R.cells ∧ slots + ms ≤ R.slots) :
    va_Run p l e R s m args below meth c H locs cells slots mc ms g rest (Qc As.toArray) (free) := by
  obtain ⟨⟨hrc, hrs, hfr, hlo, hws, hcw⟩, hcode, hini, hy, hlen, hl, hstt⟩ := cw
  have hK : Back l R p e below s args y 3 8 (PreOf R mc ms Pc) (PostOf Qc mc ms free) := va_backW (hh := hh) (bytes := bytes) (maxL := maxL) (ret := ret) hM hp.1 hrc hrs hfr hlo hws hcw (fun a' U hW => word_at hW (Or.inl (by first | rfl | simp [Cond.onTables, Cond.keeps, Cond.steady])) hini)
  obtain ⟨hx, hb, hml, ho, -⟩ := S
  intro T hT X
  obtain ⟨v, vm₁, ⟨U', l2, c2, s2⟩, hW₁, X', ⟨g', mk, t, L, e1, e2, hq, h1, hL, h2, h3⟩, st⟩ := vx_callSW X hx (hh := hh) (bytes := bytes) (maxL := maxL) (ret := ret) ho hl hstt hini hcode hy hK hg (hsize.trans hml.symm) (argsL := As) (rest := rest) (fun sig h => hn.trans (hlen sig h)) hstack hW (by rw [hb]; exact hdg)
    (fun vm₁ hW₁ => ⟨hf.1, hf.2, hp.2 (T.setVm vm₁) hT hW₁⟩)
  dsimp only [Pt.U, Pt.locs, Pt.cells, Pt.slots] at X' e1 e2 h1 h2 h3 st
  subst h1; subst h2; subst h3
  exact ⟨v, (T.setVm vm₁).calling g' mk As.toArray, t, U', L, hT, X', hL, e1, e2, hq, st⟩
/-- a thing of a world lies in the heap -/
theorem vx_lt {D : va_G} {cl : List vw_C} {ws : va_W} {H1 : Heap} (h : va_P D cl ws H1) {k : Nat} {q : Nat × va_E} (hk : ws[k]? = some q) : q.1 < H1.size := (h k q hk).lt
end VXS
/-! ===== END ===== -/
/-! ===== BEGIN methods with a table of their own: called by a name, returning or throwing ===== -/
section VXH
/-! vx_backW, vx_callVX, vx_callSX, vx_callVW, vx_runVW, vx_runVX, vx_runSX, vx_ofWH follow the same proofs as their sisters above (Free/Laws.lean, Shelf42/LK1.lean); vx_outP calls Shelf42/NT130.lean (outThrough). -/
section
variable {l : Launch} {R : Room} {p : Program} {e : Env} {below : List Frame} {s : State} {sargs : Array Value} {y : MethodName} {len W9 : Nat}
theorem vx_backW {ws : List Cond} {rm : Room} {Pc : Array Value → State → Prop} {Qc : Array Value → State → Outcome → State → Prop} {XC : String → State → State → Prop} {mc ms : Nat} {free : Addr → Prop} {bytes : ByteArray} {maxL : Nat} {ret : Option FieldType} {hh : List (Nat × Nat × Nat × Nat)}
    (hM : vx_Met l y ws rm Pc Qc XC mc ms free) (hblind : FrameBlind Pc) (hrc : rm.cells = mc) (hrs : rm.slots = ms)
    (hframes : rm.frames + 1 ≤ R.frames) (hlocals : W9 + (maxL + 11) + rm.locals ≤ R.locals)
    (hws : ∀ w ∈ ws, ∀ a' U, s.WarmedH U.vm → w.before a' U = true) (hcode : Cond.codeWith y bytes maxL ret hh ∈ ws) (hinit : ∀ a' U, s.WarmedH U.vm → (Cond.initialized y.cls).before a' U = true) :
    vx_Back l R p e below s sargs y len W9 (PreOf R mc ms Pc) (PostOf Qc mc ms free) (vx_Post XC mc ms free) := by
  intro m meth c A g ig mk a X hg hsize hdg hW hn hp
  have h1 : (headSpec ws rm).pre.before a A.U = true := atoms_intro fun w hw => hws w hw _ _ X.warmed
  have h2 : (Cond.codeWith y bytes maxL ret hh).before a A.U = true := hws _ hcode _ _ X.warmed
  have h3 : (Cond.initialized y.cls).before a A.U = true := hinit _ _ X.warmed
  have h4 : A.cells + (headSpec ws rm).room.cells ≤ R.cells := by rw [show (headSpec ws rm).room.cells = mc from hrc]; exact hp.1
  have h5 : A.slots + (headSpec ws rm).room.slots ≤ R.slots := by rw [show (headSpec ws rm).room.slots = ms from hrs]; exact hp.2.1
  have hPc : Pc a (A.U.calling g mk a) := hblind _ _ _ _ hp.2.2
  obtain ⟨U, Ls, c0, s0⟩ := A
  dsimp only [Pt.U, Pt.locs, Pt.cells, Pt.slots] at h1 h2 h3 h4 h5 X hn hPc ⊢
  obtain ⟨m9, methY, cY, hn9, hmY, hcY, -, hlY, -⟩ := Cond.codeWith_spec h2
  cases Option.some.inj (hn9.symm.trans hn)
  obtain ⟨kY, hkY, -⟩ := className_of_methodNamed hn
  have hinitY : kY.init = .initialized := Cond.initialized_spec (findClass_of_methodNamed hn) hkY h3
  have h : At U g.method c below := by rw [hg]; exact X.here
  have hlocals9 : W9 + (maxL + 11) + (headSpec ws rm).room.locals ≤ R.locals := hlocals
  have happ : (headSpec ws rm).appliesLoose y e.platform (U.calling g mk a) = true :=
    Spec.appliesLoose_calling (g := g) h hdg hn hkY hinitY
      (X.room_calling (g := g) (R' := (headSpec ws rm).room) hsize hmY hcY hframes (by rw [hlY]; omega) h4 h5) h1
  obtain ⟨mid, hmid⟩ := h.above
  have hfr : (U.setTop g).frames = (.java g :: mid) ++ below := by rw [State.frames_setTop' g h.top, hmid]; rfl
  obtain ⟨o, s₂, hsteps, -, hend, hq⟩ := Steps.callFree hM p X.admits X.cas X.clock (acts := []) hfr happ hPc trivial
  have hq' : vx_Q Qc XC mc ms free a (U.calling g mk a) o s₂ := hq
  rw [State.frames_setTop' g h.top] at hend
  obtain ⟨g₀, hg0⟩ := Option.isSome_iff_exists.mp h.top
  obtain ⟨r, hr⟩ := State.topJava?_eq_some.mp hg0
  have hr' : (({ U with heap := s₂.heap, slotsUsed := s₂.slotsUsed } : State).setVm s₂.vm).frames = .java g₀ :: r := hr
  rcases hq' with ⟨hqc, L, hfe, hL⟩ | ⟨q, rfl, E, ce, L, hx, hce, hcv, hcl, hW₂, hsm, hL⟩
  · obtain ⟨⟨v, rfl⟩, hW₂, e2, q2, q3, q4, q5, q6⟩ := id hfe
    have e3 : s₂ = ({ (U.calling g mk a).setFrames s₂.frames with heap := s₂.heap, slotsUsed := s₂.slotsUsed } : State).setVm s₂.vm := by
      have : s₂ = ({ s₂ with vm := (U.calling g mk a).vm } : State).setVm s₂.vm := rfl
      rw [e2] at this
      exact this
    obtain ⟨c₂, i₂, len₂, hc₂, hd₂, hf₂⟩ := hend
    have hW' : U.WarmedH s₂.vm := hW₂
    have hcc : c₂ = c := by
      have h1 : s₂.code? g.method = U.code? g.method := by
        rw [State.code?_eq, State.code?_eq, hW'.alike.method?]
      exact Option.some.inj (hc₂.symm.trans (h1.trans h.code))
    subst hcc
    have hlen : len₂ = len := by rw [hdg] at hd₂; cases hd₂; rfl
    subst hlen
    have hs₂ : s₂ = (({ U with heap := s₂.heap, slotsUsed := s₂.slotsUsed } : State).setVm s₂.vm).setTop { g with pc := g.pc + len₂, stack := v.toList ++ g.stack } := by
      refine e3.trans ?_
      rw [hf₂, State.calling_eq h.top, State.setFrames_setFrames, State.setTop_of_frames _ hr', hr]
      rfl
    have hsame : U.sameButNew ({ U with heap := s₂.heap, slotsUsed := s₂.slotsUsed } : State) L mc ms := by
      refine ⟨?_, q2, q3, q4, q5, q6⟩
      obtain ⟨t, ht, -⟩ := State.frames_cons hr
      show ({ U with heap := s₂.heap, slotsUsed := s₂.slotsUsed } : State) = { U.setFrames U.frames with heap := s₂.heap, slotsUsed := s₂.slotsUsed }
      rw [State.setFrames_self ht]
    subst hg
    refine Or.inl ⟨v, ⟨(({ U with heap := s₂.heap, slotsUsed := s₂.slotsUsed } : State).setVm s₂.vm), Ls ++ L, c0 + mc, s0 + ms⟩,
      ⟨X.admits, X.cas, X.clock, X.frames, X.room, X.hears, X.method, X.code, (X.here.setHeapUsed s₂.heap s₂.slotsUsed).setVm hW'.alike, X.tail, State.WarmedH.trans X.warmed hW', X.limits, X.bytes, X.same.trans (hsame.setVm s.vm)⟩,
      ⟨g, mk, s₂, L, rfl, rfl, hqc, rfl, hL, rfl, rfl⟩, ?_⟩
    show Steps p.tables e below _ ((({ U with heap := s₂.heap, slotsUsed := s₂.slotsUsed } : State).setVm s₂.vm).setTop { g with pc := g.pc + len₂, stack := v.toList ++ g.stack })
    rw [← hs₂]
    exact hsteps
  · obtain ⟨e2, q2, q3, q4, q5, q6⟩ := id hsm
    have e3 : s₂ = ({ (U.calling g mk a).setFrames s₂.frames with heap := s₂.heap, slotsUsed := s₂.slotsUsed } : State).setVm s₂.vm := by
      have : s₂ = ({ s₂ with vm := (U.calling g mk a).vm } : State).setVm s₂.vm := rfl
      rw [e2] at this
      exact this
    have hf₂ : s₂.frames = .throwing q :: .java g :: U.frames.tail := hend
    have hW' : U.WarmedH s₂.vm := hW₂
    have hs₂ : s₂ = ((({ U with heap := s₂.heap, slotsUsed := s₂.slotsUsed } : State).setVm s₂.vm).setTop g).pushFrame (.throwing q) := by
      refine e3.trans ?_
      rw [hf₂, State.calling_eq h.top, State.setFrames_setFrames, State.pushFrame, State.frames_setTop _ hr', State.setTop_of_frames _ hr', State.setFrames_setFrames, hr]
      rfl
    have hsame : U.sameButNew ({ U with heap := s₂.heap, slotsUsed := s₂.slotsUsed } : State) L mc ms := by
      refine ⟨?_, q2, q3, q4, q5, q6⟩
      obtain ⟨t, ht, -⟩ := State.frames_cons hr
      show ({ U with heap := s₂.heap, slotsUsed := s₂.slotsUsed } : State) = { U.setFrames U.frames with heap := s₂.heap, slotsUsed := s₂.slotsUsed }
      rw [State.setFrames_self ht]
    subst hg
    refine Or.inr ⟨q, ⟨(({ U with heap := s₂.heap, slotsUsed := s₂.slotsUsed } : State).setVm s₂.vm), Ls ++ L, c0 + mc, s0 + ms⟩,
      ⟨X.admits, X.cas, X.clock, X.frames, X.room, X.hears, X.method, X.code, (X.here.setHeapUsed s₂.heap s₂.slotsUsed).setVm hW'.alike, X.tail, State.WarmedH.trans X.warmed hW', X.limits, X.bytes, X.same.trans (hsame.setVm s.vm)⟩,
      ⟨g, mk, s₂, L, E, ce, rfl, rfl, hx, hce, hcv, hcl, rfl, hL, rfl, rfl⟩, ?_⟩
    show Steps p.tables e below _ (((({ U with heap := s₂.heap, slotsUsed := s₂.slotsUsed } : State).setVm s₂.vm).setTop g).pushFrame (.throwing q))
    rw [← hs₂]
    exact hsteps
end
variable {p : Program} {l : Launch} {e : Env} {R : Room} {s : State} {m : MethodId} {args : Array Value} {below : List Frame} {meth : Method} {c : Code} {T : State} {H : Heap} {locs : List Loc} {cells slots : Nat}
theorem vx_callVX (X : Stand p l e R s m args below meth c T locs cells slots) (hexec : p.tables.exec = Jvm.exec) {own C : String} {index : Nat} {y : MethodName} {bytes : ByteArray} {maxL : Nat} {ret : Option FieldType} {hh : List (Nat × Nat × Nat × Nat)}
    (hown : s.vm.findClass own = some m.cls) (hlink : (Cond.methodLink own index y).before args s = true) (hinst : (Cond.instanceMethod y).before args s = true) (hsel : (Cond.selects C y y).before args s = true)
    (hcode : (Cond.codeWith y bytes maxL ret hh).before args s = true) (hy : y.cls ≠ "java/lang/invoke/MethodHandle" ∧ y.cls ≠ "java/lang/invoke/VarHandle")
    {W9 : Nat} {Pre : Pt → Array Value → Prop} {Post : Pt → Array Value → Option Value → Pt → Prop} {PostX : Pt → Array Value → Addr → Pt → Prop} (hK : vx_Back l R p e below s args y 3 W9 Pre Post PostX)
    {b : Addr} {cellB : Cell} (hcell : T.heap[b]? = some cellB) (hobj : cellB.vm.isStatics = false) (hcls : s.vm.findClass C = some cellB.cls)
    {g : JFrame} (hg : g.method = m) (hsize : g.locals.size = c.maxLocals) {argsL rest : List Value} (hlen : ∀ sig, parseMethodDescriptor y.desc = some sig → argsL.length = sig.parameters.length)
    (hstack : g.stack = argsL.reverse ++ .ref b :: rest) (hW : 2 * g.monitorRoom + (rest.map fun v => v.category).sum ≤ W9) (hdg : decode c.code g.pc = .ok (.invokevirtual index, 3))
    (hpre : ∀ vm₁, s.WarmedH vm₁ → Pre ⟨T.setVm vm₁, locs, cells, slots⟩ (Value.ref b :: argsL).toArray) :
    (∃ (v : Option Value) (vm₁ : Vm) (B : Pt), s.WarmedH vm₁ ∧ Stand p l e R s m args below meth c B.U B.locs B.cells B.slots ∧ Post ⟨T.setVm vm₁, locs, cells, slots⟩ (Value.ref b :: argsL).toArray v B ∧
      ∀ target, Steps p.tables e below (B.U.setTop { g with pc := g.pc + 3, stack := v.toList ++ rest }) target → Steps p.tables e below (T.setTop g) target) ∨
    (∃ (q : Addr) (vm₁ : Vm) (B : Pt), s.WarmedH vm₁ ∧ Stand p l e R s m args below meth c B.U B.locs B.cells B.slots ∧ PostX ⟨T.setVm vm₁, locs, cells, slots⟩ (Value.ref b :: argsL).toArray q B ∧
      Steps p.tables e below (T.setTop g) ((B.U.setTop { g with stack := rest }).pushFrame (.throwing q))) := by
  obtain ⟨mk, methM, hnamed, hmethM, hstM, habM⟩ := Cond.instanceMethod_spec hinst
  obtain ⟨m8, methM', cM, hn8, hmethM', -, -, -, -, -, -, hsigM⟩ := Cond.codeWith_spec hcode
  cases Option.some.inj (hn8.symm.trans hnamed)
  cases hmethM.symm.trans hmethM'
  obtain ⟨c2, r2, m2, q1, q2, q3, q4, kP, hkP, hkPi⟩ := Cond.selects_spec hsel
  cases hcls.symm.trans q1
  cases (State.methodFound?_of_named hnamed hy).symm.trans q2
  cases hnamed.symm.trans q3
  have hselP : selectMethod e.platform s.vm cellB.cls mk = .method mk := by rw [Launch.admits_selectMethod X.admits]; exact q4
  obtain ⟨vm₁, X₁, hstep₁⟩ := X.invokevirtual hexec hown hlink hnamed hmethM hstM hkP hkPi hy (a := b) (cell := cellB) hcell
    (fun z h => by rw [h] at hobj; cases hobj) hselP hmethM habM hkP hkPi (g := g) hg (argsL := argsL) (rest := rest) (hlen _ hsigM) hstack hdg
  rcases hK m meth c ⟨T.setVm vm₁, locs, cells, slots⟩ { g with stack := rest } (.invokevirtual index) mk (Value.ref b :: argsL).toArray X₁ hg hsize hdg hW (X₁.named hnamed) (hpre vm₁ X₁.warmed) with ⟨v, B, X', hpost, hsteps⟩ | ⟨q, B, X', hpost, hsteps⟩
  · exact Or.inl ⟨v, vm₁, B, X₁.warmed, X', hpost, fun target h => hstep₁ _ fun acts => by rw [doInvoke_state]; exact hsteps.trans h⟩
  · exact Or.inr ⟨q, vm₁, B, X₁.warmed, X', hpost, hstep₁ _ fun acts => by rw [doInvoke_state]; exact hsteps⟩
theorem vx_callSX (X : Stand p l e R s m args below meth c T locs cells slots) (hexec : p.tables.exec = Jvm.exec) {own : String} {index : Nat} {y : MethodName} {bytes : ByteArray} {maxL : Nat} {ret : Option FieldType} {hh : List (Nat × Nat × Nat × Nat)}
    (hown : s.vm.findClass own = some m.cls) (hlink : (Cond.methodLink own index y).before args s = true) (hstat : (Cond.static y).before args s = true) (hinit : (Cond.initialized y.cls).before args s = true)
    (hcode : (Cond.codeWith y bytes maxL ret hh).before args s = true) (hy : y.cls ≠ "java/lang/invoke/MethodHandle" ∧ y.cls ≠ "java/lang/invoke/VarHandle")
    {W9 : Nat} {Pre : Pt → Array Value → Prop} {Post : Pt → Array Value → Option Value → Pt → Prop} {PostX : Pt → Array Value → Addr → Pt → Prop} (hK : vx_Back l R p e below s args y 3 W9 Pre Post PostX)
    {g : JFrame} (hg : g.method = m) (hsize : g.locals.size = c.maxLocals) {argsL rest : List Value} (hlen : ∀ sig, parseMethodDescriptor y.desc = some sig → argsL.length = sig.parameters.length)
    (hstack : g.stack = argsL.reverse ++ rest) (hW : 2 * g.monitorRoom + (rest.map fun v => v.category).sum ≤ W9) (hdg : decode c.code g.pc = .ok (.invokestatic index, 3))
    (hpre : ∀ vm₁, s.WarmedH vm₁ → Pre ⟨T.setVm vm₁, locs, cells, slots⟩ argsL.toArray) :
    (∃ (v : Option Value) (vm₁ : Vm) (B : Pt), s.WarmedH vm₁ ∧ Stand p l e R s m args below meth c B.U B.locs B.cells B.slots ∧ Post ⟨T.setVm vm₁, locs, cells, slots⟩ argsL.toArray v B ∧
      ∀ target, Steps p.tables e below (B.U.setTop { g with pc := g.pc + 3, stack := v.toList ++ rest }) target → Steps p.tables e below (T.setTop g) target) ∨
    (∃ (q : Addr) (vm₁ : Vm) (B : Pt), s.WarmedH vm₁ ∧ Stand p l e R s m args below meth c B.U B.locs B.cells B.slots ∧ PostX ⟨T.setVm vm₁, locs, cells, slots⟩ argsL.toArray q B ∧
      Steps p.tables e below (T.setTop g) ((B.U.setTop { g with stack := rest }).pushFrame (.throwing q))) := by
  obtain ⟨mk, methM, cM, hnamed, hmethM, -, -, -, -, -, -, hsigM⟩ := Cond.codeWith_spec hcode
  have hstatic : methM.isStatic = true := Cond.static_spec hnamed hmethM hstat
  obtain ⟨kP, hkP, -⟩ := className_of_methodNamed hnamed
  have hinitP : kP.init = .initialized := Cond.initialized_spec (findClass_of_methodNamed hnamed) hkP hinit
  obtain ⟨vm₁, X₁, hstep₁⟩ := X.invokestatic hexec hown hlink hnamed hmethM hstatic hkP hinitP hy (g := g) hg (argsL := argsL) (rest := rest) (hlen _ hsigM) hstack hdg
  rcases hK m meth c ⟨T.setVm vm₁, locs, cells, slots⟩ { g with stack := rest } (.invokestatic index) mk argsL.toArray X₁ hg hsize hdg hW (X₁.named hnamed) (hpre vm₁ X₁.warmed) with ⟨v, B, X', hpost, hsteps⟩ | ⟨q, B, X', hpost, hsteps⟩
  · exact Or.inl ⟨v, vm₁, B, X₁.warmed, X', hpost, fun target h => hstep₁ _ fun acts => by rw [doInvoke_state]; exact hsteps.trans h⟩
  · exact Or.inr ⟨q, vm₁, B, X₁.warmed, X', hpost, hstep₁ _ fun acts => by rw [doInvoke_state]; exact hsteps⟩
theorem vx_callVW (X : Stand p l e R s m args below meth c T locs cells slots) (hexec : p.tables.exec = Jvm.exec) {own C : String} {index : Nat} {y : MethodName} {bytes : ByteArray} {maxL : Nat} {ret : Option FieldType} {hh : List (Nat × Nat × Nat × Nat)}
    (hown : s.vm.findClass own = some m.cls) (hlink : (Cond.methodLink own index y).before args s = true) (hinst : (Cond.instanceMethod y).before args s = true) (hsel : (Cond.selects C y y).before args s = true)
    (hcode : (Cond.codeWith y bytes maxL ret hh).before args s = true) (hy : y.cls ≠ "java/lang/invoke/MethodHandle" ∧ y.cls ≠ "java/lang/invoke/VarHandle")
    {W9 : Nat} {Pre : Pt → Array Value → Prop} {Post : Pt → Array Value → Option Value → Pt → Prop} (hK : Back l R p e below s args y 3 W9 Pre Post)
    {b : Addr} {cellB : Cell} (hcell : T.heap[b]? = some cellB) (hobj : cellB.vm.isStatics = false) (hcls : s.vm.findClass C = some cellB.cls)
    {g : JFrame} (hg : g.method = m) (hsize : g.locals.size = c.maxLocals) {argsL rest : List Value} (hlen : ∀ sig, parseMethodDescriptor y.desc = some sig → argsL.length = sig.parameters.length)
    (hstack : g.stack = argsL.reverse ++ .ref b :: rest) (hW : 2 * g.monitorRoom + (rest.map fun v => v.category).sum ≤ W9) (hdg : decode c.code g.pc = .ok (.invokevirtual index, 3))
    (hpre : ∀ vm₁, s.WarmedH vm₁ → Pre ⟨T.setVm vm₁, locs, cells, slots⟩ (Value.ref b :: argsL).toArray) :
    ∃ (v : Option Value) (vm₁ : Vm) (B : Pt), s.WarmedH vm₁ ∧ Stand p l e R s m args below meth c B.U B.locs B.cells B.slots ∧ Post ⟨T.setVm vm₁, locs, cells, slots⟩ (Value.ref b :: argsL).toArray v B ∧
      ∀ target, Steps p.tables e below (B.U.setTop { g with pc := g.pc + 3, stack := v.toList ++ rest }) target → Steps p.tables e below (T.setTop g) target := by
  obtain ⟨mk, methM, hnamed, hmethM, hstM, habM⟩ := Cond.instanceMethod_spec hinst
  obtain ⟨m8, methM', cM, hn8, hmethM', -, -, -, -, -, -, hsigM⟩ := Cond.codeWith_spec hcode
  cases Option.some.inj (hn8.symm.trans hnamed)
  cases hmethM.symm.trans hmethM'
  obtain ⟨c2, r2, m2, q1, q2, q3, q4, kP, hkP, hkPi⟩ := Cond.selects_spec hsel
  cases hcls.symm.trans q1
  cases (State.methodFound?_of_named hnamed hy).symm.trans q2
  cases hnamed.symm.trans q3
  have hselP : selectMethod e.platform s.vm cellB.cls mk = .method mk := by rw [Launch.admits_selectMethod X.admits]; exact q4
  obtain ⟨vm₁, X₁, hstep₁⟩ := X.invokevirtual hexec hown hlink hnamed hmethM hstM hkP hkPi hy (a := b) (cell := cellB) hcell
    (fun z h => by rw [h] at hobj; cases hobj) hselP hmethM habM hkP hkPi (g := g) hg (argsL := argsL) (rest := rest) (hlen _ hsigM) hstack hdg
  obtain ⟨v, B, X', hpost, hsteps⟩ := hK m meth c ⟨T.setVm vm₁, locs, cells, slots⟩ { g with stack := rest } (.invokevirtual index) mk (Value.ref b :: argsL).toArray X₁ hg hsize hdg hW (X₁.named hnamed) (hpre vm₁ X₁.warmed)
  exact ⟨v, vm₁, B, X₁.warmed, X', hpost, fun target h => hstep₁ _ fun acts => by rw [doInvoke_state]; exact hsteps.trans h⟩
abbrev vx_CVW (R : Room) (s : State) (args : Array Value) (own C : String) (index : Nat) (y : MethodName) (bytes : ByteArray) (maxL : Nat) (ret : Option FieldType) (hh : List (Nat × Nat × Nat × Nat)) (ws : List Cond) (rm : Room) (mc ms n : Nat) : Prop :=
  (rm.cells = mc ∧ rm.slots = ms ∧ rm.frames + 1 ≤ R.frames ∧ 8 + (maxL + 11) + rm.locals ≤ R.locals ∧ (∀ w ∈ ws, ∀ (a' : Array Value) (U : State), s.WarmedH U.vm → w.before a' U = true) ∧ Cond.codeWith y bytes maxL ret hh ∈ ws) ∧
  (Cond.codeWith y bytes maxL ret hh).before args s = true ∧ (Cond.initialized y.cls).before args s = true ∧ (y.cls ≠ "java/lang/invoke/MethodHandle" ∧ y.cls ≠ "java/lang/invoke/VarHandle") ∧
  (∀ sig, parseMethodDescriptor y.desc = some sig → n = sig.parameters.length) ∧ (Cond.methodLink own index y).before args s = true ∧ (Cond.instanceMethod y).before args s = true ∧ (Cond.selects C y y).before args s = true
theorem vx_cwVW {own C : String} {index maxL mc ms : Nat} {y : MethodName} {bytes : ByteArray} {ret : Option FieldType} {hh : List (Nat × Nat × Nat × Nat)} {Ts ws ws' : List Cond} {rm : Room} (n : Nat) (ht : ∀ w ∈ Ts, w.before args s = true) (hT : GoodIn Ts (wsV own index C y ws)) (hw : ws = Cond.codeWith y bytes maxL ret hh :: ws') (hrc : rm.cells = mc) (hrs : rm.slots = ms)
    (hd : y.cls = C ∧ y.cls ≠ "java/lang/invoke/MethodHandle" ∧ y.cls ≠ "java/lang/invoke/VarHandle" ∧ (parseMethodDescriptor y.desc).map (fun d => d.parameters.length) = some n) (hR : rm.frames + 1 ≤ R.frames ∧ 8 + (maxL + 11) + rm.locals ≤ R.locals) :
    vx_CVW R s args own C index y bytes maxL ret hh ws rm mc ms n := by
  obtain ⟨hC, hd⟩ := hd
  subst hC
  have ok : ∀ w ∈ wsV own index y.cls y ws, w.before args s = true := fun w h => ht w (hT w h).1
  have hG : GoodIn Ts ws := fun w h => hT w (by unfold wsV; exact List.mem_append_right _ h)
  have hc : Cond.codeWith y bytes maxL ret hh ∈ ws := by rw [hw]; exact List.mem_cons_self
  refine ⟨⟨hrc, hrs, hR.1, hR.2, pay_in ht hG, hc⟩, ht _ (hG _ hc).1, ok _ (by simp [wsV]), ⟨hd.1, hd.2.1⟩, fun sig h => ?_, ok _ (by simp [wsV]), ok _ (by simp [wsV]), ok _ (by simp [wsV])⟩
  have h2 := hd.2.2
  rw [h] at h2
  exact (Option.some.inj h2).symm
theorem vx_runVW {y : MethodName} {bytes cc : ByteArray} {maxL nL mc ms n index : Nat} {ret : Option FieldType} {hh : List (Nat × Nat × Nat × Nat)} {ws : List Cond} {rm : Room} {Pc : Array Value → State → Prop} {Qc : Array Value → State → Outcome → State → Prop} {free : Addr → Prop} {Ts : List Cond} {own C : String} {b : Addr} {As rest : List Value} {g : JFrame}
    (S : CallFix p m c cc nL s args Ts own) (hM : Met l y ws rm Pc Qc mc ms free) (cw : vx_CVW R s args own C index y bytes maxL ret hh ws rm mc ms n) (hp : PreV s H C b Pc As)
    (hg : g.method = m) (hn : As.length = n) (hsize : g.locals.size = nL) (hstack : g.stack = As.reverse ++ .ref b :: rest) (hW : 2 * g.monitorRoom + (rest.map fun v => v.category).sum ≤ 8) (hdg : decode cc g.pc = .ok (.invokevirtual index, 3)) (hf : cells + mc ≤ R.cells ∧ slots + ms ≤ R.slots) :
    va_Run p l e R s m args below meth c H locs cells slots mc ms g rest (Qc (Value.ref b :: As).toArray) free := by
  obtain ⟨⟨hrc, hrs, hfr, hlo, hws, hcw⟩, hcode, hini, hy, hlen, hl, hin, hse⟩ := cw
  have hK : Back l R p e below s args y 3 8 (PreOf R mc ms Pc) (PostOf Qc mc ms free) := va_backW (hh := hh) (bytes := bytes) (maxL := maxL) (ret := ret) hM hp.1 hrc hrs hfr hlo hws hcw (fun a' U hW => word_at hW (Or.inl (by first | rfl | simp [Cond.onTables, Cond.keeps, Cond.steady])) hini)
  obtain ⟨hx, hb, hml, ho, -⟩ := S
  obtain ⟨-, ⟨cellB, hcB, hoB, hclB⟩, hPc⟩ := hp
  intro T hT X
  obtain ⟨v, vm₁, ⟨U', l2, c2, s2⟩, hW₁, X', ⟨g', mk, t, L, e1, e2, hq, h1, hL, h2, h3⟩, st⟩ := vx_callVW X hx (C := C) (hh := hh) (bytes := bytes) (maxL := maxL) (ret := ret) ho hl hin hse hcode hy hK (by rw [hT]; exact hcB) hoB hclB hg (hsize.trans hml.symm) (argsL := As) (rest := rest) (fun sig h => hn.trans (hlen sig h)) hstack hW (by rw [hb]; exact hdg)
    (fun vm₁ hW₁ => ⟨hf.1, hf.2, hPc (T.setVm vm₁) hT hW₁⟩)
  dsimp only [Pt.U, Pt.locs, Pt.cells, Pt.slots] at X' e1 e2 h1 h2 h3 st
  subst h1; subst h2; subst h3
  exact ⟨v, (T.setVm vm₁).calling g' mk (Value.ref b :: As).toArray, t, U', L, hT, X', hL, e1, e2, hq, st⟩
section
variable {y : MethodName} {bytes cc : ByteArray} {maxL nL mc ms n index : Nat} {ret : Option FieldType} {ws : List Cond} {rm : Room} {Pc : Array Value → State → Prop} {Qc : Array Value → State → Outcome → State → Prop} {XC : String → State → State → Prop} {free : Addr → Prop} {Ts : List Cond} {own C : String} {b : Addr} {As rest : List Value} {g : JFrame}
theorem vx_runVX {hh : List (Nat × Nat × Nat × Nat)} (S : CallFix p m c cc nL s args Ts own) (hM : vx_Met l y ws rm Pc Qc XC mc ms free) (cw : vx_CVW R s args own C index y bytes maxL ret hh ws rm mc ms n) (hp : PreV s H C b Pc As)
    (hg : g.method = m) (hn : As.length = n) (hsize : g.locals.size = nL) (hstack : g.stack = As.reverse ++ .ref b :: rest) (hW : 2 * g.monitorRoom + (rest.map fun v => v.category).sum ≤ 8) (hdg : decode cc g.pc = .ok (.invokevirtual index, 3)) (hf : cells + mc ≤ R.cells ∧ slots + ms ≤ R.slots) :
    vx_Run p l e R s m args below meth c H locs cells slots mc ms g rest (Qc (Value.ref b :: As).toArray) XC free := by
  obtain ⟨⟨hrc, hrs, hfr, hlo, hws, hcw⟩, hcode, hini, hy, hlen, hl, hin, hse⟩ := cw
  have hK : vx_Back l R p e below s args y 3 8 (PreOf R mc ms Pc) (PostOf Qc mc ms free) (vx_Post XC mc ms free) := vx_backW (hh := hh) (bytes := bytes) (maxL := maxL) (ret := ret) hM hp.1 hrc hrs hfr hlo hws hcw (fun a' U hW => word_at hW (Or.inl (by first | rfl | simp [Cond.onTables, Cond.keeps, Cond.steady])) hini)
  obtain ⟨hx, hb, hml, ho, -⟩ := S
  obtain ⟨-, ⟨cellB, hcB, hoB, hclB⟩, hPc⟩ := hp
  intro T hT X
  rcases vx_callVX X hx (C := C) (hh := hh) (bytes := bytes) (maxL := maxL) (ret := ret) ho hl hin hse hcode hy hK (by rw [hT]; exact hcB) hoB hclB hg (hsize.trans hml.symm) (argsL := As) (rest := rest) (fun sig h => hn.trans (hlen sig h)) hstack hW (by rw [hb]; exact hdg)
    (fun vm₁ hW₁ => ⟨hf.1, hf.2, hPc (T.setVm vm₁) hT hW₁⟩) with ⟨v, vm₁, ⟨U', l2, c2, s2⟩, hW₁, X', ⟨g', mk, t, L, e1, e2, hq, h1, hL, h2, h3⟩, st⟩ | ⟨q, vm₁, ⟨U', l2, c2, s2⟩, hW₁, X', ⟨g', mk, t, L, E, ce, e1, e2, hq, hce, hcv, hcl, h1, hL, h2, h3⟩, st⟩
  · dsimp only [Pt.U, Pt.locs, Pt.cells, Pt.slots] at X' e1 e2 h1 h2 h3 st
    subst h1; subst h2; subst h3
    exact Or.inl ⟨v, (T.setVm vm₁).calling g' mk (Value.ref b :: As).toArray, t, U', L, hT, X', hL, e1, e2, hq, st⟩
  · dsimp only [Pt.U, Pt.locs, Pt.cells, Pt.slots] at X' e1 e2 h1 h2 h3 st hcl
    subst h1; subst h2; subst h3
    exact Or.inr ⟨q, (T.setVm vm₁).calling g' mk (Value.ref b :: As).toArray, t, U', L, E, ce, hT, X', hL, e1, e2, hq, hce, hcv, vx_cls hW₁ hcl, st⟩
theorem vx_runSX {hh : List (Nat × Nat × Nat × Nat)} (S : CallFix p m c cc nL s args Ts own) (hM : vx_Met l y ws rm Pc Qc XC mc ms free) (cw : vx_CSW R s args own index y bytes maxL ret hh ws rm mc ms n) (hp : PreS s H Pc As)
    (hg : g.method = m) (hn : As.length = n) (hsize : g.locals.size = nL) (hstack : g.stack = As.reverse ++ rest) (hW : 2 * g.monitorRoom + (rest.map fun v => v.category).sum ≤ 8) (hdg : decode cc g.pc = .ok (.invokestatic index, 3)) (hf : cells + mc ≤ R.cells ∧ slots + ms ≤ R.slots) :
    vx_Run p l e R s m args below meth c H locs cells slots mc ms g rest (Qc As.toArray) XC free := by
  obtain ⟨⟨hrc, hrs, hfr, hlo, hws, hcw⟩, hcode, hini, hy, hlen, hl, hstt⟩ := cw
  have hK : vx_Back l R p e below s args y 3 8 (PreOf R mc ms Pc) (PostOf Qc mc ms free) (vx_Post XC mc ms free) := vx_backW (hh := hh) (bytes := bytes) (maxL := maxL) (ret := ret) hM hp.1 hrc hrs hfr hlo hws hcw (fun a' U hW => word_at hW (Or.inl (by first | rfl | simp [Cond.onTables, Cond.keeps, Cond.steady])) hini)
  obtain ⟨hx, hb, hml, ho, -⟩ := S
  intro T hT X
  rcases vx_callSX X hx (hh := hh) (bytes := bytes) (maxL := maxL) (ret := ret) ho hl hstt hini hcode hy hK hg (hsize.trans hml.symm) (argsL := As) (rest := rest) (fun sig h => hn.trans (hlen sig h)) hstack hW (by rw [hb]; exact hdg)
    (fun vm₁ hW₁ => ⟨hf.1, hf.2, hp.2 (T.setVm vm₁) hT hW₁⟩) with ⟨v, vm₁, ⟨U', l2, c2, s2⟩, hW₁, X', ⟨g', mk, t, L, e1, e2, hq, h1, hL, h2, h3⟩, st⟩ | ⟨q, vm₁, ⟨U', l2, c2, s2⟩, hW₁, X', ⟨g', mk, t, L, E, ce, e1, e2, hq, hce, hcv, hcl, h1, hL, h2, h3⟩, st⟩
  · dsimp only [Pt.U, Pt.locs, Pt.cells, Pt.slots] at X' e1 e2 h1 h2 h3 st
    subst h1; subst h2; subst h3
    exact Or.inl ⟨v, (T.setVm vm₁).calling g' mk As.toArray, t, U', L, hT, X', hL, e1, e2, hq, st⟩
  · dsimp only [Pt.U, Pt.locs, Pt.cells, Pt.slots] at X' e1 e2 h1 h2 h3 st hcl
    subst h1; subst h2; subst h3
    exact Or.inr ⟨q, (T.setVm vm₁).calling g' mk As.toArray, t, U', L, E, ce, hT, X', hL, e1, e2, hq, hce, hcv, vx_cls hW₁ hcl, st⟩
end
end VXH
theorem vx_ofWH {l : Launch} {y : MethodName} {ws ws' : List Cond} {rm : Room} {Pc : Array Value → State → Prop} {Qc : Array Value → State → Outcome → State → Prop} {XC : String → State → State → Prop} {mc ms : Nat} {free : Addr → Prop} {cc : ByteArray} {maxL : Nat} {ret : Option FieldType} {hh : List (Nat × Nat × Nat × Nat)}
    (hy : plainName y.cls = true) (hw : ws = Cond.codeWith y cc maxL ret hh :: ws')
    (body : ∀ p e s m args below meth c s₁, BodyLoose p l y (headSpec ws rm) cc maxL ret e s m args below meth c s₁ → c.maxLocals = maxL → Pc args s →
      W p l e (headSpec ws rm).room s m args below meth c s.heap [] 0 0 (vx_MQ below Qc XC args s mc ms free) (entryFrame m args maxL)) : vx_Met l y ws rm Pc Qc XC mc ms free := by
  refine MetFree.of_bodyS (code := cc) (maxLocals := maxL) (ret := ret) hy ?_ ?_
  · intro args s m h hn
    obtain ⟨m9, meth, c, hn9, h1, h2, h3, h4, -, h5, h6, -⟩ := Cond.codeWith_spec (atoms_spec (ws := ws) h _ (by rw [hw]; exact List.mem_cons_self))
    cases hn.symm.trans hn9
    exact ⟨meth, c, h1, h2, h3, h4, h5, h6⟩
  · intro p e s m args below meth c s₁ B hml hP _
    have hh0 : s₁.heap = s.heap := by rw [B.state]; rfl
    obtain ⟨t, a1, o, b1, b2, b3⟩ := body p e s m args below meth c s₁ B hml hP s₁ hh0 (Stand.of_body B)
    exact ⟨t, o, a1, b1, b2, b3⟩
/-! ===== END ===== -/
end
section
def RX0 : String := "PolicyDesk$1"
def TX0 : u_T := fun k => match k with
  | _ => ("", "", "", false)
def tyX0 : Nat → FieldType := fun k => match k with
  | _ => .int
abbrev wsX00 : List Cond := u_ws RX0 TX0 0
theorem nmX0 : ∀ a, a < 0 → ∀ b, b < 0 → a ≠ b → (TX0 a).2.1 ≠ (TX0 b).2.1 := by decide +kernel
theorem tyX0_ok : ∀ k, k < 0 → parseFieldDescriptor (TX0 k).2.2.1 = some (tyX0 k) := by decide +kernel
def RX1 : String := "PolicyDesk$ByteRow"
def TX1 : u_T := fun k => match k with
  | 0 => ("PolicyDesk$ByteRow", "bytes", "[I", true)
  | 1 => ("PolicyDesk$ByteRow", "length", "I", false)
  | 2 => ("PolicyDesk$ByteRow", "taken", "I", false)
  | _ => ("PolicyDesk$ByteRow", "broken", "Z", false)
def tyX1 : Nat → FieldType := fun k => match k with
  | 0 => .array .int
  | 1 => .int
  | 2 => .int
  | _ => .boolean
abbrev wsX10 : List Cond := u_ws RX1 TX1 4
theorem nmX1 : ∀ a, a < 4 → ∀ b, b < 4 → a ≠ b → (TX1 a).2.1 ≠ (TX1 b).2.1 := by decide +kernel
theorem tyX1_ok : ∀ k, k < 4 → parseFieldDescriptor (TX1 k).2.2.1 = some (tyX1 k) := by decide +kernel
abbrev cX1_init : ByteArray := prog_3_method_1_code
def yX1_init : MethodName := ⟨RX1, "<init>", "()V"⟩
abbrev cX1_length : ByteArray := prog_3_method_2_code
def yX1_length : MethodName := ⟨RX1, "length", "()I"⟩
abbrev cX1_room : ByteArray := prog_3_method_3_code
def yX1_room : MethodName := ⟨RX1, "room", "()I"⟩
abbrev cX1_clear : ByteArray := prog_3_method_4_code
def yX1_clear : MethodName := ⟨RX1, "clear", "()V"⟩
abbrev cX1_push : ByteArray := prog_3_method_5_code
def yX1_push : MethodName := ⟨RX1, "push", "(I)V"⟩
abbrev cX1_byteAt : ByteArray := prog_3_method_6_code
def yX1_byteAt : MethodName := ⟨RX1, "byteAt", "(I)I"⟩
abbrev cX1_rewind : ByteArray := prog_3_method_7_code
def yX1_rewind : MethodName := ⟨RX1, "rewind", "()V"⟩
abbrev cX1_take : ByteArray := prog_3_method_8_code
def yX1_take : MethodName := ⟨RX1, "take", "(II)I"⟩
abbrev cX1_isTakenWhole : ByteArray := prog_3_method_9_code
def yX1_isTakenWhole : MethodName := ⟨RX1, "isTakenWhole", "()Z"⟩
def RX2 : String := "PolicyDesk$Composer"
def TX2 : u_T := fun k => match k with
  | _ => ("", "", "", false)
def tyX2 : Nat → FieldType := fun k => match k with
  | _ => .int
abbrev wsX20 : List Cond := u_ws RX2 TX2 0
theorem nmX2 : ∀ a, a < 0 → ∀ b, b < 0 → a ≠ b → (TX2 a).2.1 ≠ (TX2 b).2.1 := by decide +kernel
theorem tyX2_ok : ∀ k, k < 0 → parseFieldDescriptor (TX2 k).2.2.1 = some (tyX2 k) := by decide +kernel
abbrev cX2_compose : ByteArray := prog_4_method_2_code
def yX2_compose : MethodName := ⟨RX2, "compose", "(LPolicyDesk$Draft;LPolicyDesk$Policy;)V"⟩
abbrev cX2_declare : ByteArray := prog_4_method_3_code
def yX2_declare : MethodName := ⟨RX2, "declare", "(LPolicyDesk$Statement;LPolicyDesk$Policy;)V"⟩
abbrev cX2_apply : ByteArray := prog_4_method_4_code
def yX2_apply : MethodName := ⟨RX2, "apply", "(LPolicyDesk$Draft;LPolicyDesk$Statement;LPolicyDesk$Policy;)V"⟩
abbrev cX2_widen : ByteArray := prog_4_method_5_code
def yX2_widen : MethodName := ⟨RX2, "widen", "(LPolicyDesk$Draft;LPolicyDesk$Statement;LPolicyDesk$Policy;I)V"⟩
abbrev cX2_allow : ByteArray := prog_4_method_6_code
def yX2_allow : MethodName := ⟨RX2, "allow", "(LPolicyDesk$Draft;LPolicyDesk$Statement;LPolicyDesk$Policy;)V"⟩
abbrev cX2_firstAgainst : ByteArray := prog_4_method_7_code
def yX2_firstAgainst : MethodName := ⟨RX2, "firstAgainst", "(LPolicyDesk$Draft;LPolicyDesk$Policy;)I"⟩
abbrev cX2_isAgainst : ByteArray := prog_4_method_8_code
def yX2_isAgainst : MethodName := ⟨RX2, "isAgainst", "(LPolicyDesk$Draft;LPolicyDesk$Statement;LPolicyDesk$Policy;)Z"⟩
abbrev cX2_othersFor : ByteArray := prog_4_method_9_code
def yX2_othersFor : MethodName := ⟨RX2, "othersFor", "(LPolicyDesk$Statement;II)I"⟩
def RX3 : String := "PolicyDesk$Draft"
def TX3 : u_T := fun k => match k with
  | 0 => ("PolicyDesk$Draft", "rows", "[LPolicyDesk$Statement;", true)
  | _ => ("PolicyDesk$Draft", "size", "I", false)
def tyX3 : Nat → FieldType := fun k => match k with
  | 0 => .array (.object "PolicyDesk$Statement")
  | _ => .int
abbrev wsX30 : List Cond := u_ws RX3 TX3 2
theorem nmX3 : ∀ a, a < 2 → ∀ b, b < 2 → a ≠ b → (TX3 a).2.1 ≠ (TX3 b).2.1 := by decide +kernel
theorem tyX3_ok : ∀ k, k < 2 → parseFieldDescriptor (TX3 k).2.2.1 = some (tyX3 k) := by decide +kernel
abbrev cX3_init : ByteArray := prog_5_method_1_code
def yX3_init : MethodName := ⟨RX3, "<init>", "()V"⟩
abbrev cX3_size : ByteArray := prog_5_method_2_code
def yX3_size : MethodName := ⟨RX3, "size", "()I"⟩
abbrev cX3_row : ByteArray := prog_5_method_3_code
def yX3_row : MethodName := ⟨RX3, "row", "(I)LPolicyDesk$Statement;"⟩
abbrev cX3_spare : ByteArray := prog_5_method_4_code
def yX3_spare : MethodName := ⟨RX3, "spare", "()LPolicyDesk$Statement;"⟩
abbrev cX3_hasRoom : ByteArray := prog_5_method_5_code
def yX3_hasRoom : MethodName := ⟨RX3, "hasRoom", "()Z"⟩
abbrev cX3_keepSpare : ByteArray := prog_5_method_6_code
def yX3_keepSpare : MethodName := ⟨RX3, "keepSpare", "()I"⟩
abbrev cX3_shorten : ByteArray := prog_5_method_7_code
def yX3_shorten : MethodName := ⟨RX3, "shorten", "(I)Z"⟩
abbrev cX3_firstWrong : ByteArray := prog_5_method_8_code
def yX3_firstWrong : MethodName := ⟨RX3, "firstWrong", "()I"⟩
abbrev cX3_isWrong : ByteArray := prog_5_method_9_code
def yX3_isWrong : MethodName := ⟨RX3, "isWrong", "(I)Z"⟩
abbrev cX3_repeats : ByteArray := prog_5_method_10_code
def yX3_repeats : MethodName := ⟨RX3, "repeats", "(II)Z"⟩
abbrev cX3_howMany : ByteArray := prog_5_method_11_code
def yX3_howMany : MethodName := ⟨RX3, "howMany", "(LPolicyDesk$Kind;I)I"⟩
abbrev cX3_isType : ByteArray := prog_5_method_12_code
def yX3_isType : MethodName := ⟨RX3, "isType", "(I)Z"⟩
abbrev cX3_isAttribute : ByteArray := prog_5_method_13_code
def yX3_isAttribute : MethodName := ⟨RX3, "isAttribute", "(I)Z"⟩
abbrev cX3_isDoer : ByteArray := prog_5_method_14_code
def yX3_isDoer : MethodName := ⟨RX3, "isDoer", "(I)Z"⟩
abbrev cX3_declaresPermissions : ByteArray := prog_5_method_15_code
def yX3_declaresPermissions : MethodName := ⟨RX3, "declaresPermissions", "(LPolicyDesk$Statement;I)Z"⟩
abbrev cX3_declaresPermission : ByteArray := prog_5_method_16_code
def yX3_declaresPermission : MethodName := ⟨RX3, "declaresPermission", "(II)Z"⟩
abbrev cX3_numberOf : ByteArray := prog_5_method_17_code
def yX3_numberOf : MethodName := ⟨RX3, "numberOf", "(LPolicyDesk$Kind;I)I"⟩
abbrev cX3_typesNamed : ByteArray := prog_5_method_18_code
def yX3_typesNamed : MethodName := ⟨RX3, "typesNamed", "(I)I"⟩
abbrev cX3_maskOf : ByteArray := prog_5_method_19_code
def yX3_maskOf : MethodName := ⟨RX3, "maskOf", "(LPolicyDesk$Statement;I)I"⟩
def RX4 : String := "PolicyDesk$ImageCodec"
def TX4 : u_T := fun k => match k with
  | _ => ("", "", "", false)
def tyX4 : Nat → FieldType := fun k => match k with
  | _ => .int
abbrev wsX40 : List Cond := u_ws RX4 TX4 0
theorem nmX4 : ∀ a, a < 0 → ∀ b, b < 0 → a ≠ b → (TX4 a).2.1 ≠ (TX4 b).2.1 := by decide +kernel
theorem tyX4_ok : ∀ k, k < 0 → parseFieldDescriptor (TX4 k).2.2.1 = some (tyX4 k) := by decide +kernel
abbrev cX4_encode : ByteArray := prog_6_method_2_code
def yX4_encode : MethodName := ⟨RX4, "encode", "(LPolicyDesk$Policy;LPolicyDesk$ByteRow;)V"⟩
abbrev cX4_encodeClass : ByteArray := prog_6_method_3_code
def yX4_encodeClass : MethodName := ⟨RX4, "encodeClass", "(LPolicyDesk$Policy;ILPolicyDesk$ByteRow;)V"⟩
abbrev cX4_decode : ByteArray := prog_6_method_4_code
def yX4_decode : MethodName := ⟨RX4, "decode", "(LPolicyDesk$ByteRow;LPolicyDesk$Policy;)Z"⟩
abbrev cX4_decodeClass : ByteArray := prog_6_method_5_code
def yX4_decodeClass : MethodName := ⟨RX4, "decodeClass", "(LPolicyDesk$ByteRow;ILPolicyDesk$Policy;)V"⟩
def RX5 : String := "PolicyDesk$Kind"
def TX5 : u_T := fun k => match k with
  | _ => ("", "", "", false)
def tyX5 : Nat → FieldType := fun k => match k with
  | _ => .int
abbrev wsX50 : List Cond := u_ws RX5 TX5 0
theorem nmX5 : ∀ a, a < 0 → ∀ b, b < 0 → a ≠ b → (TX5 a).2.1 ≠ (TX5 b).2.1 := by decide +kernel
theorem tyX5_ok : ∀ k, k < 0 → parseFieldDescriptor (TX5 k).2.2.1 = some (tyX5 k) := by decide +kernel
def RX6 : String := "PolicyDesk$Memory"
def TX6 : u_T := fun k => match k with
  | 0 => ("PolicyDesk$Memory", "questions", "[I", true)
  | 1 => ("PolicyDesk$Memory", "answers", "[I", true)
  | 2 => ("PolicyDesk$Memory", "size", "I", false)
  | 3 => ("PolicyDesk$Memory", "hits", "I", false)
  | _ => ("PolicyDesk$Memory", "misses", "I", false)
def tyX6 : Nat → FieldType := fun k => match k with
  | 0 => .array .int
  | 1 => .array .int
  | 2 => .int
  | 3 => .int
  | _ => .int
abbrev wsX60 : List Cond := u_ws RX6 TX6 5
theorem nmX6 : ∀ a, a < 5 → ∀ b, b < 5 → a ≠ b → (TX6 a).2.1 ≠ (TX6 b).2.1 := by decide +kernel
theorem tyX6_ok : ∀ k, k < 5 → parseFieldDescriptor (TX6 k).2.2.1 = some (tyX6 k) := by decide +kernel
abbrev cX6_init : ByteArray := prog_8_method_1_code
def yX6_init : MethodName := ⟨RX6, "<init>", "(I)V"⟩
abbrev cX6_size : ByteArray := prog_8_method_2_code
def yX6_size : MethodName := ⟨RX6, "size", "()I"⟩
abbrev cX6_hits : ByteArray := prog_8_method_3_code
def yX6_hits : MethodName := ⟨RX6, "hits", "()I"⟩
abbrev cX6_misses : ByteArray := prog_8_method_4_code
def yX6_misses : MethodName := ⟨RX6, "misses", "()I"⟩
abbrev cX6_forget : ByteArray := prog_8_method_5_code
def yX6_forget : MethodName := ⟨RX6, "forget", "()V"⟩
abbrev cX6_recall : ByteArray := prog_8_method_6_code
def yX6_recall : MethodName := ⟨RX6, "recall", "(I)I"⟩
abbrev cX6_keep : ByteArray := prog_8_method_7_code
def yX6_keep : MethodName := ⟨RX6, "keep", "(II)V"⟩
abbrev cX6_drop : ByteArray := prog_8_method_8_code
def yX6_drop : MethodName := ⟨RX6, "drop", "(I)V"⟩
abbrev cX6_append : ByteArray := prog_8_method_9_code
def yX6_append : MethodName := ⟨RX6, "append", "(II)V"⟩
def RX7 : String := "PolicyDesk$Policy"
def TX7 : u_T := fun k => match k with
  | 0 => ("PolicyDesk$Policy", "permissions", "[I", true)
  | 1 => ("PolicyDesk$Policy", "ranks", "[I", true)
  | 2 => ("PolicyDesk$Policy", "allowed", "[I", true)
  | 3 => ("PolicyDesk$Policy", "products", "[I", true)
  | 4 => ("PolicyDesk$Policy", "masks", "[I", true)
  | 5 => ("PolicyDesk$Policy", "types", "I", false)
  | _ => ("PolicyDesk$Policy", "classes", "I", false)
def tyX7 : Nat → FieldType := fun k => match k with
  | 0 => .array .int
  | 1 => .array .int
  | 2 => .array .int
  | 3 => .array .int
  | 4 => .array .int
  | 5 => .int
  | _ => .int
abbrev wsX70 : List Cond := u_ws RX7 TX7 7
theorem nmX7 : ∀ a, a < 7 → ∀ b, b < 7 → a ≠ b → (TX7 a).2.1 ≠ (TX7 b).2.1 := by decide +kernel
theorem tyX7_ok : ∀ k, k < 7 → parseFieldDescriptor (TX7 k).2.2.1 = some (tyX7 k) := by decide +kernel
abbrev cX7_init : ByteArray := prog_9_method_1_code
def yX7_init : MethodName := ⟨RX7, "<init>", "()V"⟩
abbrev cX7_clear : ByteArray := prog_9_method_2_code
def yX7_clear : MethodName := ⟨RX7, "clear", "()V"⟩
abbrev cX7_declareType : ByteArray := prog_9_method_3_code
def yX7_declareType : MethodName := ⟨RX7, "declareType", "()V"⟩
abbrev cX7_declareClass : ByteArray := prog_9_method_4_code
def yX7_declareClass : MethodName := ⟨RX7, "declareClass", "(I)V"⟩
abbrev cX7_types : ByteArray := prog_9_method_5_code
def yX7_types : MethodName := ⟨RX7, "types", "()I"⟩
abbrev cX7_classes : ByteArray := prog_9_method_6_code
def yX7_classes : MethodName := ⟨RX7, "classes", "()I"⟩
abbrev cX7_hasType : ByteArray := prog_9_method_7_code
def yX7_hasType : MethodName := ⟨RX7, "hasType", "(I)Z"⟩
abbrev cX7_has : ByteArray := prog_9_method_8_code
def yX7_has : MethodName := ⟨RX7, "has", "(III)Z"⟩
abbrev cX7_permissionsOf : ByteArray := prog_9_method_9_code
def yX7_permissionsOf : MethodName := ⟨RX7, "permissionsOf", "(I)I"⟩
abbrev cX7_rankOf : ByteArray := prog_9_method_10_code
def yX7_rankOf : MethodName := ⟨RX7, "rankOf", "(I)I"⟩
abbrev cX7_setRank : ByteArray := prog_9_method_11_code
def yX7_setRank : MethodName := ⟨RX7, "setRank", "(II)V"⟩
abbrev cX7_allowedAt : ByteArray := prog_9_method_12_code
def yX7_allowedAt : MethodName := ⟨RX7, "allowedAt", "(III)I"⟩
abbrev cX7_setAllowed : ByteArray := prog_9_method_13_code
def yX7_setAllowed : MethodName := ⟨RX7, "setAllowed", "(IIII)V"⟩
abbrev cX7_addAllowed : ByteArray := prog_9_method_14_code
def yX7_addAllowed : MethodName := ⟨RX7, "addAllowed", "(IIII)V"⟩
abbrev cX7_allowsSome : ByteArray := prog_9_method_15_code
def yX7_allowsSome : MethodName := ⟨RX7, "allowsSome", "(IIII)Z"⟩
abbrev cX7_productAt : ByteArray := prog_9_method_16_code
def yX7_productAt : MethodName := ⟨RX7, "productAt", "(III)I"⟩
abbrev cX7_setProduct : ByteArray := prog_9_method_17_code
def yX7_setProduct : MethodName := ⟨RX7, "setProduct", "(IIII)V"⟩
abbrev cX7_maskAt : ByteArray := prog_9_method_18_code
def yX7_maskAt : MethodName := ⟨RX7, "maskAt", "(II)I"⟩
abbrev cX7_addToMask : ByteArray := prog_9_method_19_code
def yX7_addToMask : MethodName := ⟨RX7, "addToMask", "(III)V"⟩
abbrev cX7_hasMask : ByteArray := prog_9_method_20_code
def yX7_hasMask : MethodName := ⟨RX7, "hasMask", "(II)Z"⟩
abbrev cX7_permitted : ByteArray := prog_9_method_21_code
def yX7_permitted : MethodName := ⟨RX7, "permitted", "(III)I"⟩
abbrev cX7_stepsBetween : ByteArray := prog_9_method_22_code
def yX7_stepsBetween : MethodName := ⟨RX7, "stepsBetween", "(II)I"⟩
abbrev cX7_spread : ByteArray := prog_9_method_23_code
def yX7_spread : MethodName := ⟨RX7, "spread", "(I)I"⟩
abbrev cX7_flowsInOneStep : ByteArray := prog_9_method_24_code
def yX7_flowsInOneStep : MethodName := ⟨RX7, "flowsInOneStep", "(II)Z"⟩
def RX8 : String := "PolicyDesk$Reader"
def TX8 : u_T := fun k => match k with
  | 0 => ("PolicyDesk$Reader", "text", "LPolicyDesk$Text;", true)
  | _ => ("PolicyDesk$Reader", "at", "I", false)
def tyX8 : Nat → FieldType := fun k => match k with
  | 0 => .object "PolicyDesk$Text"
  | _ => .int
abbrev wsX80 : List Cond := u_ws RX8 TX8 2
theorem nmX8 : ∀ a, a < 2 → ∀ b, b < 2 → a ≠ b → (TX8 a).2.1 ≠ (TX8 b).2.1 := by decide +kernel
theorem tyX8_ok : ∀ k, k < 2 → parseFieldDescriptor (TX8 k).2.2.1 = some (tyX8 k) := by decide +kernel
abbrev cX8_init : ByteArray := prog_10_method_1_code
def yX8_init : MethodName := ⟨RX8, "<init>", "(LPolicyDesk$Text;)V"⟩
abbrev cX8_stoppedAt : ByteArray := prog_10_method_2_code
def yX8_stoppedAt : MethodName := ⟨RX8, "stoppedAt", "()I"⟩
abbrev cX8_parse : ByteArray := prog_10_method_3_code
def yX8_parse : MethodName := ⟨RX8, "parse", "(LPolicyDesk$Statement;)Z"⟩
abbrev cX8_keyword : ByteArray := prog_10_method_4_code
def yX8_keyword : MethodName := ⟨RX8, "keyword", "(LPolicyDesk$Statement;)Z"⟩
abbrev cX8_lettersShared : ByteArray := prog_10_method_5_code
def yX8_lettersShared : MethodName := ⟨RX8, "lettersShared", "(Ljava/lang/String;)I"⟩
abbrev cX8_names : ByteArray := prog_10_method_6_code
def yX8_names : MethodName := ⟨RX8, "names", "(LPolicyDesk$Statement;I)Z"⟩
abbrev cX8_mark : ByteArray := prog_10_method_7_code
def yX8_mark : MethodName := ⟨RX8, "mark", "(LPolicyDesk$Statement;Ljava/lang/String;)Z"⟩
abbrev cX8_list : ByteArray := prog_10_method_8_code
def yX8_list : MethodName := ⟨RX8, "list", "(LPolicyDesk$Statement;II)Z"⟩
abbrev cX8_blank : ByteArray := prog_10_method_9_code
def yX8_blank : MethodName := ⟨RX8, "blank", "()Z"⟩
abbrev cX8_name : ByteArray := prog_10_method_10_code
def yX8_name : MethodName := ⟨RX8, "name", "(LPolicyDesk$Statement;)Z"⟩
abbrev cX8_atEnd : ByteArray := prog_10_method_11_code
def yX8_atEnd : MethodName := ⟨RX8, "atEnd", "()Z"⟩
abbrev cX8_isLetter : ByteArray := prog_10_method_12_code
def yX8_isLetter : MethodName := ⟨RX8, "isLetter", "(I)Z"⟩
def RX9 : String := "PolicyDesk$Statement"
def TX9 : u_T := fun k => match k with
  | 0 => ("PolicyDesk$Statement", "words", "[I", true)
  | 1 => ("PolicyDesk$Statement", "kind", "LPolicyDesk$Kind;", false)
  | 2 => ("PolicyDesk$Statement", "size", "I", false)
  | _ => ("PolicyDesk$Statement", "mark", "I", false)
def tyX9 : Nat → FieldType := fun k => match k with
  | 0 => .array .int
  | 1 => .object "PolicyDesk$Kind"
  | 2 => .int
  | _ => .int
abbrev wsX90 : List Cond := u_ws RX9 TX9 4
theorem nmX9 : ∀ a, a < 4 → ∀ b, b < 4 → a ≠ b → (TX9 a).2.1 ≠ (TX9 b).2.1 := by decide +kernel
theorem tyX9_ok : ∀ k, k < 4 → parseFieldDescriptor (TX9 k).2.2.1 = some (tyX9 k) := by decide +kernel
abbrev cX9_init : ByteArray := prog_11_method_1_code
def yX9_init : MethodName := ⟨RX9, "<init>", "()V"⟩
abbrev cX9_begin : ByteArray := prog_11_method_2_code
def yX9_begin : MethodName := ⟨RX9, "begin", "(LPolicyDesk$Kind;)V"⟩
abbrev cX9_push : ByteArray := prog_11_method_3_code
def yX9_push : MethodName := ⟨RX9, "push", "(I)V"⟩
abbrev cX9_setMark : ByteArray := prog_11_method_4_code
def yX9_setMark : MethodName := ⟨RX9, "setMark", "(I)V"⟩
abbrev cX9_kind : ByteArray := prog_11_method_5_code
def yX9_kind : MethodName := ⟨RX9, "kind", "()LPolicyDesk$Kind;"⟩
abbrev cX9_mark : ByteArray := prog_11_method_6_code
def yX9_mark : MethodName := ⟨RX9, "mark", "()I"⟩
abbrev cX9_size : ByteArray := prog_11_method_7_code
def yX9_size : MethodName := ⟨RX9, "size", "()I"⟩
abbrev cX9_word : ByteArray := prog_11_method_8_code
def yX9_word : MethodName := ⟨RX9, "word", "(I)I"⟩
abbrev cX9_find : ByteArray := prog_11_method_9_code
def yX9_find : MethodName := ⟨RX9, "find", "(II)I"⟩
abbrev cX9_allDifferFrom : ByteArray := prog_11_method_10_code
def yX9_allDifferFrom : MethodName := ⟨RX9, "allDifferFrom", "(I)Z"⟩
abbrev cX9_beginsAs : ByteArray := prog_11_method_11_code
def yX9_beginsAs : MethodName := ⟨RX9, "beginsAs", "(LPolicyDesk$Statement;I)Z"⟩
def RX10 : String := "PolicyDesk$Text"
def TX10 : u_T := fun k => match k with
  | 0 => ("PolicyDesk$Text", "codes", "[I", true)
  | _ => ("PolicyDesk$Text", "length", "I", false)
def tyX10 : Nat → FieldType := fun k => match k with
  | 0 => .array .int
  | _ => .int
abbrev wsX100 : List Cond := u_ws RX10 TX10 2
theorem nmX10 : ∀ a, a < 2 → ∀ b, b < 2 → a ≠ b → (TX10 a).2.1 ≠ (TX10 b).2.1 := by decide +kernel
theorem tyX10_ok : ∀ k, k < 2 → parseFieldDescriptor (TX10 k).2.2.1 = some (tyX10 k) := by decide +kernel
abbrev cX10_init : ByteArray := prog_12_method_1_code
def yX10_init : MethodName := ⟨RX10, "<init>", "()V"⟩
abbrev cX10_append : ByteArray := prog_12_method_2_code
def yX10_append : MethodName := ⟨RX10, "append", "(J)Z"⟩
abbrev cX10_appendCode : ByteArray := prog_12_method_3_code
def yX10_appendCode : MethodName := ⟨RX10, "appendCode", "(I)V"⟩
abbrev cX10_codeAt : ByteArray := prog_12_method_4_code
def yX10_codeAt : MethodName := ⟨RX10, "codeAt", "(I)I"⟩
abbrev cX10_length : ByteArray := prog_12_method_5_code
def yX10_length : MethodName := ⟨RX10, "length", "()I"⟩
abbrev cX10_clear : ByteArray := prog_12_method_6_code
def yX10_clear : MethodName := ⟨RX10, "clear", "()V"⟩
def RX11 : String := "PolicyDesk"
def TX11 : u_T := fun k => match k with
  | 0 => ("PolicyDesk", "text", "LPolicyDesk$Text;", true)
  | 1 => ("PolicyDesk", "reader", "LPolicyDesk$Reader;", true)
  | 2 => ("PolicyDesk", "draft", "LPolicyDesk$Draft;", true)
  | 3 => ("PolicyDesk", "memory", "LPolicyDesk$Memory;", true)
  | 4 => ("PolicyDesk", "written", "LPolicyDesk$ByteRow;", true)
  | 5 => ("PolicyDesk", "fed", "LPolicyDesk$ByteRow;", true)
  | 6 => ("PolicyDesk", "policy", "LPolicyDesk$Policy;", false)
  | 7 => ("PolicyDesk", "coming", "LPolicyDesk$Policy;", false)
  | 8 => ("PolicyDesk", "errorAt", "I", false)
  | _ => ("PolicyDesk", "faultAt", "I", false)
def tyX11 : Nat → FieldType := fun k => match k with
  | 0 => .object "PolicyDesk$Text"
  | 1 => .object "PolicyDesk$Reader"
  | 2 => .object "PolicyDesk$Draft"
  | 3 => .object "PolicyDesk$Memory"
  | 4 => .object "PolicyDesk$ByteRow"
  | 5 => .object "PolicyDesk$ByteRow"
  | 6 => .object "PolicyDesk$Policy"
  | 7 => .object "PolicyDesk$Policy"
  | 8 => .int
  | _ => .int
abbrev wsX110 : List Cond := u_ws RX11 TX11 10
theorem nmX11 : ∀ a, a < 10 → ∀ b, b < 10 → a ≠ b → (TX11 a).2.1 ≠ (TX11 b).2.1 := by decide +kernel
theorem tyX11_ok : ∀ k, k < 10 → parseFieldDescriptor (TX11 k).2.2.1 = some (tyX11 k) := by decide +kernel
abbrev cX11_init : ByteArray := prog_1_method_1_code
def yX11_init : MethodName := ⟨RX11, "<init>", "(I)V"⟩
abbrev cX11_write : ByteArray := prog_1_method_2_code
def yX11_write : MethodName := ⟨RX11, "write", "(J)Z"⟩
abbrev cX11_add : ByteArray := prog_1_method_3_code
def yX11_add : MethodName := ⟨RX11, "add", "()I"⟩
abbrev cX11_position : ByteArray := prog_1_method_4_code
def yX11_position : MethodName := ⟨RX11, "position", "()I"⟩
abbrev cX11_cut : ByteArray := prog_1_method_5_code
def yX11_cut : MethodName := ⟨RX11, "cut", "(I)Z"⟩
abbrev cX11_accept : ByteArray := prog_1_method_6_code
def yX11_accept : MethodName := ⟨RX11, "accept", "()I"⟩
abbrev cX11_fault : ByteArray := prog_1_method_7_code
def yX11_fault : MethodName := ⟨RX11, "fault", "()I"⟩
abbrev cX11_may : ByteArray := prog_1_method_8_code
def yX11_may : MethodName := ⟨RX11, "may", "(III)I"⟩
abbrev cX11_made : ByteArray := prog_1_method_9_code
def yX11_made : MethodName := ⟨RX11, "made", "(III)I"⟩
abbrev cX11_flow : ByteArray := prog_1_method_10_code
def yX11_flow : MethodName := ⟨RX11, "flow", "(II)I"⟩
abbrev cX11_count : ByteArray := prog_1_method_11_code
def yX11_count : MethodName := ⟨RX11, "count", "(I)I"⟩
abbrev cX11_image : ByteArray := prog_1_method_12_code
def yX11_image : MethodName := ⟨RX11, "image", "()I"⟩
abbrev cX11_imageAt : ByteArray := prog_1_method_13_code
def yX11_imageAt : MethodName := ⟨RX11, "imageAt", "(I)I"⟩
abbrev cX11_feed : ByteArray := prog_1_method_14_code
def yX11_feed : MethodName := ⟨RX11, "feed", "(JI)I"⟩
abbrev cX11_read : ByteArray := prog_1_method_15_code
def yX11_read : MethodName := ⟨RX11, "read", "()I"⟩
abbrev cX11_putInForce : ByteArray := prog_1_method_16_code
def yX11_putInForce : MethodName := ⟨RX11, "putInForce", "()I"⟩
abbrev cX11_byteOf : ByteArray := prog_1_method_17_code
def yX11_byteOf : MethodName := ⟨RX11, "byteOf", "(JI)I"⟩
abbrev cX11_cellOf : ByteArray := prog_1_method_18_code
def yX11_cellOf : MethodName := ⟨RX11, "cellOf", "(III)I"⟩
abbrev cX11_hasBit : ByteArray := prog_1_method_19_code
def yX11_hasBit : MethodName := ⟨RX11, "hasBit", "(II)Z"⟩
def RX12 : String := "PolicyDeskModel"
def TX12 : u_T := fun k => match k with
  | 0 => ("PolicyDeskModel", "size", "I", true)
  | 1 => ("PolicyDeskModel", "thrown", "I", false)
  | 2 => ("PolicyDeskModel", "typed", "I", false)
  | 3 => ("PolicyDeskModel", "text", "[C", true)
  | 4 => ("PolicyDeskModel", "p", "I", false)
  | 5 => ("PolicyDeskModel", "position", "I", false)
  | 6 => ("PolicyDeskModel", "statements", "I", false)
  | 7 => ("PolicyDeskModel", "kind", "[I", true)
  | 8 => ("PolicyDeskModel", "many", "[I", true)
  | 9 => ("PolicyDeskModel", "name", "[I", true)
  | 10 => ("PolicyDeskModel", "extra", "[I", true)
  | 11 => ("PolicyDeskModel", "fault", "I", false)
  | 12 => ("PolicyDeskModel", "types", "I", false)
  | 13 => ("PolicyDeskModel", "classes", "I", false)
  | 14 => ("PolicyDeskModel", "permissions", "[I", true)
  | 15 => ("PolicyDeskModel", "rank", "[I", true)
  | 16 => ("PolicyDeskModel", "allowed", "[I", true)
  | 17 => ("PolicyDeskModel", "makes", "[I", true)
  | 18 => ("PolicyDeskModel", "masks", "[I", true)
  | 19 => ("PolicyDeskModel", "typeName", "[I", true)
  | 20 => ("PolicyDeskModel", "className", "[I", true)
  | 21 => ("PolicyDeskModel", "answers", "I", false)
  | 22 => ("PolicyDeskModel", "question", "[I", true)
  | 23 => ("PolicyDeskModel", "answer", "[I", true)
  | 24 => ("PolicyDeskModel", "hits", "I", false)
  | 25 => ("PolicyDeskModel", "misses", "I", false)
  | 26 => ("PolicyDeskModel", "written", "I", false)
  | 27 => ("PolicyDeskModel", "image", "[I", true)
  | 28 => ("PolicyDeskModel", "fed", "I", false)
  | 29 => ("PolicyDeskModel", "food", "[I", true)
  | 30 => ("PolicyDeskModel", "reached", "[Z", true)
  | _ => ("PolicyDeskModel", "next", "[Z", true)
def tyX12 : Nat → FieldType := fun k => match k with
  | 0 => .int
  | 1 => .int
  | 2 => .int
  | 3 => .array .char
  | 4 => .int
  | 5 => .int
  | 6 => .int
  | 7 => .array .int
  | 8 => .array .int
  | 9 => .array .int
  | 10 => .array .int
  | 11 => .int
  | 12 => .int
  | 13 => .int
  | 14 => .array .int
  | 15 => .array .int
  | 16 => .array .int
  | 17 => .array .int
  | 18 => .array .int
  | 19 => .array .int
  | 20 => .array .int
  | 21 => .int
  | 22 => .array .int
  | 23 => .array .int
  | 24 => .int
  | 25 => .int
  | 26 => .int
  | 27 => .array .int
  | 28 => .int
  | 29 => .array .int
  | 30 => .array .boolean
  | _ => .array .boolean
abbrev wsX120 : List Cond := u_ws RX12 TX12 32
theorem nmX12 : ∀ a, a < 32 → ∀ b, b < 32 → a ≠ b → (TX12 a).2.1 ≠ (TX12 b).2.1 := by decide +kernel
theorem tyX12_ok : ∀ k, k < 32 → parseFieldDescriptor (TX12 k).2.2.1 = some (tyX12 k) := by decide +kernel
abbrev cX12_init : ByteArray := prog_14_method_1_code
def yX12_init : MethodName := ⟨RX12, "<init>", "(I)V"⟩
abbrev cX12_thrown : ByteArray := prog_14_method_2_code
def yX12_thrown : MethodName := ⟨RX12, "thrown", "()I"⟩
abbrev cX12_write : ByteArray := prog_14_method_3_code
def yX12_write : MethodName := ⟨RX12, "write", "(J)Z"⟩
abbrev cX12_here : ByteArray := prog_14_method_4_code
def yX12_here : MethodName := ⟨RX12, "here", "()C"⟩
abbrev cX12_isLetter : ByteArray := prog_14_method_5_code
def yX12_isLetter : MethodName := ⟨RX12, "isLetter", "()Z"⟩
abbrev cX12_word : ByteArray := prog_14_method_6_code
def yX12_word : MethodName := ⟨RX12, "word", "(IIIII)I"⟩
abbrev cX12_keyword : ByteArray := prog_14_method_7_code
def yX12_keyword : MethodName := ⟨RX12, "keyword", "(I)I"⟩
abbrev cX12_readKind : ByteArray := prog_14_method_8_code
def yX12_readKind : MethodName := ⟨RX12, "readKind", "()I"⟩
abbrev cX12_readName : ByteArray := prog_14_method_9_code
def yX12_readName : MethodName := ⟨RX12, "readName", "()I"⟩
abbrev cX12_readNames : ByteArray := prog_14_method_10_code
def yX12_readNames : MethodName := ⟨RX12, "readNames", "(III)Z"⟩
abbrev cX12_readStatement : ByteArray := prog_14_method_11_code
def yX12_readStatement : MethodName := ⟨RX12, "readStatement", "()Z"⟩
abbrev cX12_readExtra : ByteArray := prog_14_method_12_code
def yX12_readExtra : MethodName := ⟨RX12, "readExtra", "(II)Z"⟩
abbrev cX12_add : ByteArray := prog_14_method_13_code
def yX12_add : MethodName := ⟨RX12, "add", "()I"⟩
abbrev cX12_position : ByteArray := prog_14_method_14_code
def yX12_position : MethodName := ⟨RX12, "position", "()I"⟩
abbrev cX12_cut : ByteArray := prog_14_method_15_code
def yX12_cut : MethodName := ⟨RX12, "cut", "(I)Z"⟩
abbrev cX12_nameAt : ByteArray := prog_14_method_16_code
def yX12_nameAt : MethodName := ⟨RX12, "nameAt", "(II)I"⟩
abbrev cX12_before : ByteArray := prog_14_method_17_code
def yX12_before : MethodName := ⟨RX12, "before", "(III)I"⟩
abbrev cX12_isType : ByteArray := prog_14_method_18_code
def yX12_isType : MethodName := ⟨RX12, "isType", "(I)Z"⟩
abbrev cX12_isClass : ByteArray := prog_14_method_19_code
def yX12_isClass : MethodName := ⟨RX12, "isClass", "(I)Z"⟩
abbrev cX12_isAttribute : ByteArray := prog_14_method_20_code
def yX12_isAttribute : MethodName := ⟨RX12, "isAttribute", "(I)Z"⟩
abbrev cX12_isPermission : ByteArray := prog_14_method_21_code
def yX12_isPermission : MethodName := ⟨RX12, "isPermission", "(II)Z"⟩
abbrev cX12_isSelf : ByteArray := prog_14_method_22_code
def yX12_isSelf : MethodName := ⟨RX12, "isSelf", "(I)Z"⟩
abbrev cX12_allDifferent : ByteArray := prog_14_method_23_code
def yX12_allDifferent : MethodName := ⟨RX12, "allDifferent", "(I)Z"⟩
abbrev cX12_arePermissions : ByteArray := prog_14_method_24_code
def yX12_arePermissions : MethodName := ⟨RX12, "arePermissions", "(III)Z"⟩
abbrev cX12_twice : ByteArray := prog_14_method_25_code
def yX12_twice : MethodName := ⟨RX12, "twice", "(I)Z"⟩
abbrev cX12_isWrong : ByteArray := prog_14_method_26_code
def yX12_isWrong : MethodName := ⟨RX12, "isWrong", "(I)Z"⟩
abbrev cX12_firstWrong : ByteArray := prog_14_method_27_code
def yX12_firstWrong : MethodName := ⟨RX12, "firstWrong", "()I"⟩
abbrev cX12_typeStatement : ByteArray := prog_14_method_28_code
def yX12_typeStatement : MethodName := ⟨RX12, "typeStatement", "(I)I"⟩
abbrev cX12_standsFor : ByteArray := prog_14_method_29_code
def yX12_standsFor : MethodName := ⟨RX12, "standsFor", "(II)Z"⟩
abbrev cX12_isAbout : ByteArray := prog_14_method_30_code
def yX12_isAbout : MethodName := ⟨RX12, "isAbout", "(III)Z"⟩
abbrev cX12_firstAgainst : ByteArray := prog_14_method_31_code
def yX12_firstAgainst : MethodName := ⟨RX12, "firstAgainst", "()I"⟩
abbrev cX12_shared : ByteArray := prog_14_method_32_code
def yX12_shared : MethodName := ⟨RX12, "shared", "(II)Z"⟩
abbrev cX12_classNumber : ByteArray := prog_14_method_33_code
def yX12_classNumber : MethodName := ⟨RX12, "classNumber", "(I)I"⟩
abbrev cX12_typeNumber : ByteArray := prog_14_method_34_code
def yX12_typeNumber : MethodName := ⟨RX12, "typeNumber", "(I)I"⟩
abbrev cX12_maskOf : ByteArray := prog_14_method_35_code
def yX12_maskOf : MethodName := ⟨RX12, "maskOf", "(III)I"⟩
abbrev cX12_begin : ByteArray := prog_14_method_36_code
def yX12_begin : MethodName := ⟨RX12, "begin", "()V"⟩
abbrev cX12_put : ByteArray := prog_14_method_37_code
def yX12_put : MethodName := ⟨RX12, "put", "(I)V"⟩
abbrev cX12_accept : ByteArray := prog_14_method_38_code
def yX12_accept : MethodName := ⟨RX12, "accept", "()I"⟩
abbrev cX12_fault : ByteArray := prog_14_method_39_code
def yX12_fault : MethodName := ⟨RX12, "fault", "()I"⟩
abbrev cX12_worked : ByteArray := prog_14_method_40_code
def yX12_worked : MethodName := ⟨RX12, "worked", "(III)I"⟩
abbrev cX12_isThere : ByteArray := prog_14_method_41_code
def yX12_isThere : MethodName := ⟨RX12, "isThere", "(III)Z"⟩
abbrev cX12_may : ByteArray := prog_14_method_42_code
def yX12_may : MethodName := ⟨RX12, "may", "(III)I"⟩
abbrev cX12_made : ByteArray := prog_14_method_43_code
def yX12_made : MethodName := ⟨RX12, "made", "(III)I"⟩
abbrev cX12_flows : ByteArray := prog_14_method_44_code
def yX12_flows : MethodName := ⟨RX12, "flows", "(II)Z"⟩
abbrev cX12_flow : ByteArray := prog_14_method_45_code
def yX12_flow : MethodName := ⟨RX12, "flow", "(II)I"⟩
abbrev cX12_count : ByteArray := prog_14_method_46_code
def yX12_count : MethodName := ⟨RX12, "count", "(I)I"⟩
abbrev cX12_say : ByteArray := prog_14_method_47_code
def yX12_say : MethodName := ⟨RX12, "say", "(I)V"⟩
abbrev cX12_image : ByteArray := prog_14_method_48_code
def yX12_image : MethodName := ⟨RX12, "image", "()I"⟩
abbrev cX12_imageAt : ByteArray := prog_14_method_49_code
def yX12_imageAt : MethodName := ⟨RX12, "imageAt", "(I)I"⟩
abbrev cX12_feed : ByteArray := prog_14_method_50_code
def yX12_feed : MethodName := ⟨RX12, "feed", "(JI)I"⟩
abbrev cX12_in : ByteArray := prog_14_method_51_code
def yX12_in : MethodName := ⟨RX12, "in", "(III)Z"⟩
abbrev cX12_wellFormed : ByteArray := prog_14_method_52_code
def yX12_wellFormed : MethodName := ⟨RX12, "wellFormed", "()Z"⟩
abbrev cX12_read : ByteArray := prog_14_method_53_code
def yX12_read : MethodName := ⟨RX12, "read", "()I"⟩
def RJ11 : String := "java/lang/Character"
def TJ11 : u_T := fun k => match k with
  | _ => ("", "", "", false)
def tyJ11 : Nat → FieldType := fun k => match k with
  | _ => .int
abbrev wsJ110 : List Cond := u_ws RJ11 TJ11 0
theorem nmJ11 : ∀ a, a < 0 → ∀ b, b < 0 → a ≠ b → (TJ11 a).2.1 ≠ (TJ11 b).2.1 := by decide +kernel
theorem tyJ11_ok : ∀ k, k < 0 → parseFieldDescriptor (TJ11 k).2.2.1 = some (tyJ11 k) := by decide +kernel
abbrev cJ11_isValidCodePoint_9a6ad : ByteArray := prog_15_method_11_code
def yJ11_isValidCodePoint_9a6ad : MethodName := ⟨RJ11, "isValidCodePoint", "(I)Z"⟩
abbrev cJ11_highSurrogate_5068e : ByteArray := prog_15_method_28_code
def yJ11_highSurrogate_5068e : MethodName := ⟨RJ11, "highSurrogate", "(I)C"⟩
abbrev cJ11_lowSurrogate_5068e : ByteArray := prog_15_method_29_code
def yJ11_lowSurrogate_5068e : MethodName := ⟨RJ11, "lowSurrogate", "(I)C"⟩
def RJx29ce0 : String := "java/lang/Enum"
def TJx29ce0 : u_T := fun k => match k with
  | _ => ("", "", "", false)
def tyJx29ce0 : Nat → FieldType := fun k => match k with
  | _ => .int
theorem nmJx29ce0 : ∀ a, a < 0 → ∀ b, b < 0 → a ≠ b → (TJx29ce0 a).2.1 ≠ (TJx29ce0 b).2.1 := by decide +kernel
theorem tyJx29ce0_ok : ∀ k, k < 0 → parseFieldDescriptor (TJx29ce0 k).2.2.1 = some (tyJx29ce0 k) := by decide +kernel
abbrev cJx29ce0_ordinal_8abf5 : ByteArray := prog_16_method_2_code
def yJx29ce0_ordinal_8abf5 : MethodName := ⟨RJx29ce0, "ordinal", "()I"⟩
def RJ9 : String := "java/lang/Math"
def TJ9 : u_T := fun k => match k with
  | _ => ("", "", "", false)
def tyJ9 : Nat → FieldType := fun k => match k with
  | _ => .int
abbrev wsJ90 : List Cond := u_ws RJ9 TJ9 0
theorem nmJ9 : ∀ a, a < 0 → ∀ b, b < 0 → a ≠ b → (TJ9 a).2.1 ≠ (TJ9 b).2.1 := by decide +kernel
theorem tyJ9_ok : ∀ k, k < 0 → parseFieldDescriptor (TJ9 k).2.2.1 = some (tyJ9 k) := by decide +kernel
abbrev cJ9_max_7cf53 : ByteArray := prog_20_method_65_code
def yJ9_max_7cf53 : MethodName := ⟨RJ9, "max", "(II)I"⟩
abbrev cJ9_min_7cf53 : ByteArray := prog_20_method_69_code
def yJ9_min_7cf53 : MethodName := ⟨RJ9, "min", "(II)I"⟩
def RJ0 : String := "java/lang/String"
def TJ0 : u_T := fun k => match k with
  | _ => ("", "", "", false)
def tyJ0 : Nat → FieldType := fun k => match k with
  | _ => .int
abbrev wsJ00 : List Cond := u_ws RJ0 TJ0 0
theorem nmJ0 : ∀ a, a < 0 → ∀ b, b < 0 → a ≠ b → (TJ0 a).2.1 ≠ (TJ0 b).2.1 := by decide +kernel
theorem tyJ0_ok : ∀ k, k < 0 → parseFieldDescriptor (TJ0 k).2.2.1 = some (tyJ0 k) := by decide +kernel
abbrev cJ0_length_8abf5 : ByteArray := prog_22_method_54_code
def yJ0_length_8abf5 : MethodName := ⟨RJ0, "length", "()I"⟩
abbrev cJ0_isEmpty_aae02 : ByteArray := prog_22_method_55_code
def yJ0_isEmpty_aae02 : MethodName := ⟨RJ0, "isEmpty", "()Z"⟩
abbrev cJ0_charAt_5068e : ByteArray := prog_22_method_56_code
def yJ0_charAt_5068e : MethodName := ⟨RJ0, "charAt", "(I)C"⟩
abbrev cJ0_indexOf_0f7a4 : ByteArray := prog_22_method_79_code
def yJ0_indexOf_0f7a4 : MethodName := ⟨RJ0, "indexOf", "(I)I"⟩
abbrev cJ0_indexOf_7cf53 : ByteArray := prog_22_method_80_code
def yJ0_indexOf_7cf53 : MethodName := ⟨RJ0, "indexOf", "(II)I"⟩
abbrev cJ0_coder_7d493 : ByteArray := prog_22_method_152_code
def yJ0_coder_7d493 : MethodName := ⟨RJ0, "coder", "()B"⟩
abbrev cJ0_isLatin1_aae02 : ByteArray := prog_22_method_154_code
def yJ0_isLatin1_aae02 : MethodName := ⟨RJ0, "isLatin1", "()Z"⟩
abbrev cJ0_checkIndex_df160 : ByteArray := prog_22_method_155_code
def yJ0_checkIndex_df160 : MethodName := ⟨RJ0, "checkIndex", "(II)V"⟩
abbrev cJ0_checkBoundsBeginEnd_23922 : ByteArray := prog_22_method_158_code
def yJ0_checkBoundsBeginEnd_23922 : MethodName := ⟨RJ0, "checkBoundsBeginEnd", "(III)V"⟩
def RJ1 : String := "java/lang/StringLatin1"
def TJ1 : u_T := fun k => match k with
  | _ => ("", "", "", false)
def tyJ1 : Nat → FieldType := fun k => match k with
  | _ => .int
abbrev wsJ10 : List Cond := u_ws RJ1 TJ1 0
theorem nmJ1 : ∀ a, a < 0 → ∀ b, b < 0 → a ≠ b → (TJ1 a).2.1 ≠ (TJ1 b).2.1 := by decide +kernel
theorem tyJ1_ok : ∀ k, k < 0 → parseFieldDescriptor (TJ1 k).2.2.1 = some (tyJ1 k) := by decide +kernel
abbrev cJ1_charAt_3b067 : ByteArray := prog_23_method_2_code
def yJ1_charAt_3b067 : MethodName := ⟨RJ1, "charAt", "([BI)C"⟩
abbrev cJ1_canEncode_9a6ad : ByteArray := prog_23_method_4_code
def yJ1_canEncode_9a6ad : MethodName := ⟨RJ1, "canEncode", "(I)Z"⟩
abbrev cJ1_indexOf_4cfef : ByteArray := prog_23_method_22_code
def yJ1_indexOf_4cfef : MethodName := ⟨RJ1, "indexOf", "([BIII)I"⟩
abbrev cJ1_indexOfChar_4cfef : ByteArray := prog_23_method_23_code
def yJ1_indexOfChar_4cfef : MethodName := ⟨RJ1, "indexOfChar", "([BIII)I"⟩
def RJ2 : String := "java/lang/StringUTF16"
def TJ2 : u_T := fun k => match k with
  | _ => ("", "", "", false)
def tyJ2 : Nat → FieldType := fun k => match k with
  | _ => .int
abbrev wsJ20 : List Cond := u_ws RJ2 TJ2 0
theorem nmJ2 : ∀ a, a < 0 → ∀ b, b < 0 → a ≠ b → (TJ2 a).2.1 ≠ (TJ2 b).2.1 := by decide +kernel
theorem tyJ2_ok : ∀ k, k < 0 → parseFieldDescriptor (TJ2 k).2.2.1 = some (tyJ2 k) := by decide +kernel
abbrev cJ2_getChar_3b067 : ByteArray := prog_24_method_5_code
def yJ2_getChar_3b067 : MethodName := ⟨RJ2, "getChar", "([BI)C"⟩
abbrev cJ2_length_9d52b : ByteArray := prog_24_method_6_code
def yJ2_length_9d52b : MethodName := ⟨RJ2, "length", "([B)I"⟩
abbrev cJ2_indexOf_4cfef : ByteArray := prog_24_method_40_code
def yJ2_indexOf_4cfef : MethodName := ⟨RJ2, "indexOf", "([BIII)I"⟩
abbrev cJ2_indexOfChar_4cfef : ByteArray := prog_24_method_47_code
def yJ2_indexOfChar_4cfef : MethodName := ⟨RJ2, "indexOfChar", "([BIII)I"⟩
abbrev cJ2_indexOfCharUnsafe_4cfef : ByteArray := prog_24_method_48_code
def yJ2_indexOfCharUnsafe_4cfef : MethodName := ⟨RJ2, "indexOfCharUnsafe", "([BIII)I"⟩
abbrev cJ2_indexOfSupplementary_4cfef : ByteArray := prog_24_method_49_code
def yJ2_indexOfSupplementary_4cfef : MethodName := ⟨RJ2, "indexOfSupplementary", "([BIII)I"⟩
abbrev cJ2_charAt_3b067 : ByteArray := prog_24_method_83_code
def yJ2_charAt_3b067 : MethodName := ⟨RJ2, "charAt", "([BI)C"⟩
abbrev cJ2_checkIndex_2214a : ByteArray := prog_24_method_91_code
def yJ2_checkIndex_2214a : MethodName := ⟨RJ2, "checkIndex", "(I[B)V"⟩
abbrev cJ2_checkBoundsBeginEnd_d044e : ByteArray := prog_24_method_93_code
def yJ2_checkBoundsBeginEnd_d044e : MethodName := ⟨RJ2, "checkBoundsBeginEnd", "(II[B)V"⟩
def RJ7 : String := "java/util/Arrays"
def TJ7 : u_T := fun k => match k with
  | _ => ("", "", "", false)
def tyJ7 : Nat → FieldType := fun k => match k with
  | _ => .int
abbrev wsJ70 : List Cond := u_ws RJ7 TJ7 0
theorem nmJ7 : ∀ a, a < 0 → ∀ b, b < 0 → a ≠ b → (TJ7 a).2.1 ≠ (TJ7 b).2.1 := by decide +kernel
theorem tyJ7_ok : ∀ k, k < 0 → parseFieldDescriptor (TJ7 k).2.2.1 = some (tyJ7 k) := by decide +kernel
abbrev cJ7_fill_53178 : ByteArray := prog_26_method_103_code
def yJ7_fill_53178 : MethodName := ⟨RJ7, "fill", "([II)V"⟩
def RJ3 : String := "jdk/internal/util/Preconditions"
def TJ3 : u_T := fun k => match k with
  | _ => ("", "", "", false)
def tyJ3 : Nat → FieldType := fun k => match k with
  | _ => .int
abbrev wsJ30 : List Cond := u_ws RJ3 TJ3 0
theorem nmJ3 : ∀ a, a < 0 → ∀ b, b < 0 → a ≠ b → (TJ3 a).2.1 ≠ (TJ3 b).2.1 := by decide +kernel
theorem tyJ3_ok : ∀ k, k < 0 → parseFieldDescriptor (TJ3 k).2.2.1 = some (tyJ3 k) := by decide +kernel
abbrev cJ3_checkIndex_8e157 : ByteArray := prog_28_method_11_code
def yJ3_checkIndex_8e157 : MethodName := ⟨RJ3, "checkIndex", "(IILjava/util/function/BiFunction;)I"⟩
abbrev cJ3_checkFromToIndex_8c36e : ByteArray := prog_28_method_12_code
def yJ3_checkFromToIndex_8c36e : MethodName := ⟨RJ3, "checkFromToIndex", "(IIILjava/util/function/BiFunction;)I"⟩
def RL : String := "PolicyDeskLaw"
abbrev cL_cell : ByteArray := method_2_code
def yL_cell : MethodName := ⟨RL, "cell", "([II)I"⟩
abbrev cL_add : ByteArray := method_3_code
def yL_add : MethodName := ⟨RL, "add", "(LPolicyDesk;[J)I"⟩
abbrev cL_accept : ByteArray := method_4_code
def yL_accept : MethodName := ⟨RL, "accept", "(LPolicyDesk;[J)I"⟩
abbrev cL_may : ByteArray := method_5_code
def yL_may : MethodName := ⟨RL, "may", "(LPolicyDesk;III[J)I"⟩
abbrev cL_read : ByteArray := method_6_code
def yL_read : MethodName := ⟨RL, "read", "(LPolicyDesk;[J)I"⟩
abbrev cL_law : ByteArray := code
def yL_law : MethodName := ⟨RL, "law", "([I)Z"⟩
abbrev vwCl : List vw_C := [(RX1, TX1, 4), (RX3, TX3, 2), (RX6, TX6, 5), (RX7, TX7, 7), (RX8, TX8, 2), (RX9, TX9, 4), (RX10, TX10, 2), (RX11, TX11, 10), (RX12, TX12, 32)]
end
section
theorem dX1_init_0 : decode cX1_init 0 = .ok (.aload_n 0, 1) := by decide +kernel
theorem dX1_init_1 : decode cX1_init 1 = .ok (.invokespecial 3, 3) := by decide +kernel
theorem dX1_init_4 : decode cX1_init 4 = .ok (.aload_n 0, 1) := by decide +kernel
theorem dX1_init_5 : decode cX1_init 5 = .ok (.sipush 420, 3) := by decide +kernel
theorem dX1_init_8 : decode cX1_init 8 = .ok (.newarray .int, 2) := by decide +kernel
theorem dX1_init_10 : decode cX1_init 10 = .ok (.putfield 9, 3) := by decide +kernel
theorem dX1_init_13 : decode cX1_init 13 = .ok (.aload_n 0, 1) := by decide +kernel
theorem dX1_init_14 : decode cX1_init 14 = .ok (.iconst 0, 1) := by decide +kernel
theorem dX1_init_15 : decode cX1_init 15 = .ok (.putfield 15, 3) := by decide +kernel
theorem dX1_init_18 : decode cX1_init 18 = .ok (.aload_n 0, 1) := by decide +kernel
theorem dX1_init_19 : decode cX1_init 19 = .ok (.iconst 0, 1) := by decide +kernel
theorem dX1_init_20 : decode cX1_init 20 = .ok (.putfield 19, 3) := by decide +kernel
theorem dX1_init_23 : decode cX1_init 23 = .ok (.aload_n 0, 1) := by decide +kernel
theorem dX1_init_24 : decode cX1_init 24 = .ok (.iconst 0, 1) := by decide +kernel
theorem dX1_init_25 : decode cX1_init 25 = .ok (.putfield 22, 3) := by decide +kernel
theorem dX1_init_28 : decode cX1_init 28 = .ok (.return_, 1) := by decide +kernel
theorem dX1_length_0 : decode cX1_length 0 = .ok (.aload_n 0, 1) := by decide +kernel
theorem dX1_length_1 : decode cX1_length 1 = .ok (.getfield 15, 3) := by decide +kernel
theorem dX1_length_4 : decode cX1_length 4 = .ok (.ireturn, 1) := by decide +kernel
theorem dX1_room_0 : decode cX1_room 0 = .ok (.aload_n 0, 1) := by decide +kernel
theorem dX1_room_1 : decode cX1_room 1 = .ok (.getfield 9, 3) := by decide +kernel
theorem dX1_room_4 : decode cX1_room 4 = .ok (.arraylength, 1) := by decide +kernel
theorem dX1_room_5 : decode cX1_room 5 = .ok (.aload_n 0, 1) := by decide +kernel
theorem dX1_room_6 : decode cX1_room 6 = .ok (.getfield 15, 3) := by decide +kernel
theorem dX1_room_9 : decode cX1_room 9 = .ok (.isub, 1) := by decide +kernel
theorem dX1_room_10 : decode cX1_room 10 = .ok (.ireturn, 1) := by decide +kernel
theorem dX1_clear_0 : decode cX1_clear 0 = .ok (.aload_n 0, 1) := by decide +kernel
theorem dX1_clear_1 : decode cX1_clear 1 = .ok (.iconst 0, 1) := by decide +kernel
theorem dX1_clear_2 : decode cX1_clear 2 = .ok (.putfield 15, 3) := by decide +kernel
theorem dX1_clear_5 : decode cX1_clear 5 = .ok (.return_, 1) := by decide +kernel
theorem dX1_push_0 : decode cX1_push 0 = .ok (.aload_n 0, 1) := by decide +kernel
theorem dX1_push_1 : decode cX1_push 1 = .ok (.getfield 15, 3) := by decide +kernel
theorem dX1_push_4 : decode cX1_push 4 = .ok (.aload_n 0, 1) := by decide +kernel
theorem dX1_push_5 : decode cX1_push 5 = .ok (.getfield 9, 3) := by decide +kernel
theorem dX1_push_8 : decode cX1_push 8 = .ok (.arraylength, 1) := by decide +kernel
theorem dX1_push_9 : decode cX1_push 9 = .ok (.if_icmp .ge 23, 3) := by decide +kernel
theorem dX1_push_12 : decode cX1_push 12 = .ok (.aload_n 0, 1) := by decide +kernel
theorem dX1_push_13 : decode cX1_push 13 = .ok (.getfield 9, 3) := by decide +kernel
theorem dX1_push_16 : decode cX1_push 16 = .ok (.aload_n 0, 1) := by decide +kernel
theorem dX1_push_17 : decode cX1_push 17 = .ok (.getfield 15, 3) := by decide +kernel
theorem dX1_push_20 : decode cX1_push 20 = .ok (.iload_n 1, 1) := by decide +kernel
theorem dX1_push_21 : decode cX1_push 21 = .ok (.iastore, 1) := by decide +kernel
theorem dX1_push_22 : decode cX1_push 22 = .ok (.aload_n 0, 1) := by decide +kernel
theorem dX1_push_23 : decode cX1_push 23 = .ok (.dup, 1) := by decide +kernel
theorem dX1_push_24 : decode cX1_push 24 = .ok (.getfield 15, 3) := by decide +kernel
theorem dX1_push_27 : decode cX1_push 27 = .ok (.iconst 1, 1) := by decide +kernel
theorem dX1_push_28 : decode cX1_push 28 = .ok (.iadd, 1) := by decide +kernel
theorem dX1_push_29 : decode cX1_push 29 = .ok (.putfield 15, 3) := by decide +kernel
theorem dX1_push_32 : decode cX1_push 32 = .ok (.return_, 1) := by decide +kernel
theorem dX1_byteAt_0 : decode cX1_byteAt 0 = .ok (.iload_n 1, 1) := by decide +kernel
theorem dX1_byteAt_1 : decode cX1_byteAt 1 = .ok (.ifCond .lt 20, 3) := by decide +kernel
theorem dX1_byteAt_4 : decode cX1_byteAt 4 = .ok (.iload_n 1, 1) := by decide +kernel
theorem dX1_byteAt_5 : decode cX1_byteAt 5 = .ok (.aload_n 0, 1) := by decide +kernel
theorem dX1_byteAt_6 : decode cX1_byteAt 6 = .ok (.getfield 15, 3) := by decide +kernel
theorem dX1_byteAt_9 : decode cX1_byteAt 9 = .ok (.if_icmp .ge 12, 3) := by decide +kernel
theorem dX1_byteAt_12 : decode cX1_byteAt 12 = .ok (.aload_n 0, 1) := by decide +kernel
theorem dX1_byteAt_13 : decode cX1_byteAt 13 = .ok (.getfield 9, 3) := by decide +kernel
theorem dX1_byteAt_16 : decode cX1_byteAt 16 = .ok (.iload_n 1, 1) := by decide +kernel
theorem dX1_byteAt_17 : decode cX1_byteAt 17 = .ok (.iaload, 1) := by decide +kernel
theorem dX1_byteAt_18 : decode cX1_byteAt 18 = .ok (.goto 4, 3) := by decide +kernel
theorem dX1_byteAt_21 : decode cX1_byteAt 21 = .ok (.iconst (-1), 1) := by decide +kernel
theorem dX1_byteAt_22 : decode cX1_byteAt 22 = .ok (.ireturn, 1) := by decide +kernel
theorem dX1_rewind_0 : decode cX1_rewind 0 = .ok (.aload_n 0, 1) := by decide +kernel
theorem dX1_rewind_1 : decode cX1_rewind 1 = .ok (.iconst 0, 1) := by decide +kernel
theorem dX1_rewind_2 : decode cX1_rewind 2 = .ok (.putfield 19, 3) := by decide +kernel
theorem dX1_rewind_5 : decode cX1_rewind 5 = .ok (.aload_n 0, 1) := by decide +kernel
theorem dX1_rewind_6 : decode cX1_rewind 6 = .ok (.iconst 0, 1) := by decide +kernel
theorem dX1_rewind_7 : decode cX1_rewind 7 = .ok (.putfield 22, 3) := by decide +kernel
theorem dX1_rewind_10 : decode cX1_rewind 10 = .ok (.return_, 1) := by decide +kernel
theorem dX1_take_0 : decode cX1_take 0 = .ok (.aload_n 0, 1) := by decide +kernel
theorem dX1_take_1 : decode cX1_take 1 = .ok (.aload_n 0, 1) := by decide +kernel
theorem dX1_take_2 : decode cX1_take 2 = .ok (.getfield 19, 3) := by decide +kernel
theorem dX1_take_5 : decode cX1_take 5 = .ok (.invokevirtual 26, 3) := by decide +kernel
theorem dX1_take_8 : decode cX1_take 8 = .ok (.istore_n 3, 1) := by decide +kernel
theorem dX1_take_9 : decode cX1_take 9 = .ok (.aload_n 0, 1) := by decide +kernel
theorem dX1_take_10 : decode cX1_take 10 = .ok (.dup, 1) := by decide +kernel
theorem dX1_take_11 : decode cX1_take 11 = .ok (.getfield 19, 3) := by decide +kernel
theorem dX1_take_14 : decode cX1_take 14 = .ok (.iconst 1, 1) := by decide +kernel
theorem dX1_take_15 : decode cX1_take 15 = .ok (.iadd, 1) := by decide +kernel
theorem dX1_take_16 : decode cX1_take 16 = .ok (.putfield 19, 3) := by decide +kernel
theorem dX1_take_19 : decode cX1_take 19 = .ok (.iload_n 3, 1) := by decide +kernel
theorem dX1_take_20 : decode cX1_take 20 = .ok (.iload_n 1, 1) := by decide +kernel
theorem dX1_take_21 : decode cX1_take 21 = .ok (.if_icmp .lt 8, 3) := by decide +kernel
theorem dX1_take_24 : decode cX1_take 24 = .ok (.iload_n 3, 1) := by decide +kernel
theorem dX1_take_25 : decode cX1_take 25 = .ok (.iload_n 2, 1) := by decide +kernel
theorem dX1_take_26 : decode cX1_take 26 = .ok (.if_icmp .le 10, 3) := by decide +kernel
theorem dX1_take_29 : decode cX1_take 29 = .ok (.aload_n 0, 1) := by decide +kernel
theorem dX1_take_30 : decode cX1_take 30 = .ok (.iconst 1, 1) := by decide +kernel
theorem dX1_take_31 : decode cX1_take 31 = .ok (.putfield 22, 3) := by decide +kernel
theorem dX1_take_34 : decode cX1_take 34 = .ok (.iload_n 1, 1) := by decide +kernel
theorem dX1_take_35 : decode cX1_take 35 = .ok (.ireturn, 1) := by decide +kernel
theorem dX1_take_36 : decode cX1_take 36 = .ok (.iload_n 3, 1) := by decide +kernel
theorem dX1_take_37 : decode cX1_take 37 = .ok (.ireturn, 1) := by decide +kernel
theorem dX1_isTakenWhole_0 : decode cX1_isTakenWhole 0 = .ok (.aload_n 0, 1) := by decide +kernel
theorem dX1_isTakenWhole_1 : decode cX1_isTakenWhole 1 = .ok (.getfield 22, 3) := by decide +kernel
theorem dX1_isTakenWhole_4 : decode cX1_isTakenWhole 4 = .ok (.ifCond .ne 18, 3) := by decide +kernel
theorem dX1_isTakenWhole_7 : decode cX1_isTakenWhole 7 = .ok (.aload_n 0, 1) := by decide +kernel
theorem dX1_isTakenWhole_8 : decode cX1_isTakenWhole 8 = .ok (.getfield 19, 3) := by decide +kernel
theorem dX1_isTakenWhole_11 : decode cX1_isTakenWhole 11 = .ok (.aload_n 0, 1) := by decide +kernel
theorem dX1_isTakenWhole_12 : decode cX1_isTakenWhole 12 = .ok (.getfield 15, 3) := by decide +kernel
theorem dX1_isTakenWhole_15 : decode cX1_isTakenWhole 15 = .ok (.if_icmp .ne 7, 3) := by decide +kernel
theorem dX1_isTakenWhole_18 : decode cX1_isTakenWhole 18 = .ok (.iconst 1, 1) := by decide +kernel
theorem dX1_isTakenWhole_19 : decode cX1_isTakenWhole 19 = .ok (.goto 4, 3) := by decide +kernel
theorem dX1_isTakenWhole_22 : decode cX1_isTakenWhole 22 = .ok (.iconst 0, 1) := by decide +kernel
theorem dX1_isTakenWhole_23 : decode cX1_isTakenWhole 23 = .ok (.ireturn, 1) := by decide +kernel
theorem dX2_compose_0 : decode cX2_compose 0 = .ok (.aload_n 1, 1) := by decide +kernel
theorem dX2_compose_1 : decode cX2_compose 1 = .ok (.invokevirtual 9, 3) := by decide +kernel
theorem dX2_compose_4 : decode cX2_compose 4 = .ok (.iconst 0, 1) := by decide +kernel
theorem dX2_compose_5 : decode cX2_compose 5 = .ok (.istore_n 2, 1) := by decide +kernel
theorem dX2_compose_6 : decode cX2_compose 6 = .ok (.iload_n 2, 1) := by decide +kernel
theorem dX2_compose_7 : decode cX2_compose 7 = .ok (.aload_n 0, 1) := by decide +kernel
theorem dX2_compose_8 : decode cX2_compose 8 = .ok (.invokevirtual 14, 3) := by decide +kernel
theorem dX2_compose_11 : decode cX2_compose 11 = .ok (.if_icmp .ge 18, 3) := by decide +kernel
theorem dX2_compose_14 : decode cX2_compose 14 = .ok (.aload_n 0, 1) := by decide +kernel
theorem dX2_compose_15 : decode cX2_compose 15 = .ok (.iload_n 2, 1) := by decide +kernel
theorem dX2_compose_16 : decode cX2_compose 16 = .ok (.invokevirtual 20, 3) := by decide +kernel
theorem dX2_compose_19 : decode cX2_compose 19 = .ok (.aload_n 1, 1) := by decide +kernel
theorem dX2_compose_20 : decode cX2_compose 20 = .ok (.invokestatic 24, 3) := by decide +kernel
theorem dX2_compose_23 : decode cX2_compose 23 = .ok (.iinc 2 1, 3) := by decide +kernel
theorem dX2_compose_26 : decode cX2_compose 26 = .ok (.goto (-20), 3) := by decide +kernel
theorem dX2_compose_29 : decode cX2_compose 29 = .ok (.iconst 0, 1) := by decide +kernel
theorem dX2_compose_30 : decode cX2_compose 30 = .ok (.istore_n 2, 1) := by decide +kernel
theorem dX2_compose_31 : decode cX2_compose 31 = .ok (.iload_n 2, 1) := by decide +kernel
theorem dX2_compose_32 : decode cX2_compose 32 = .ok (.aload_n 0, 1) := by decide +kernel
theorem dX2_compose_33 : decode cX2_compose 33 = .ok (.invokevirtual 14, 3) := by decide +kernel
theorem dX2_compose_36 : decode cX2_compose 36 = .ok (.if_icmp .ge 19, 3) := by decide +kernel
theorem dX2_compose_39 : decode cX2_compose 39 = .ok (.aload_n 0, 1) := by decide +kernel
theorem dX2_compose_40 : decode cX2_compose 40 = .ok (.aload_n 0, 1) := by decide +kernel
theorem dX2_compose_41 : decode cX2_compose 41 = .ok (.iload_n 2, 1) := by decide +kernel
theorem dX2_compose_42 : decode cX2_compose 42 = .ok (.invokevirtual 20, 3) := by decide +kernel
theorem dX2_compose_45 : decode cX2_compose 45 = .ok (.aload_n 1, 1) := by decide +kernel
theorem dX2_compose_46 : decode cX2_compose 46 = .ok (.invokestatic 30, 3) := by decide +kernel
theorem dX2_compose_49 : decode cX2_compose 49 = .ok (.iinc 2 1, 3) := by decide +kernel
theorem dX2_compose_52 : decode cX2_compose 52 = .ok (.goto (-21), 3) := by decide +kernel
theorem dX2_compose_55 : decode cX2_compose 55 = .ok (.return_, 1) := by decide +kernel
theorem dX2_declare_0 : decode cX2_declare 0 = .ok (.aload_n 0, 1) := by decide +kernel
theorem dX2_declare_1 : decode cX2_declare 1 = .ok (.invokevirtual 34, 3) := by decide +kernel
theorem dX2_declare_4 : decode cX2_declare 4 = .ok (.getstatic 40, 3) := by decide +kernel
theorem dX2_declare_7 : decode cX2_declare 7 = .ok (.if_acmp .ne 7, 3) := by decide +kernel
theorem dX2_declare_10 : decode cX2_declare 10 = .ok (.aload_n 1, 1) := by decide +kernel
theorem dX2_declare_11 : decode cX2_declare 11 = .ok (.invokevirtual 46, 3) := by decide +kernel
theorem dX2_declare_14 : decode cX2_declare 14 = .ok (.aload_n 0, 1) := by decide +kernel
theorem dX2_declare_15 : decode cX2_declare 15 = .ok (.invokevirtual 34, 3) := by decide +kernel
theorem dX2_declare_18 : decode cX2_declare 18 = .ok (.getstatic 49, 3) := by decide +kernel
theorem dX2_declare_21 : decode cX2_declare 21 = .ok (.if_acmp .ne 13, 3) := by decide +kernel
theorem dX2_declare_24 : decode cX2_declare 24 = .ok (.aload_n 1, 1) := by decide +kernel
theorem dX2_declare_25 : decode cX2_declare 25 = .ok (.aload_n 0, 1) := by decide +kernel
theorem dX2_declare_26 : decode cX2_declare 26 = .ok (.invokevirtual 52, 3) := by decide +kernel
theorem dX2_declare_29 : decode cX2_declare 29 = .ok (.iconst 1, 1) := by decide +kernel
theorem dX2_declare_30 : decode cX2_declare 30 = .ok (.isub, 1) := by decide +kernel
theorem dX2_declare_31 : decode cX2_declare 31 = .ok (.invokevirtual 53, 3) := by decide +kernel
theorem dX2_declare_34 : decode cX2_declare 34 = .ok (.return_, 1) := by decide +kernel
theorem dX2_apply_0 : decode cX2_apply 0 = .ok (.getstatic 57, 3) := by decide +kernel
theorem dX2_apply_3 : decode cX2_apply 3 = .ok (.aload_n 1, 1) := by decide +kernel
theorem dX2_apply_4 : decode cX2_apply 4 = .ok (.invokevirtual 34, 3) := by decide +kernel
theorem dX2_apply_7 : decode cX2_apply 7 = .ok (.invokevirtual 63, 3) := by decide +kernel
theorem dX2_apply_10 : decode cX2_apply 10 = .ok (.iaload, 1) := by decide +kernel
theorem dX2_apply_11 : decode cX2_apply 11 = .ok (.tableswitch 163 3 9 #[41, 163, 50, 107, 130, 143, 153], 41) := by decide +kernel
theorem dX2_apply_52 : decode cX2_apply 52 = .ok (.aload_n 0, 1) := by decide +kernel
theorem dX2_apply_53 : decode cX2_apply 53 = .ok (.aload_n 1, 1) := by decide +kernel
theorem dX2_apply_54 : decode cX2_apply 54 = .ok (.aload_n 2, 1) := by decide +kernel
theorem dX2_apply_55 : decode cX2_apply 55 = .ok (.invokestatic 66, 3) := by decide +kernel
theorem dX2_apply_58 : decode cX2_apply 58 = .ok (.goto 116, 3) := by decide +kernel
theorem dX2_apply_61 : decode cX2_apply 61 = .ok (.aload_n 2, 1) := by decide +kernel
theorem dX2_apply_62 : decode cX2_apply 62 = .ok (.aload_n 0, 1) := by decide +kernel
theorem dX2_apply_63 : decode cX2_apply 63 = .ok (.getstatic 40, 3) := by decide +kernel
theorem dX2_apply_66 : decode cX2_apply 66 = .ok (.aload_n 1, 1) := by decide +kernel
theorem dX2_apply_67 : decode cX2_apply 67 = .ok (.iconst 0, 1) := by decide +kernel
theorem dX2_apply_68 : decode cX2_apply 68 = .ok (.invokevirtual 69, 3) := by decide +kernel
theorem dX2_apply_71 : decode cX2_apply 71 = .ok (.invokevirtual 73, 3) := by decide +kernel
theorem dX2_apply_74 : decode cX2_apply 74 = .ok (.aload_n 0, 1) := by decide +kernel
theorem dX2_apply_75 : decode cX2_apply 75 = .ok (.getstatic 40, 3) := by decide +kernel
theorem dX2_apply_78 : decode cX2_apply 78 = .ok (.aload_n 1, 1) := by decide +kernel
theorem dX2_apply_79 : decode cX2_apply 79 = .ok (.iconst 1, 1) := by decide +kernel
theorem dX2_apply_80 : decode cX2_apply 80 = .ok (.invokevirtual 69, 3) := by decide +kernel
theorem dX2_apply_83 : decode cX2_apply 83 = .ok (.invokevirtual 73, 3) := by decide +kernel
theorem dX2_apply_86 : decode cX2_apply 86 = .ok (.aload_n 0, 1) := by decide +kernel
theorem dX2_apply_87 : decode cX2_apply 87 = .ok (.getstatic 49, 3) := by decide +kernel
theorem dX2_apply_90 : decode cX2_apply 90 = .ok (.aload_n 1, 1) := by decide +kernel
theorem dX2_apply_91 : decode cX2_apply 91 = .ok (.iconst 2, 1) := by decide +kernel
theorem dX2_apply_92 : decode cX2_apply 92 = .ok (.invokevirtual 69, 3) := by decide +kernel
theorem dX2_apply_95 : decode cX2_apply 95 = .ok (.invokevirtual 73, 3) := by decide +kernel
theorem dX2_apply_98 : decode cX2_apply 98 = .ok (.aload_n 0, 1) := by decide +kernel
theorem dX2_apply_99 : decode cX2_apply 99 = .ok (.getstatic 40, 3) := by decide +kernel
theorem dX2_apply_102 : decode cX2_apply 102 = .ok (.aload_n 1, 1) := by decide +kernel
theorem dX2_apply_103 : decode cX2_apply 103 = .ok (.iconst 3, 1) := by decide +kernel
theorem dX2_apply_104 : decode cX2_apply 104 = .ok (.invokevirtual 69, 3) := by decide +kernel
theorem dX2_apply_107 : decode cX2_apply 107 = .ok (.invokevirtual 73, 3) := by decide +kernel
theorem dX2_apply_110 : decode cX2_apply 110 = .ok (.iconst 1, 1) := by decide +kernel
theorem dX2_apply_111 : decode cX2_apply 111 = .ok (.iadd, 1) := by decide +kernel
theorem dX2_apply_112 : decode cX2_apply 112 = .ok (.invokevirtual 77, 3) := by decide +kernel
theorem dX2_apply_115 : decode cX2_apply 115 = .ok (.goto 59, 3) := by decide +kernel
theorem dX2_apply_118 : decode cX2_apply 118 = .ok (.aload_n 2, 1) := by decide +kernel
theorem dX2_apply_119 : decode cX2_apply 119 = .ok (.aload_n 0, 1) := by decide +kernel
theorem dX2_apply_120 : decode cX2_apply 120 = .ok (.getstatic 40, 3) := by decide +kernel
theorem dX2_apply_123 : decode cX2_apply 123 = .ok (.aload_n 1, 1) := by decide +kernel
theorem dX2_apply_124 : decode cX2_apply 124 = .ok (.iconst 0, 1) := by decide +kernel
theorem dX2_apply_125 : decode cX2_apply 125 = .ok (.invokevirtual 69, 3) := by decide +kernel
theorem dX2_apply_128 : decode cX2_apply 128 = .ok (.invokevirtual 73, 3) := by decide +kernel
theorem dX2_apply_131 : decode cX2_apply 131 = .ok (.aload_n 1, 1) := by decide +kernel
theorem dX2_apply_132 : decode cX2_apply 132 = .ok (.invokevirtual 81, 3) := by decide +kernel
theorem dX2_apply_135 : decode cX2_apply 135 = .ok (.invokevirtual 84, 3) := by decide +kernel
theorem dX2_apply_138 : decode cX2_apply 138 = .ok (.goto 36, 3) := by decide +kernel
theorem dX2_apply_141 : decode cX2_apply 141 = .ok (.aload_n 0, 1) := by decide +kernel
theorem dX2_apply_142 : decode cX2_apply 142 = .ok (.aload_n 1, 1) := by decide +kernel
theorem dX2_apply_143 : decode cX2_apply 143 = .ok (.aload_n 2, 1) := by decide +kernel
theorem dX2_apply_144 : decode cX2_apply 144 = .ok (.aload_n 1, 1) := by decide +kernel
theorem dX2_apply_145 : decode cX2_apply 145 = .ok (.invokevirtual 81, 3) := by decide +kernel
theorem dX2_apply_148 : decode cX2_apply 148 = .ok (.invokestatic 88, 3) := by decide +kernel
theorem dX2_apply_151 : decode cX2_apply 151 = .ok (.goto 23, 3) := by decide +kernel
theorem dX2_apply_154 : decode cX2_apply 154 = .ok (.aload_n 0, 1) := by decide +kernel
theorem dX2_apply_155 : decode cX2_apply 155 = .ok (.aload_n 1, 1) := by decide +kernel
theorem dX2_apply_156 : decode cX2_apply 156 = .ok (.aload_n 2, 1) := by decide +kernel
theorem dX2_apply_157 : decode cX2_apply 157 = .ok (.iconst 3, 1) := by decide +kernel
theorem dX2_apply_158 : decode cX2_apply 158 = .ok (.invokestatic 88, 3) := by decide +kernel
theorem dX2_apply_161 : decode cX2_apply 161 = .ok (.goto 13, 3) := by decide +kernel
theorem dX2_apply_164 : decode cX2_apply 164 = .ok (.aload_n 0, 1) := by decide +kernel
theorem dX2_apply_165 : decode cX2_apply 165 = .ok (.aload_n 1, 1) := by decide +kernel
theorem dX2_apply_166 : decode cX2_apply 166 = .ok (.aload_n 2, 1) := by decide +kernel
theorem dX2_apply_167 : decode cX2_apply 167 = .ok (.iconst 4, 1) := by decide +kernel
theorem dX2_apply_168 : decode cX2_apply 168 = .ok (.invokestatic 88, 3) := by decide +kernel
theorem dX2_apply_171 : decode cX2_apply 171 = .ok (.goto 3, 3) := by decide +kernel
theorem dX2_apply_174 : decode cX2_apply 174 = .ok (.return_, 1) := by decide +kernel
theorem dX2_widen_0 : decode cX2_widen 0 = .ok (.aload_n 2, 1) := by decide +kernel
theorem dX2_widen_1 : decode cX2_widen 1 = .ok (.aload_n 0, 1) := by decide +kernel
theorem dX2_widen_2 : decode cX2_widen 2 = .ok (.getstatic 49, 3) := by decide +kernel
theorem dX2_widen_5 : decode cX2_widen 5 = .ok (.aload_n 1, 1) := by decide +kernel
theorem dX2_widen_6 : decode cX2_widen 6 = .ok (.iconst 0, 1) := by decide +kernel
theorem dX2_widen_7 : decode cX2_widen 7 = .ok (.invokevirtual 69, 3) := by decide +kernel
theorem dX2_widen_10 : decode cX2_widen 10 = .ok (.invokevirtual 73, 3) := by decide +kernel
theorem dX2_widen_13 : decode cX2_widen 13 = .ok (.iload_n 3, 1) := by decide +kernel
theorem dX2_widen_14 : decode cX2_widen 14 = .ok (.aload_n 0, 1) := by decide +kernel
theorem dX2_widen_15 : decode cX2_widen 15 = .ok (.aload_n 1, 1) := by decide +kernel
theorem dX2_widen_16 : decode cX2_widen 16 = .ok (.iconst 0, 1) := by decide +kernel
theorem dX2_widen_17 : decode cX2_widen 17 = .ok (.invokevirtual 92, 3) := by decide +kernel
theorem dX2_widen_20 : decode cX2_widen 20 = .ok (.invokevirtual 96, 3) := by decide +kernel
theorem dX2_widen_23 : decode cX2_widen 23 = .ok (.return_, 1) := by decide +kernel
theorem dX2_allow_0 : decode cX2_allow 0 = .ok (.aload_n 0, 1) := by decide +kernel
theorem dX2_allow_1 : decode cX2_allow 1 = .ok (.aload_n 1, 1) := by decide +kernel
theorem dX2_allow_2 : decode cX2_allow 2 = .ok (.iconst 0, 1) := by decide +kernel
theorem dX2_allow_3 : decode cX2_allow 3 = .ok (.invokevirtual 69, 3) := by decide +kernel
theorem dX2_allow_6 : decode cX2_allow 6 = .ok (.invokevirtual 100, 3) := by decide +kernel
theorem dX2_allow_9 : decode cX2_allow 9 = .ok (.istore_n 3, 1) := by decide +kernel
theorem dX2_allow_10 : decode cX2_allow 10 = .ok (.aload_n 0, 1) := by decide +kernel
theorem dX2_allow_11 : decode cX2_allow 11 = .ok (.aload_n 1, 1) := by decide +kernel
theorem dX2_allow_12 : decode cX2_allow 12 = .ok (.iconst 1, 1) := by decide +kernel
theorem dX2_allow_13 : decode cX2_allow 13 = .ok (.invokevirtual 69, 3) := by decide +kernel
theorem dX2_allow_16 : decode cX2_allow 16 = .ok (.invokevirtual 100, 3) := by decide +kernel
theorem dX2_allow_19 : decode cX2_allow 19 = .ok (.istore 4, 2) := by decide +kernel
theorem dX2_allow_21 : decode cX2_allow 21 = .ok (.aload_n 0, 1) := by decide +kernel
theorem dX2_allow_22 : decode cX2_allow 22 = .ok (.getstatic 49, 3) := by decide +kernel
theorem dX2_allow_25 : decode cX2_allow 25 = .ok (.aload_n 1, 1) := by decide +kernel
theorem dX2_allow_26 : decode cX2_allow 26 = .ok (.iconst 2, 1) := by decide +kernel
theorem dX2_allow_27 : decode cX2_allow 27 = .ok (.invokevirtual 69, 3) := by decide +kernel
theorem dX2_allow_30 : decode cX2_allow 30 = .ok (.invokevirtual 73, 3) := by decide +kernel
theorem dX2_allow_33 : decode cX2_allow 33 = .ok (.istore 5, 2) := by decide +kernel
theorem dX2_allow_35 : decode cX2_allow 35 = .ok (.aload_n 0, 1) := by decide +kernel
theorem dX2_allow_36 : decode cX2_allow 36 = .ok (.aload_n 1, 1) := by decide +kernel
theorem dX2_allow_37 : decode cX2_allow 37 = .ok (.iconst 2, 1) := by decide +kernel
theorem dX2_allow_38 : decode cX2_allow 38 = .ok (.invokevirtual 92, 3) := by decide +kernel
theorem dX2_allow_41 : decode cX2_allow 41 = .ok (.istore 6, 2) := by decide +kernel
theorem dX2_allow_43 : decode cX2_allow 43 = .ok (.iconst 0, 1) := by decide +kernel
theorem dX2_allow_44 : decode cX2_allow 44 = .ok (.istore 7, 2) := by decide +kernel
theorem dX2_allow_46 : decode cX2_allow 46 = .ok (.iload 7, 2) := by decide +kernel
theorem dX2_allow_48 : decode cX2_allow 48 = .ok (.aload_n 2, 1) := by decide +kernel
theorem dX2_allow_49 : decode cX2_allow 49 = .ok (.invokevirtual 103, 3) := by decide +kernel
theorem dX2_allow_52 : decode cX2_allow 52 = .ok (.if_icmp .ge 36, 3) := by decide +kernel
theorem dX2_allow_55 : decode cX2_allow 55 = .ok (.iload_n 3, 1) := by decide +kernel
theorem dX2_allow_56 : decode cX2_allow 56 = .ok (.iload 7, 2) := by decide +kernel
theorem dX2_allow_58 : decode cX2_allow 58 = .ok (.invokestatic 106, 3) := by decide +kernel
theorem dX2_allow_61 : decode cX2_allow 61 = .ok (.ifCond .eq 21, 3) := by decide +kernel
theorem dX2_allow_64 : decode cX2_allow 64 = .ok (.aload_n 2, 1) := by decide +kernel
theorem dX2_allow_65 : decode cX2_allow 65 = .ok (.iload 7, 2) := by decide +kernel
theorem dX2_allow_67 : decode cX2_allow 67 = .ok (.aload_n 1, 1) := by decide +kernel
theorem dX2_allow_68 : decode cX2_allow 68 = .ok (.iload 7, 2) := by decide +kernel
theorem dX2_allow_70 : decode cX2_allow 70 = .ok (.iload 4, 2) := by decide +kernel
theorem dX2_allow_72 : decode cX2_allow 72 = .ok (.invokestatic 110, 3) := by decide +kernel
theorem dX2_allow_75 : decode cX2_allow 75 = .ok (.iload 5, 2) := by decide +kernel
theorem dX2_allow_77 : decode cX2_allow 77 = .ok (.iload 6, 2) := by decide +kernel
theorem dX2_allow_79 : decode cX2_allow 79 = .ok (.invokevirtual 114, 3) := by decide +kernel
theorem dX2_allow_82 : decode cX2_allow 82 = .ok (.iinc 7 1, 3) := by decide +kernel
theorem dX2_allow_85 : decode cX2_allow 85 = .ok (.goto (-39), 3) := by decide +kernel
theorem dX2_allow_88 : decode cX2_allow 88 = .ok (.return_, 1) := by decide +kernel
theorem dX2_firstAgainst_0 : decode cX2_firstAgainst 0 = .ok (.iconst 0, 1) := by decide +kernel
theorem dX2_firstAgainst_1 : decode cX2_firstAgainst 1 = .ok (.istore_n 2, 1) := by decide +kernel
theorem dX2_firstAgainst_2 : decode cX2_firstAgainst 2 = .ok (.iload_n 2, 1) := by decide +kernel
theorem dX2_firstAgainst_3 : decode cX2_firstAgainst 3 = .ok (.aload_n 0, 1) := by decide +kernel
theorem dX2_firstAgainst_4 : decode cX2_firstAgainst 4 = .ok (.invokevirtual 14, 3) := by decide +kernel
theorem dX2_firstAgainst_7 : decode cX2_firstAgainst 7 = .ok (.if_icmp .ge 38, 3) := by decide +kernel
theorem dX2_firstAgainst_10 : decode cX2_firstAgainst 10 = .ok (.aload_n 0, 1) := by decide +kernel
theorem dX2_firstAgainst_11 : decode cX2_firstAgainst 11 = .ok (.iload_n 2, 1) := by decide +kernel
theorem dX2_firstAgainst_12 : decode cX2_firstAgainst 12 = .ok (.invokevirtual 20, 3) := by decide +kernel
theorem dX2_firstAgainst_15 : decode cX2_firstAgainst 15 = .ok (.invokevirtual 34, 3) := by decide +kernel
theorem dX2_firstAgainst_18 : decode cX2_firstAgainst 18 = .ok (.getstatic 117, 3) := by decide +kernel
theorem dX2_firstAgainst_21 : decode cX2_firstAgainst 21 = .ok (.if_acmp .ne 18, 3) := by decide +kernel
theorem dX2_firstAgainst_24 : decode cX2_firstAgainst 24 = .ok (.aload_n 0, 1) := by decide +kernel
theorem dX2_firstAgainst_25 : decode cX2_firstAgainst 25 = .ok (.aload_n 0, 1) := by decide +kernel
theorem dX2_firstAgainst_26 : decode cX2_firstAgainst 26 = .ok (.iload_n 2, 1) := by decide +kernel
theorem dX2_firstAgainst_27 : decode cX2_firstAgainst 27 = .ok (.invokevirtual 20, 3) := by decide +kernel
theorem dX2_firstAgainst_30 : decode cX2_firstAgainst 30 = .ok (.aload_n 1, 1) := by decide +kernel
theorem dX2_firstAgainst_31 : decode cX2_firstAgainst 31 = .ok (.invokestatic 120, 3) := by decide +kernel
theorem dX2_firstAgainst_34 : decode cX2_firstAgainst 34 = .ok (.ifCond .eq 5, 3) := by decide +kernel
theorem dX2_firstAgainst_37 : decode cX2_firstAgainst 37 = .ok (.iload_n 2, 1) := by decide +kernel
theorem dX2_firstAgainst_38 : decode cX2_firstAgainst 38 = .ok (.ireturn, 1) := by decide +kernel
theorem dX2_firstAgainst_39 : decode cX2_firstAgainst 39 = .ok (.iinc 2 1, 3) := by decide +kernel
theorem dX2_firstAgainst_42 : decode cX2_firstAgainst 42 = .ok (.goto (-40), 3) := by decide +kernel
theorem dX2_firstAgainst_45 : decode cX2_firstAgainst 45 = .ok (.iconst (-1), 1) := by decide +kernel
theorem dX2_firstAgainst_46 : decode cX2_firstAgainst 46 = .ok (.ireturn, 1) := by decide +kernel
theorem dX2_isAgainst_0 : decode cX2_isAgainst 0 = .ok (.aload_n 0, 1) := by decide +kernel
theorem dX2_isAgainst_1 : decode cX2_isAgainst 1 = .ok (.aload_n 1, 1) := by decide +kernel
theorem dX2_isAgainst_2 : decode cX2_isAgainst 2 = .ok (.iconst 0, 1) := by decide +kernel
theorem dX2_isAgainst_3 : decode cX2_isAgainst 3 = .ok (.invokevirtual 69, 3) := by decide +kernel
theorem dX2_isAgainst_6 : decode cX2_isAgainst 6 = .ok (.invokevirtual 100, 3) := by decide +kernel
theorem dX2_isAgainst_9 : decode cX2_isAgainst 9 = .ok (.istore_n 3, 1) := by decide +kernel
theorem dX2_isAgainst_10 : decode cX2_isAgainst 10 = .ok (.aload_n 0, 1) := by decide +kernel
theorem dX2_isAgainst_11 : decode cX2_isAgainst 11 = .ok (.aload_n 1, 1) := by decide +kernel
theorem dX2_isAgainst_12 : decode cX2_isAgainst 12 = .ok (.iconst 1, 1) := by decide +kernel
theorem dX2_isAgainst_13 : decode cX2_isAgainst 13 = .ok (.invokevirtual 69, 3) := by decide +kernel
theorem dX2_isAgainst_16 : decode cX2_isAgainst 16 = .ok (.invokevirtual 100, 3) := by decide +kernel
theorem dX2_isAgainst_19 : decode cX2_isAgainst 19 = .ok (.istore 4, 2) := by decide +kernel
theorem dX2_isAgainst_21 : decode cX2_isAgainst 21 = .ok (.aload_n 0, 1) := by decide +kernel
theorem dX2_isAgainst_22 : decode cX2_isAgainst 22 = .ok (.getstatic 49, 3) := by decide +kernel
theorem dX2_isAgainst_25 : decode cX2_isAgainst 25 = .ok (.aload_n 1, 1) := by decide +kernel
theorem dX2_isAgainst_26 : decode cX2_isAgainst 26 = .ok (.iconst 2, 1) := by decide +kernel
theorem dX2_isAgainst_27 : decode cX2_isAgainst 27 = .ok (.invokevirtual 69, 3) := by decide +kernel
theorem dX2_isAgainst_30 : decode cX2_isAgainst 30 = .ok (.invokevirtual 73, 3) := by decide +kernel
theorem dX2_isAgainst_33 : decode cX2_isAgainst 33 = .ok (.istore 5, 2) := by decide +kernel
theorem dX2_isAgainst_35 : decode cX2_isAgainst 35 = .ok (.aload_n 0, 1) := by decide +kernel
theorem dX2_isAgainst_36 : decode cX2_isAgainst 36 = .ok (.aload_n 1, 1) := by decide +kernel
theorem dX2_isAgainst_37 : decode cX2_isAgainst 37 = .ok (.iconst 2, 1) := by decide +kernel
theorem dX2_isAgainst_38 : decode cX2_isAgainst 38 = .ok (.invokevirtual 92, 3) := by decide +kernel
theorem dX2_isAgainst_41 : decode cX2_isAgainst 41 = .ok (.istore 6, 2) := by decide +kernel
theorem dX2_isAgainst_43 : decode cX2_isAgainst 43 = .ok (.iconst 0, 1) := by decide +kernel
theorem dX2_isAgainst_44 : decode cX2_isAgainst 44 = .ok (.istore 7, 2) := by decide +kernel
theorem dX2_isAgainst_46 : decode cX2_isAgainst 46 = .ok (.iload 7, 2) := by decide +kernel
theorem dX2_isAgainst_48 : decode cX2_isAgainst 48 = .ok (.aload_n 2, 1) := by decide +kernel
theorem dX2_isAgainst_49 : decode cX2_isAgainst 49 = .ok (.invokevirtual 103, 3) := by decide +kernel
theorem dX2_isAgainst_52 : decode cX2_isAgainst 52 = .ok (.if_icmp .ge 41, 3) := by decide +kernel
theorem dX2_isAgainst_55 : decode cX2_isAgainst 55 = .ok (.iload_n 3, 1) := by decide +kernel
theorem dX2_isAgainst_56 : decode cX2_isAgainst 56 = .ok (.iload 7, 2) := by decide +kernel
theorem dX2_isAgainst_58 : decode cX2_isAgainst 58 = .ok (.invokestatic 106, 3) := by decide +kernel
theorem dX2_isAgainst_61 : decode cX2_isAgainst 61 = .ok (.ifCond .eq 26, 3) := by decide +kernel
theorem dX2_isAgainst_64 : decode cX2_isAgainst 64 = .ok (.aload_n 2, 1) := by decide +kernel
theorem dX2_isAgainst_65 : decode cX2_isAgainst 65 = .ok (.iload 7, 2) := by decide +kernel
theorem dX2_isAgainst_67 : decode cX2_isAgainst 67 = .ok (.aload_n 1, 1) := by decide +kernel
theorem dX2_isAgainst_68 : decode cX2_isAgainst 68 = .ok (.iload 7, 2) := by decide +kernel
theorem dX2_isAgainst_70 : decode cX2_isAgainst 70 = .ok (.iload 4, 2) := by decide +kernel
theorem dX2_isAgainst_72 : decode cX2_isAgainst 72 = .ok (.invokestatic 110, 3) := by decide +kernel
theorem dX2_isAgainst_75 : decode cX2_isAgainst 75 = .ok (.iload 5, 2) := by decide +kernel
theorem dX2_isAgainst_77 : decode cX2_isAgainst 77 = .ok (.iload 6, 2) := by decide +kernel
theorem dX2_isAgainst_79 : decode cX2_isAgainst 79 = .ok (.invokevirtual 124, 3) := by decide +kernel
theorem dX2_isAgainst_82 : decode cX2_isAgainst 82 = .ok (.ifCond .eq 5, 3) := by decide +kernel
theorem dX2_isAgainst_85 : decode cX2_isAgainst 85 = .ok (.iconst 1, 1) := by decide +kernel
theorem dX2_isAgainst_86 : decode cX2_isAgainst 86 = .ok (.ireturn, 1) := by decide +kernel
theorem dX2_isAgainst_87 : decode cX2_isAgainst 87 = .ok (.iinc 7 1, 3) := by decide +kernel
theorem dX2_isAgainst_90 : decode cX2_isAgainst 90 = .ok (.goto (-44), 3) := by decide +kernel
theorem dX2_isAgainst_93 : decode cX2_isAgainst 93 = .ok (.iconst 0, 1) := by decide +kernel
theorem dX2_isAgainst_94 : decode cX2_isAgainst 94 = .ok (.ireturn, 1) := by decide +kernel
theorem dX2_othersFor_0 : decode cX2_othersFor 0 = .ok (.aload_n 0, 1) := by decide +kernel
theorem dX2_othersFor_1 : decode cX2_othersFor 1 = .ok (.iconst 1, 1) := by decide +kernel
theorem dX2_othersFor_2 : decode cX2_othersFor 2 = .ok (.invokevirtual 69, 3) := by decide +kernel
theorem dX2_othersFor_5 : decode cX2_othersFor 5 = .ok (.ldc 128, 2) := by decide +kernel
theorem dX2_othersFor_7 : decode cX2_othersFor 7 = .ok (.if_icmp .ne 9, 3) := by decide +kernel
theorem dX2_othersFor_10 : decode cX2_othersFor 10 = .ok (.iconst 1, 1) := by decide +kernel
theorem dX2_othersFor_11 : decode cX2_othersFor 11 = .ok (.iload_n 1, 1) := by decide +kernel
theorem dX2_othersFor_12 : decode cX2_othersFor 12 = .ok (.ishl, 1) := by decide +kernel
theorem dX2_othersFor_13 : decode cX2_othersFor 13 = .ok (.goto 4, 3) := by decide +kernel
theorem dX2_othersFor_16 : decode cX2_othersFor 16 = .ok (.iload_n 2, 1) := by decide +kernel
theorem dX2_othersFor_17 : decode cX2_othersFor 17 = .ok (.ireturn, 1) := by decide +kernel
theorem dX3_init_0 : decode cX3_init 0 = .ok (.aload_n 0, 1) := by decide +kernel
theorem dX3_init_1 : decode cX3_init 1 = .ok (.invokespecial 3, 3) := by decide +kernel
theorem dX3_init_4 : decode cX3_init 4 = .ok (.aload_n 0, 1) := by decide +kernel
theorem dX3_init_5 : decode cX3_init 5 = .ok (.bipush 41, 2) := by decide +kernel
theorem dX3_init_7 : decode cX3_init 7 = .ok (.anewarray 9, 3) := by decide +kernel
theorem dX3_init_10 : decode cX3_init 10 = .ok (.putfield 11, 3) := by decide +kernel
theorem dX3_init_13 : decode cX3_init 13 = .ok (.aload_n 0, 1) := by decide +kernel
theorem dX3_init_14 : decode cX3_init 14 = .ok (.iconst 0, 1) := by decide +kernel
theorem dX3_init_15 : decode cX3_init 15 = .ok (.putfield 17, 3) := by decide +kernel
theorem dX3_init_18 : decode cX3_init 18 = .ok (.iconst 0, 1) := by decide +kernel
theorem dX3_init_19 : decode cX3_init 19 = .ok (.istore_n 1, 1) := by decide +kernel
theorem dX3_init_20 : decode cX3_init 20 = .ok (.iload_n 1, 1) := by decide +kernel
theorem dX3_init_21 : decode cX3_init 21 = .ok (.aload_n 0, 1) := by decide +kernel
theorem dX3_init_22 : decode cX3_init 22 = .ok (.getfield 11, 3) := by decide +kernel
theorem dX3_init_25 : decode cX3_init 25 = .ok (.arraylength, 1) := by decide +kernel
theorem dX3_init_26 : decode cX3_init 26 = .ok (.if_icmp .ge 22, 3) := by decide +kernel
theorem dX3_init_29 : decode cX3_init 29 = .ok (.aload_n 0, 1) := by decide +kernel
theorem dX3_init_30 : decode cX3_init 30 = .ok (.getfield 11, 3) := by decide +kernel
theorem dX3_init_33 : decode cX3_init 33 = .ok (.iload_n 1, 1) := by decide +kernel
theorem dX3_init_34 : decode cX3_init 34 = .ok (.new 9, 3) := by decide +kernel
theorem dX3_init_37 : decode cX3_init 37 = .ok (.dup, 1) := by decide +kernel
theorem dX3_init_38 : decode cX3_init 38 = .ok (.invokespecial 21, 3) := by decide +kernel
theorem dX3_init_41 : decode cX3_init 41 = .ok (.aastore, 1) := by decide +kernel
theorem dX3_init_42 : decode cX3_init 42 = .ok (.iinc 1 1, 3) := by decide +kernel
theorem dX3_init_45 : decode cX3_init 45 = .ok (.goto (-25), 3) := by decide +kernel
theorem dX3_init_48 : decode cX3_init 48 = .ok (.return_, 1) := by decide +kernel
theorem dX3_size_0 : decode cX3_size 0 = .ok (.aload_n 0, 1) := by decide +kernel
theorem dX3_size_1 : decode cX3_size 1 = .ok (.getfield 17, 3) := by decide +kernel
theorem dX3_size_4 : decode cX3_size 4 = .ok (.ireturn, 1) := by decide +kernel
theorem dX3_row_0 : decode cX3_row 0 = .ok (.aload_n 0, 1) := by decide +kernel
theorem dX3_row_1 : decode cX3_row 1 = .ok (.getfield 11, 3) := by decide +kernel
theorem dX3_row_4 : decode cX3_row 4 = .ok (.iload_n 1, 1) := by decide +kernel
theorem dX3_row_5 : decode cX3_row 5 = .ok (.ifCond .lt 15, 3) := by decide +kernel
theorem dX3_row_8 : decode cX3_row 8 = .ok (.iload_n 1, 1) := by decide +kernel
theorem dX3_row_9 : decode cX3_row 9 = .ok (.aload_n 0, 1) := by decide +kernel
theorem dX3_row_10 : decode cX3_row 10 = .ok (.getfield 17, 3) := by decide +kernel
theorem dX3_row_13 : decode cX3_row 13 = .ok (.if_icmp .ge 7, 3) := by decide +kernel
theorem dX3_row_16 : decode cX3_row 16 = .ok (.iload_n 1, 1) := by decide +kernel
theorem dX3_row_17 : decode cX3_row 17 = .ok (.goto 7, 3) := by decide +kernel
theorem dX3_row_20 : decode cX3_row 20 = .ok (.aload_n 0, 1) := by decide +kernel
theorem dX3_row_21 : decode cX3_row 21 = .ok (.getfield 17, 3) := by decide +kernel
theorem dX3_row_24 : decode cX3_row 24 = .ok (.aaload, 1) := by decide +kernel
theorem dX3_row_25 : decode cX3_row 25 = .ok (.areturn, 1) := by decide +kernel
theorem dX3_spare_0 : decode cX3_spare 0 = .ok (.aload_n 0, 1) := by decide +kernel
theorem dX3_spare_1 : decode cX3_spare 1 = .ok (.getfield 11, 3) := by decide +kernel
theorem dX3_spare_4 : decode cX3_spare 4 = .ok (.aload_n 0, 1) := by decide +kernel
theorem dX3_spare_5 : decode cX3_spare 5 = .ok (.getfield 17, 3) := by decide +kernel
theorem dX3_spare_8 : decode cX3_spare 8 = .ok (.aaload, 1) := by decide +kernel
theorem dX3_spare_9 : decode cX3_spare 9 = .ok (.areturn, 1) := by decide +kernel
theorem dX3_hasRoom_0 : decode cX3_hasRoom 0 = .ok (.aload_n 0, 1) := by decide +kernel
theorem dX3_hasRoom_1 : decode cX3_hasRoom 1 = .ok (.getfield 17, 3) := by decide +kernel
theorem dX3_hasRoom_4 : decode cX3_hasRoom 4 = .ok (.bipush 40, 2) := by decide +kernel
theorem dX3_hasRoom_6 : decode cX3_hasRoom 6 = .ok (.if_icmp .ge 7, 3) := by decide +kernel
theorem dX3_hasRoom_9 : decode cX3_hasRoom 9 = .ok (.iconst 1, 1) := by decide +kernel
theorem dX3_hasRoom_10 : decode cX3_hasRoom 10 = .ok (.goto 4, 3) := by decide +kernel
theorem dX3_hasRoom_13 : decode cX3_hasRoom 13 = .ok (.iconst 0, 1) := by decide +kernel
theorem dX3_hasRoom_14 : decode cX3_hasRoom 14 = .ok (.ireturn, 1) := by decide +kernel
theorem dX3_keepSpare_0 : decode cX3_keepSpare 0 = .ok (.aload_n 0, 1) := by decide +kernel
theorem dX3_keepSpare_1 : decode cX3_keepSpare 1 = .ok (.getfield 17, 3) := by decide +kernel
theorem dX3_keepSpare_4 : decode cX3_keepSpare 4 = .ok (.istore_n 1, 1) := by decide +kernel
theorem dX3_keepSpare_5 : decode cX3_keepSpare 5 = .ok (.aload_n 0, 1) := by decide +kernel
theorem dX3_keepSpare_6 : decode cX3_keepSpare 6 = .ok (.dup, 1) := by decide +kernel
theorem dX3_keepSpare_7 : decode cX3_keepSpare 7 = .ok (.getfield 17, 3) := by decide +kernel
theorem dX3_keepSpare_10 : decode cX3_keepSpare 10 = .ok (.aload_n 0, 1) := by decide +kernel
theorem dX3_keepSpare_11 : decode cX3_keepSpare 11 = .ok (.invokevirtual 22, 3) := by decide +kernel
theorem dX3_keepSpare_14 : decode cX3_keepSpare 14 = .ok (.ifCond .eq 7, 3) := by decide +kernel
theorem dX3_keepSpare_17 : decode cX3_keepSpare 17 = .ok (.iconst 1, 1) := by decide +kernel
theorem dX3_keepSpare_18 : decode cX3_keepSpare 18 = .ok (.goto 4, 3) := by decide +kernel
theorem dX3_keepSpare_21 : decode cX3_keepSpare 21 = .ok (.iconst 0, 1) := by decide +kernel
theorem dX3_keepSpare_22 : decode cX3_keepSpare 22 = .ok (.iadd, 1) := by decide +kernel
theorem dX3_keepSpare_23 : decode cX3_keepSpare 23 = .ok (.putfield 17, 3) := by decide +kernel
theorem dX3_keepSpare_26 : decode cX3_keepSpare 26 = .ok (.iload_n 1, 1) := by decide +kernel
theorem dX3_keepSpare_27 : decode cX3_keepSpare 27 = .ok (.ireturn, 1) := by decide +kernel
theorem dX3_shorten_0 : decode cX3_shorten 0 = .ok (.iload_n 1, 1) := by decide +kernel
theorem dX3_shorten_1 : decode cX3_shorten 1 = .ok (.ifCond .lt 11, 3) := by decide +kernel
theorem dX3_shorten_4 : decode cX3_shorten 4 = .ok (.iload_n 1, 1) := by decide +kernel
theorem dX3_shorten_5 : decode cX3_shorten 5 = .ok (.aload_n 0, 1) := by decide +kernel
theorem dX3_shorten_6 : decode cX3_shorten 6 = .ok (.getfield 17, 3) := by decide +kernel
theorem dX3_shorten_9 : decode cX3_shorten 9 = .ok (.if_icmp .le 5, 3) := by decide +kernel
theorem dX3_shorten_12 : decode cX3_shorten 12 = .ok (.iconst 0, 1) := by decide +kernel
theorem dX3_shorten_13 : decode cX3_shorten 13 = .ok (.ireturn, 1) := by decide +kernel
theorem dX3_shorten_14 : decode cX3_shorten 14 = .ok (.aload_n 0, 1) := by decide +kernel
theorem dX3_shorten_15 : decode cX3_shorten 15 = .ok (.iload_n 1, 1) := by decide +kernel
theorem dX3_shorten_16 : decode cX3_shorten 16 = .ok (.putfield 17, 3) := by decide +kernel
theorem dX3_shorten_19 : decode cX3_shorten 19 = .ok (.iconst 1, 1) := by decide +kernel
theorem dX3_shorten_20 : decode cX3_shorten 20 = .ok (.ireturn, 1) := by decide +kernel
theorem dX3_firstWrong_0 : decode cX3_firstWrong 0 = .ok (.iconst 0, 1) := by decide +kernel
theorem dX3_firstWrong_1 : decode cX3_firstWrong 1 = .ok (.istore_n 1, 1) := by decide +kernel
theorem dX3_firstWrong_2 : decode cX3_firstWrong 2 = .ok (.iload_n 1, 1) := by decide +kernel
theorem dX3_firstWrong_3 : decode cX3_firstWrong 3 = .ok (.aload_n 0, 1) := by decide +kernel
theorem dX3_firstWrong_4 : decode cX3_firstWrong 4 = .ok (.getfield 17, 3) := by decide +kernel
theorem dX3_firstWrong_7 : decode cX3_firstWrong 7 = .ok (.if_icmp .ge 19, 3) := by decide +kernel
theorem dX3_firstWrong_10 : decode cX3_firstWrong 10 = .ok (.aload_n 0, 1) := by decide +kernel
theorem dX3_firstWrong_11 : decode cX3_firstWrong 11 = .ok (.iload_n 1, 1) := by decide +kernel
theorem dX3_firstWrong_12 : decode cX3_firstWrong 12 = .ok (.invokevirtual 26, 3) := by decide +kernel
theorem dX3_firstWrong_15 : decode cX3_firstWrong 15 = .ok (.ifCond .eq 5, 3) := by decide +kernel
theorem dX3_firstWrong_18 : decode cX3_firstWrong 18 = .ok (.iload_n 1, 1) := by decide +kernel
theorem dX3_firstWrong_19 : decode cX3_firstWrong 19 = .ok (.ireturn, 1) := by decide +kernel
theorem dX3_firstWrong_20 : decode cX3_firstWrong 20 = .ok (.iinc 1 1, 3) := by decide +kernel
theorem dX3_firstWrong_23 : decode cX3_firstWrong 23 = .ok (.goto (-21), 3) := by decide +kernel
theorem dX3_firstWrong_26 : decode cX3_firstWrong 26 = .ok (.aload_n 0, 1) := by decide +kernel
theorem dX3_firstWrong_27 : decode cX3_firstWrong 27 = .ok (.getstatic 30, 3) := by decide +kernel
theorem dX3_firstWrong_30 : decode cX3_firstWrong 30 = .ok (.aload_n 0, 1) := by decide +kernel
theorem dX3_firstWrong_31 : decode cX3_firstWrong 31 = .ok (.getfield 17, 3) := by decide +kernel
theorem dX3_firstWrong_34 : decode cX3_firstWrong 34 = .ok (.invokevirtual 36, 3) := by decide +kernel
theorem dX3_firstWrong_37 : decode cX3_firstWrong 37 = .ok (.ifCond .eq 17, 3) := by decide +kernel
theorem dX3_firstWrong_40 : decode cX3_firstWrong 40 = .ok (.aload_n 0, 1) := by decide +kernel
theorem dX3_firstWrong_41 : decode cX3_firstWrong 41 = .ok (.getstatic 40, 3) := by decide +kernel
theorem dX3_firstWrong_44 : decode cX3_firstWrong 44 = .ok (.aload_n 0, 1) := by decide +kernel
theorem dX3_firstWrong_45 : decode cX3_firstWrong 45 = .ok (.getfield 17, 3) := by decide +kernel
theorem dX3_firstWrong_48 : decode cX3_firstWrong 48 = .ok (.invokevirtual 36, 3) := by decide +kernel
theorem dX3_firstWrong_51 : decode cX3_firstWrong 51 = .ok (.ifCond .ne 10, 3) := by decide +kernel
theorem dX3_firstWrong_54 : decode cX3_firstWrong 54 = .ok (.aload_n 0, 1) := by decide +kernel
theorem dX3_firstWrong_55 : decode cX3_firstWrong 55 = .ok (.getfield 17, 3) := by decide +kernel
theorem dX3_firstWrong_58 : decode cX3_firstWrong 58 = .ok (.goto 4, 3) := by decide +kernel
theorem dX3_firstWrong_61 : decode cX3_firstWrong 61 = .ok (.iconst (-1), 1) := by decide +kernel
theorem dX3_firstWrong_62 : decode cX3_firstWrong 62 = .ok (.ireturn, 1) := by decide +kernel
theorem dX3_isWrong_0 : decode cX3_isWrong 0 = .ok (.aload_n 0, 1) := by decide +kernel
theorem dX3_isWrong_1 : decode cX3_isWrong 1 = .ok (.getfield 11, 3) := by decide +kernel
theorem dX3_isWrong_4 : decode cX3_isWrong 4 = .ok (.iload_n 1, 1) := by decide +kernel
theorem dX3_isWrong_5 : decode cX3_isWrong 5 = .ok (.aaload, 1) := by decide +kernel
theorem dX3_isWrong_6 : decode cX3_isWrong 6 = .ok (.astore_n 2, 1) := by decide +kernel
theorem dX3_isWrong_7 : decode cX3_isWrong 7 = .ok (.getstatic 43, 3) := by decide +kernel
theorem dX3_isWrong_10 : decode cX3_isWrong 10 = .ok (.aload_n 2, 1) := by decide +kernel
theorem dX3_isWrong_11 : decode cX3_isWrong 11 = .ok (.invokevirtual 49, 3) := by decide +kernel
theorem dX3_isWrong_14 : decode cX3_isWrong 14 = .ok (.invokevirtual 53, 3) := by decide +kernel
theorem dX3_isWrong_17 : decode cX3_isWrong 17 = .ok (.iaload, 1) := by decide +kernel
theorem dX3_isWrong_18 : decode cX3_isWrong 18 = .ok (.tableswitch 264 1 6 #[38, 73, 121, 121, 170, 237], 38) := by decide +kernel
theorem dX3_isWrong_56 : decode cX3_isWrong 56 = .ok (.aload_n 0, 1) := by decide +kernel
theorem dX3_isWrong_57 : decode cX3_isWrong 57 = .ok (.iload_n 1, 1) := by decide +kernel
theorem dX3_isWrong_58 : decode cX3_isWrong 58 = .ok (.iconst 1, 1) := by decide +kernel
theorem dX3_isWrong_59 : decode cX3_isWrong 59 = .ok (.invokevirtual 57, 3) := by decide +kernel
theorem dX3_isWrong_62 : decode cX3_isWrong 62 = .ok (.ifCond .ne 23, 3) := by decide +kernel
theorem dX3_isWrong_65 : decode cX3_isWrong 65 = .ok (.aload_n 2, 1) := by decide +kernel
theorem dX3_isWrong_66 : decode cX3_isWrong 66 = .ok (.iconst 1, 1) := by decide +kernel
theorem dX3_isWrong_67 : decode cX3_isWrong 67 = .ok (.invokevirtual 61, 3) := by decide +kernel
theorem dX3_isWrong_70 : decode cX3_isWrong 70 = .ok (.ifCond .eq 15, 3) := by decide +kernel
theorem dX3_isWrong_73 : decode cX3_isWrong 73 = .ok (.aload_n 0, 1) := by decide +kernel
theorem dX3_isWrong_74 : decode cX3_isWrong 74 = .ok (.getstatic 40, 3) := by decide +kernel
theorem dX3_isWrong_77 : decode cX3_isWrong 77 = .ok (.iload_n 1, 1) := by decide +kernel
theorem dX3_isWrong_78 : decode cX3_isWrong 78 = .ok (.invokevirtual 36, 3) := by decide +kernel
theorem dX3_isWrong_81 : decode cX3_isWrong 81 = .ok (.iconst 3, 1) := by decide +kernel
theorem dX3_isWrong_82 : decode cX3_isWrong 82 = .ok (.if_icmp .lt 7, 3) := by decide +kernel
theorem dX3_isWrong_85 : decode cX3_isWrong 85 = .ok (.iconst 1, 1) := by decide +kernel
theorem dX3_isWrong_86 : decode cX3_isWrong 86 = .ok (.goto 4, 3) := by decide +kernel
theorem dX3_isWrong_89 : decode cX3_isWrong 89 = .ok (.iconst 0, 1) := by decide +kernel
theorem dX3_isWrong_90 : decode cX3_isWrong 90 = .ok (.ireturn, 1) := by decide +kernel
theorem dX3_isWrong_91 : decode cX3_isWrong 91 = .ok (.aload_n 0, 1) := by decide +kernel
theorem dX3_isWrong_92 : decode cX3_isWrong 92 = .ok (.iload_n 1, 1) := by decide +kernel
theorem dX3_isWrong_93 : decode cX3_isWrong 93 = .ok (.iconst 1, 1) := by decide +kernel
theorem dX3_isWrong_94 : decode cX3_isWrong 94 = .ok (.invokevirtual 57, 3) := by decide +kernel
theorem dX3_isWrong_97 : decode cX3_isWrong 97 = .ok (.ifCond .ne 36, 3) := by decide +kernel
theorem dX3_isWrong_100 : decode cX3_isWrong 100 = .ok (.aload_n 0, 1) := by decide +kernel
theorem dX3_isWrong_101 : decode cX3_isWrong 101 = .ok (.aload_n 2, 1) := by decide +kernel
theorem dX3_isWrong_102 : decode cX3_isWrong 102 = .ok (.iconst 0, 1) := by decide +kernel
theorem dX3_isWrong_103 : decode cX3_isWrong 103 = .ok (.invokevirtual 64, 3) := by decide +kernel
theorem dX3_isWrong_106 : decode cX3_isWrong 106 = .ok (.invokevirtual 68, 3) := by decide +kernel
theorem dX3_isWrong_109 : decode cX3_isWrong 109 = .ok (.ifCond .ne 24, 3) := by decide +kernel
theorem dX3_isWrong_112 : decode cX3_isWrong 112 = .ok (.aload_n 2, 1) := by decide +kernel
theorem dX3_isWrong_113 : decode cX3_isWrong 113 = .ok (.iconst 1, 1) := by decide +kernel
theorem dX3_isWrong_114 : decode cX3_isWrong 114 = .ok (.invokevirtual 61, 3) := by decide +kernel
theorem dX3_isWrong_117 : decode cX3_isWrong 117 = .ok (.ifCond .eq 16, 3) := by decide +kernel
theorem dX3_isWrong_120 : decode cX3_isWrong 120 = .ok (.aload_n 0, 1) := by decide +kernel
theorem dX3_isWrong_121 : decode cX3_isWrong 121 = .ok (.getstatic 30, 3) := by decide +kernel
theorem dX3_isWrong_124 : decode cX3_isWrong 124 = .ok (.iload_n 1, 1) := by decide +kernel
theorem dX3_isWrong_125 : decode cX3_isWrong 125 = .ok (.invokevirtual 36, 3) := by decide +kernel
theorem dX3_isWrong_128 : decode cX3_isWrong 128 = .ok (.bipush 8, 2) := by decide +kernel
theorem dX3_isWrong_130 : decode cX3_isWrong 130 = .ok (.if_icmp .lt 7, 3) := by decide +kernel
theorem dX3_isWrong_133 : decode cX3_isWrong 133 = .ok (.iconst 1, 1) := by decide +kernel
theorem dX3_isWrong_134 : decode cX3_isWrong 134 = .ok (.goto 4, 3) := by decide +kernel
theorem dX3_isWrong_137 : decode cX3_isWrong 137 = .ok (.iconst 0, 1) := by decide +kernel
theorem dX3_isWrong_138 : decode cX3_isWrong 138 = .ok (.ireturn, 1) := by decide +kernel
theorem dX3_isWrong_139 : decode cX3_isWrong 139 = .ok (.aload_n 0, 1) := by decide +kernel
theorem dX3_isWrong_140 : decode cX3_isWrong 140 = .ok (.aload_n 2, 1) := by decide +kernel
theorem dX3_isWrong_141 : decode cX3_isWrong 141 = .ok (.iconst 0, 1) := by decide +kernel
theorem dX3_isWrong_142 : decode cX3_isWrong 142 = .ok (.invokevirtual 64, 3) := by decide +kernel
theorem dX3_isWrong_145 : decode cX3_isWrong 145 = .ok (.invokevirtual 71, 3) := by decide +kernel
theorem dX3_isWrong_148 : decode cX3_isWrong 148 = .ok (.ifCond .eq 34, 3) := by decide +kernel
theorem dX3_isWrong_151 : decode cX3_isWrong 151 = .ok (.aload_n 2, 1) := by decide +kernel
theorem dX3_isWrong_152 : decode cX3_isWrong 152 = .ok (.iconst 1, 1) := by decide +kernel
theorem dX3_isWrong_153 : decode cX3_isWrong 153 = .ok (.invokevirtual 64, 3) := by decide +kernel
theorem dX3_isWrong_156 : decode cX3_isWrong 156 = .ok (.ldc 74, 2) := by decide +kernel
theorem dX3_isWrong_158 : decode cX3_isWrong 158 = .ok (.if_icmp .eq 15, 3) := by decide +kernel
theorem dX3_isWrong_161 : decode cX3_isWrong 161 = .ok (.aload_n 0, 1) := by decide +kernel
theorem dX3_isWrong_162 : decode cX3_isWrong 162 = .ok (.aload_n 2, 1) := by decide +kernel
theorem dX3_isWrong_163 : decode cX3_isWrong 163 = .ok (.iconst 1, 1) := by decide +kernel
theorem dX3_isWrong_164 : decode cX3_isWrong 164 = .ok (.invokevirtual 64, 3) := by decide +kernel
theorem dX3_isWrong_167 : decode cX3_isWrong 167 = .ok (.invokevirtual 71, 3) := by decide +kernel
theorem dX3_isWrong_170 : decode cX3_isWrong 170 = .ok (.ifCond .eq 12, 3) := by decide +kernel
theorem dX3_isWrong_173 : decode cX3_isWrong 173 = .ok (.aload_n 0, 1) := by decide +kernel
theorem dX3_isWrong_174 : decode cX3_isWrong 174 = .ok (.aload_n 2, 1) := by decide +kernel
theorem dX3_isWrong_175 : decode cX3_isWrong 175 = .ok (.iconst 2, 1) := by decide +kernel
theorem dX3_isWrong_176 : decode cX3_isWrong 176 = .ok (.invokevirtual 75, 3) := by decide +kernel
theorem dX3_isWrong_179 : decode cX3_isWrong 179 = .ok (.ifCond .ne 7, 3) := by decide +kernel
theorem dX3_isWrong_182 : decode cX3_isWrong 182 = .ok (.iconst 1, 1) := by decide +kernel
theorem dX3_isWrong_183 : decode cX3_isWrong 183 = .ok (.goto 4, 3) := by decide +kernel
theorem dX3_isWrong_186 : decode cX3_isWrong 186 = .ok (.iconst 0, 1) := by decide +kernel
theorem dX3_isWrong_187 : decode cX3_isWrong 187 = .ok (.ireturn, 1) := by decide +kernel
theorem dX3_isWrong_188 : decode cX3_isWrong 188 = .ok (.aload_n 0, 1) := by decide +kernel
theorem dX3_isWrong_189 : decode cX3_isWrong 189 = .ok (.iload_n 1, 1) := by decide +kernel
theorem dX3_isWrong_190 : decode cX3_isWrong 190 = .ok (.iconst 3, 1) := by decide +kernel
theorem dX3_isWrong_191 : decode cX3_isWrong 191 = .ok (.invokevirtual 57, 3) := by decide +kernel
theorem dX3_isWrong_194 : decode cX3_isWrong 194 = .ok (.ifCond .ne 55, 3) := by decide +kernel
theorem dX3_isWrong_197 : decode cX3_isWrong 197 = .ok (.aload_n 0, 1) := by decide +kernel
theorem dX3_isWrong_198 : decode cX3_isWrong 198 = .ok (.aload_n 2, 1) := by decide +kernel
theorem dX3_isWrong_199 : decode cX3_isWrong 199 = .ok (.iconst 0, 1) := by decide +kernel
theorem dX3_isWrong_200 : decode cX3_isWrong 200 = .ok (.invokevirtual 64, 3) := by decide +kernel
theorem dX3_isWrong_203 : decode cX3_isWrong 203 = .ok (.invokevirtual 79, 3) := by decide +kernel
theorem dX3_isWrong_206 : decode cX3_isWrong 206 = .ok (.ifCond .eq 43, 3) := by decide +kernel
theorem dX3_isWrong_209 : decode cX3_isWrong 209 = .ok (.aload_n 0, 1) := by decide +kernel
theorem dX3_isWrong_210 : decode cX3_isWrong 210 = .ok (.aload_n 2, 1) := by decide +kernel
theorem dX3_isWrong_211 : decode cX3_isWrong 211 = .ok (.iconst 1, 1) := by decide +kernel
theorem dX3_isWrong_212 : decode cX3_isWrong 212 = .ok (.invokevirtual 64, 3) := by decide +kernel
theorem dX3_isWrong_215 : decode cX3_isWrong 215 = .ok (.invokevirtual 79, 3) := by decide +kernel
theorem dX3_isWrong_218 : decode cX3_isWrong 218 = .ok (.ifCond .eq 31, 3) := by decide +kernel
theorem dX3_isWrong_221 : decode cX3_isWrong 221 = .ok (.aload_n 0, 1) := by decide +kernel
theorem dX3_isWrong_222 : decode cX3_isWrong 222 = .ok (.getstatic 40, 3) := by decide +kernel
theorem dX3_isWrong_225 : decode cX3_isWrong 225 = .ok (.aload_n 2, 1) := by decide +kernel
theorem dX3_isWrong_226 : decode cX3_isWrong 226 = .ok (.iconst 2, 1) := by decide +kernel
theorem dX3_isWrong_227 : decode cX3_isWrong 227 = .ok (.invokevirtual 64, 3) := by decide +kernel
theorem dX3_isWrong_230 : decode cX3_isWrong 230 = .ok (.invokevirtual 82, 3) := by decide +kernel
theorem dX3_isWrong_233 : decode cX3_isWrong 233 = .ok (.iconst (-1), 1) := by decide +kernel
theorem dX3_isWrong_234 : decode cX3_isWrong 234 = .ok (.if_icmp .eq 15, 3) := by decide +kernel
theorem dX3_isWrong_237 : decode cX3_isWrong 237 = .ok (.aload_n 0, 1) := by decide +kernel
theorem dX3_isWrong_238 : decode cX3_isWrong 238 = .ok (.aload_n 2, 1) := by decide +kernel
theorem dX3_isWrong_239 : decode cX3_isWrong 239 = .ok (.iconst 3, 1) := by decide +kernel
theorem dX3_isWrong_240 : decode cX3_isWrong 240 = .ok (.invokevirtual 64, 3) := by decide +kernel
theorem dX3_isWrong_243 : decode cX3_isWrong 243 = .ok (.invokevirtual 79, 3) := by decide +kernel
theorem dX3_isWrong_246 : decode cX3_isWrong 246 = .ok (.ifCond .ne 7, 3) := by decide +kernel
theorem dX3_isWrong_249 : decode cX3_isWrong 249 = .ok (.iconst 1, 1) := by decide +kernel
theorem dX3_isWrong_250 : decode cX3_isWrong 250 = .ok (.goto 4, 3) := by decide +kernel
theorem dX3_isWrong_253 : decode cX3_isWrong 253 = .ok (.iconst 0, 1) := by decide +kernel
theorem dX3_isWrong_254 : decode cX3_isWrong 254 = .ok (.ireturn, 1) := by decide +kernel
theorem dX3_isWrong_255 : decode cX3_isWrong 255 = .ok (.aload_n 0, 1) := by decide +kernel
theorem dX3_isWrong_256 : decode cX3_isWrong 256 = .ok (.iload_n 1, 1) := by decide +kernel
theorem dX3_isWrong_257 : decode cX3_isWrong 257 = .ok (.iconst 1, 1) := by decide +kernel
theorem dX3_isWrong_258 : decode cX3_isWrong 258 = .ok (.invokevirtual 57, 3) := by decide +kernel
theorem dX3_isWrong_261 : decode cX3_isWrong 261 = .ok (.ifCond .ne 15, 3) := by decide +kernel
theorem dX3_isWrong_264 : decode cX3_isWrong 264 = .ok (.aload_n 0, 1) := by decide +kernel
theorem dX3_isWrong_265 : decode cX3_isWrong 265 = .ok (.aload_n 2, 1) := by decide +kernel
theorem dX3_isWrong_266 : decode cX3_isWrong 266 = .ok (.iconst 0, 1) := by decide +kernel
theorem dX3_isWrong_267 : decode cX3_isWrong 267 = .ok (.invokevirtual 64, 3) := by decide +kernel
theorem dX3_isWrong_270 : decode cX3_isWrong 270 = .ok (.invokevirtual 79, 3) := by decide +kernel
theorem dX3_isWrong_273 : decode cX3_isWrong 273 = .ok (.ifCond .ne 7, 3) := by decide +kernel
theorem dX3_isWrong_276 : decode cX3_isWrong 276 = .ok (.iconst 1, 1) := by decide +kernel
theorem dX3_isWrong_277 : decode cX3_isWrong 277 = .ok (.goto 4, 3) := by decide +kernel
theorem dX3_isWrong_280 : decode cX3_isWrong 280 = .ok (.iconst 0, 1) := by decide +kernel
theorem dX3_isWrong_281 : decode cX3_isWrong 281 = .ok (.ireturn, 1) := by decide +kernel
theorem dX3_isWrong_282 : decode cX3_isWrong 282 = .ok (.aload_n 0, 1) := by decide +kernel
theorem dX3_isWrong_283 : decode cX3_isWrong 283 = .ok (.aload_n 2, 1) := by decide +kernel
theorem dX3_isWrong_284 : decode cX3_isWrong 284 = .ok (.iconst 0, 1) := by decide +kernel
theorem dX3_isWrong_285 : decode cX3_isWrong 285 = .ok (.invokevirtual 75, 3) := by decide +kernel
theorem dX3_isWrong_288 : decode cX3_isWrong 288 = .ok (.ifCond .ne 7, 3) := by decide +kernel
theorem dX3_isWrong_291 : decode cX3_isWrong 291 = .ok (.iconst 1, 1) := by decide +kernel
theorem dX3_isWrong_292 : decode cX3_isWrong 292 = .ok (.goto 4, 3) := by decide +kernel
theorem dX3_isWrong_295 : decode cX3_isWrong 295 = .ok (.iconst 0, 1) := by decide +kernel
theorem dX3_isWrong_296 : decode cX3_isWrong 296 = .ok (.ireturn, 1) := by decide +kernel
theorem dX3_repeats_0 : decode cX3_repeats 0 = .ok (.iconst 0, 1) := by decide +kernel
theorem dX3_repeats_1 : decode cX3_repeats 1 = .ok (.istore_n 3, 1) := by decide +kernel
theorem dX3_repeats_2 : decode cX3_repeats 2 = .ok (.iload_n 3, 1) := by decide +kernel
theorem dX3_repeats_3 : decode cX3_repeats 3 = .ok (.iload_n 1, 1) := by decide +kernel
theorem dX3_repeats_4 : decode cX3_repeats 4 = .ok (.if_icmp .ge 30, 3) := by decide +kernel
theorem dX3_repeats_7 : decode cX3_repeats 7 = .ok (.aload_n 0, 1) := by decide +kernel
theorem dX3_repeats_8 : decode cX3_repeats 8 = .ok (.getfield 11, 3) := by decide +kernel
theorem dX3_repeats_11 : decode cX3_repeats 11 = .ok (.iload_n 3, 1) := by decide +kernel
theorem dX3_repeats_12 : decode cX3_repeats 12 = .ok (.aaload, 1) := by decide +kernel
theorem dX3_repeats_13 : decode cX3_repeats 13 = .ok (.aload_n 0, 1) := by decide +kernel
theorem dX3_repeats_14 : decode cX3_repeats 14 = .ok (.getfield 11, 3) := by decide +kernel
theorem dX3_repeats_17 : decode cX3_repeats 17 = .ok (.iload_n 1, 1) := by decide +kernel
theorem dX3_repeats_18 : decode cX3_repeats 18 = .ok (.aaload, 1) := by decide +kernel
theorem dX3_repeats_19 : decode cX3_repeats 19 = .ok (.iload_n 2, 1) := by decide +kernel
theorem dX3_repeats_20 : decode cX3_repeats 20 = .ok (.invokevirtual 85, 3) := by decide +kernel
theorem dX3_repeats_23 : decode cX3_repeats 23 = .ok (.ifCond .eq 5, 3) := by decide +kernel
theorem dX3_repeats_26 : decode cX3_repeats 26 = .ok (.iconst 1, 1) := by decide +kernel
theorem dX3_repeats_27 : decode cX3_repeats 27 = .ok (.ireturn, 1) := by decide +kernel
theorem dX3_repeats_28 : decode cX3_repeats 28 = .ok (.iinc 3 1, 3) := by decide +kernel
theorem dX3_repeats_31 : decode cX3_repeats 31 = .ok (.goto (-29), 3) := by decide +kernel
theorem dX3_repeats_34 : decode cX3_repeats 34 = .ok (.iconst 0, 1) := by decide +kernel
theorem dX3_repeats_35 : decode cX3_repeats 35 = .ok (.ireturn, 1) := by decide +kernel
theorem dX3_howMany_0 : decode cX3_howMany 0 = .ok (.iconst 0, 1) := by decide +kernel
theorem dX3_howMany_1 : decode cX3_howMany 1 = .ok (.istore_n 3, 1) := by decide +kernel
theorem dX3_howMany_2 : decode cX3_howMany 2 = .ok (.iconst 0, 1) := by decide +kernel
theorem dX3_howMany_3 : decode cX3_howMany 3 = .ok (.istore 4, 2) := by decide +kernel
theorem dX3_howMany_5 : decode cX3_howMany 5 = .ok (.iload 4, 2) := by decide +kernel
theorem dX3_howMany_7 : decode cX3_howMany 7 = .ok (.iload_n 2, 1) := by decide +kernel
theorem dX3_howMany_8 : decode cX3_howMany 8 = .ok (.if_icmp .ge 31, 3) := by decide +kernel
theorem dX3_howMany_11 : decode cX3_howMany 11 = .ok (.iload_n 3, 1) := by decide +kernel
theorem dX3_howMany_12 : decode cX3_howMany 12 = .ok (.aload_n 0, 1) := by decide +kernel
theorem dX3_howMany_13 : decode cX3_howMany 13 = .ok (.getfield 11, 3) := by decide +kernel
theorem dX3_howMany_16 : decode cX3_howMany 16 = .ok (.iload 4, 2) := by decide +kernel
theorem dX3_howMany_18 : decode cX3_howMany 18 = .ok (.aaload, 1) := by decide +kernel
theorem dX3_howMany_19 : decode cX3_howMany 19 = .ok (.invokevirtual 49, 3) := by decide +kernel
theorem dX3_howMany_22 : decode cX3_howMany 22 = .ok (.aload_n 1, 1) := by decide +kernel
theorem dX3_howMany_23 : decode cX3_howMany 23 = .ok (.if_acmp .ne 7, 3) := by decide +kernel
theorem dX3_howMany_26 : decode cX3_howMany 26 = .ok (.iconst 1, 1) := by decide +kernel
theorem dX3_howMany_27 : decode cX3_howMany 27 = .ok (.goto 4, 3) := by decide +kernel
theorem dX3_howMany_30 : decode cX3_howMany 30 = .ok (.iconst 0, 1) := by decide +kernel
theorem dX3_howMany_31 : decode cX3_howMany 31 = .ok (.iadd, 1) := by decide +kernel
theorem dX3_howMany_32 : decode cX3_howMany 32 = .ok (.istore_n 3, 1) := by decide +kernel
theorem dX3_howMany_33 : decode cX3_howMany 33 = .ok (.iinc 4 1, 3) := by decide +kernel
theorem dX3_howMany_36 : decode cX3_howMany 36 = .ok (.goto (-31), 3) := by decide +kernel
theorem dX3_howMany_39 : decode cX3_howMany 39 = .ok (.iload_n 3, 1) := by decide +kernel
theorem dX3_howMany_40 : decode cX3_howMany 40 = .ok (.ireturn, 1) := by decide +kernel
theorem dX3_isType_0 : decode cX3_isType 0 = .ok (.aload_n 0, 1) := by decide +kernel
theorem dX3_isType_1 : decode cX3_isType 1 = .ok (.getstatic 30, 3) := by decide +kernel
theorem dX3_isType_4 : decode cX3_isType 4 = .ok (.iload_n 1, 1) := by decide +kernel
theorem dX3_isType_5 : decode cX3_isType 5 = .ok (.invokevirtual 82, 3) := by decide +kernel
theorem dX3_isType_8 : decode cX3_isType 8 = .ok (.iconst (-1), 1) := by decide +kernel
theorem dX3_isType_9 : decode cX3_isType 9 = .ok (.if_icmp .eq 7, 3) := by decide +kernel
theorem dX3_isType_12 : decode cX3_isType 12 = .ok (.iconst 1, 1) := by decide +kernel
theorem dX3_isType_13 : decode cX3_isType 13 = .ok (.goto 4, 3) := by decide +kernel
theorem dX3_isType_16 : decode cX3_isType 16 = .ok (.iconst 0, 1) := by decide +kernel
theorem dX3_isType_17 : decode cX3_isType 17 = .ok (.ireturn, 1) := by decide +kernel
theorem dX3_isAttribute_0 : decode cX3_isAttribute 0 = .ok (.iconst 0, 1) := by decide +kernel
theorem dX3_isAttribute_1 : decode cX3_isAttribute 1 = .ok (.istore_n 2, 1) := by decide +kernel
theorem dX3_isAttribute_2 : decode cX3_isAttribute 2 = .ok (.iload_n 2, 1) := by decide +kernel
theorem dX3_isAttribute_3 : decode cX3_isAttribute 3 = .ok (.aload_n 0, 1) := by decide +kernel
theorem dX3_isAttribute_4 : decode cX3_isAttribute 4 = .ok (.getfield 17, 3) := by decide +kernel
theorem dX3_isAttribute_7 : decode cX3_isAttribute 7 = .ok (.if_icmp .ge 41, 3) := by decide +kernel
theorem dX3_isAttribute_10 : decode cX3_isAttribute 10 = .ok (.aload_n 0, 1) := by decide +kernel
theorem dX3_isAttribute_11 : decode cX3_isAttribute 11 = .ok (.getfield 11, 3) := by decide +kernel
theorem dX3_isAttribute_14 : decode cX3_isAttribute 14 = .ok (.iload_n 2, 1) := by decide +kernel
theorem dX3_isAttribute_15 : decode cX3_isAttribute 15 = .ok (.aaload, 1) := by decide +kernel
theorem dX3_isAttribute_16 : decode cX3_isAttribute 16 = .ok (.invokevirtual 49, 3) := by decide +kernel
theorem dX3_isAttribute_19 : decode cX3_isAttribute 19 = .ok (.getstatic 30, 3) := by decide +kernel
theorem dX3_isAttribute_22 : decode cX3_isAttribute 22 = .ok (.if_acmp .ne 20, 3) := by decide +kernel
theorem dX3_isAttribute_25 : decode cX3_isAttribute 25 = .ok (.aload_n 0, 1) := by decide +kernel
theorem dX3_isAttribute_26 : decode cX3_isAttribute 26 = .ok (.getfield 11, 3) := by decide +kernel
theorem dX3_isAttribute_29 : decode cX3_isAttribute 29 = .ok (.iload_n 2, 1) := by decide +kernel
theorem dX3_isAttribute_30 : decode cX3_isAttribute 30 = .ok (.aaload, 1) := by decide +kernel
theorem dX3_isAttribute_31 : decode cX3_isAttribute 31 = .ok (.iload_n 1, 1) := by decide +kernel
theorem dX3_isAttribute_32 : decode cX3_isAttribute 32 = .ok (.iconst 1, 1) := by decide +kernel
theorem dX3_isAttribute_33 : decode cX3_isAttribute 33 = .ok (.invokevirtual 88, 3) := by decide +kernel
theorem dX3_isAttribute_36 : decode cX3_isAttribute 36 = .ok (.iconst (-1), 1) := by decide +kernel
theorem dX3_isAttribute_37 : decode cX3_isAttribute 37 = .ok (.if_icmp .eq 5, 3) := by decide +kernel
theorem dX3_isAttribute_40 : decode cX3_isAttribute 40 = .ok (.iconst 1, 1) := by decide +kernel
theorem dX3_isAttribute_41 : decode cX3_isAttribute 41 = .ok (.ireturn, 1) := by decide +kernel
theorem dX3_isAttribute_42 : decode cX3_isAttribute 42 = .ok (.iinc 2 1, 3) := by decide +kernel
theorem dX3_isAttribute_45 : decode cX3_isAttribute 45 = .ok (.goto (-43), 3) := by decide +kernel
theorem dX3_isAttribute_48 : decode cX3_isAttribute 48 = .ok (.iconst 0, 1) := by decide +kernel
theorem dX3_isAttribute_49 : decode cX3_isAttribute 49 = .ok (.ireturn, 1) := by decide +kernel
theorem dX3_isDoer_0 : decode cX3_isDoer 0 = .ok (.aload_n 0, 1) := by decide +kernel
theorem dX3_isDoer_1 : decode cX3_isDoer 1 = .ok (.iload_n 1, 1) := by decide +kernel
theorem dX3_isDoer_2 : decode cX3_isDoer 2 = .ok (.invokevirtual 79, 3) := by decide +kernel
theorem dX3_isDoer_5 : decode cX3_isDoer 5 = .ok (.ifCond .ne 11, 3) := by decide +kernel
theorem dX3_isDoer_8 : decode cX3_isDoer 8 = .ok (.aload_n 0, 1) := by decide +kernel
theorem dX3_isDoer_9 : decode cX3_isDoer 9 = .ok (.iload_n 1, 1) := by decide +kernel
theorem dX3_isDoer_10 : decode cX3_isDoer 10 = .ok (.invokevirtual 68, 3) := by decide +kernel
theorem dX3_isDoer_13 : decode cX3_isDoer 13 = .ok (.ifCond .eq 7, 3) := by decide +kernel
theorem dX3_isDoer_16 : decode cX3_isDoer 16 = .ok (.iconst 1, 1) := by decide +kernel
theorem dX3_isDoer_17 : decode cX3_isDoer 17 = .ok (.goto 4, 3) := by decide +kernel
theorem dX3_isDoer_20 : decode cX3_isDoer 20 = .ok (.iconst 0, 1) := by decide +kernel
theorem dX3_isDoer_21 : decode cX3_isDoer 21 = .ok (.ireturn, 1) := by decide +kernel
theorem dX3_declaresPermissions_0 : decode cX3_declaresPermissions 0 = .ok (.iload_n 2, 1) := by decide +kernel
theorem dX3_declaresPermissions_1 : decode cX3_declaresPermissions 1 = .ok (.iconst 1, 1) := by decide +kernel
theorem dX3_declaresPermissions_2 : decode cX3_declaresPermissions 2 = .ok (.iadd, 1) := by decide +kernel
theorem dX3_declaresPermissions_3 : decode cX3_declaresPermissions 3 = .ok (.istore_n 3, 1) := by decide +kernel
theorem dX3_declaresPermissions_4 : decode cX3_declaresPermissions 4 = .ok (.iload_n 3, 1) := by decide +kernel
theorem dX3_declaresPermissions_5 : decode cX3_declaresPermissions 5 = .ok (.aload_n 1, 1) := by decide +kernel
theorem dX3_declaresPermissions_6 : decode cX3_declaresPermissions 6 = .ok (.invokevirtual 92, 3) := by decide +kernel
theorem dX3_declaresPermissions_9 : decode cX3_declaresPermissions 9 = .ok (.if_icmp .ge 28, 3) := by decide +kernel
theorem dX3_declaresPermissions_12 : decode cX3_declaresPermissions 12 = .ok (.aload_n 0, 1) := by decide +kernel
theorem dX3_declaresPermissions_13 : decode cX3_declaresPermissions 13 = .ok (.aload_n 1, 1) := by decide +kernel
theorem dX3_declaresPermissions_14 : decode cX3_declaresPermissions 14 = .ok (.iload_n 2, 1) := by decide +kernel
theorem dX3_declaresPermissions_15 : decode cX3_declaresPermissions 15 = .ok (.invokevirtual 64, 3) := by decide +kernel
theorem dX3_declaresPermissions_18 : decode cX3_declaresPermissions 18 = .ok (.aload_n 1, 1) := by decide +kernel
theorem dX3_declaresPermissions_19 : decode cX3_declaresPermissions 19 = .ok (.iload_n 3, 1) := by decide +kernel
theorem dX3_declaresPermissions_20 : decode cX3_declaresPermissions 20 = .ok (.invokevirtual 64, 3) := by decide +kernel
theorem dX3_declaresPermissions_23 : decode cX3_declaresPermissions 23 = .ok (.invokevirtual 94, 3) := by decide +kernel
theorem dX3_declaresPermissions_26 : decode cX3_declaresPermissions 26 = .ok (.ifCond .ne 5, 3) := by decide +kernel
theorem dX3_declaresPermissions_29 : decode cX3_declaresPermissions 29 = .ok (.iconst 0, 1) := by decide +kernel
theorem dX3_declaresPermissions_30 : decode cX3_declaresPermissions 30 = .ok (.ireturn, 1) := by decide +kernel
theorem dX3_declaresPermissions_31 : decode cX3_declaresPermissions 31 = .ok (.iinc 3 1, 3) := by decide +kernel
theorem dX3_declaresPermissions_34 : decode cX3_declaresPermissions 34 = .ok (.goto (-30), 3) := by decide +kernel
theorem dX3_declaresPermissions_37 : decode cX3_declaresPermissions 37 = .ok (.iconst 1, 1) := by decide +kernel
theorem dX3_declaresPermissions_38 : decode cX3_declaresPermissions 38 = .ok (.ireturn, 1) := by decide +kernel
theorem dX3_declaresPermission_0 : decode cX3_declaresPermission 0 = .ok (.iconst 0, 1) := by decide +kernel
theorem dX3_declaresPermission_1 : decode cX3_declaresPermission 1 = .ok (.istore_n 3, 1) := by decide +kernel
theorem dX3_declaresPermission_2 : decode cX3_declaresPermission 2 = .ok (.iload_n 3, 1) := by decide +kernel
theorem dX3_declaresPermission_3 : decode cX3_declaresPermission 3 = .ok (.aload_n 0, 1) := by decide +kernel
theorem dX3_declaresPermission_4 : decode cX3_declaresPermission 4 = .ok (.getfield 17, 3) := by decide +kernel
theorem dX3_declaresPermission_7 : decode cX3_declaresPermission 7 = .ok (.if_icmp .ge 51, 3) := by decide +kernel
theorem dX3_declaresPermission_10 : decode cX3_declaresPermission 10 = .ok (.aload_n 0, 1) := by decide +kernel
theorem dX3_declaresPermission_11 : decode cX3_declaresPermission 11 = .ok (.getfield 11, 3) := by decide +kernel
theorem dX3_declaresPermission_14 : decode cX3_declaresPermission 14 = .ok (.iload_n 3, 1) := by decide +kernel
theorem dX3_declaresPermission_15 : decode cX3_declaresPermission 15 = .ok (.aaload, 1) := by decide +kernel
theorem dX3_declaresPermission_16 : decode cX3_declaresPermission 16 = .ok (.astore 4, 2) := by decide +kernel
theorem dX3_declaresPermission_18 : decode cX3_declaresPermission 18 = .ok (.aload 4, 2) := by decide +kernel
theorem dX3_declaresPermission_20 : decode cX3_declaresPermission 20 = .ok (.invokevirtual 49, 3) := by decide +kernel
theorem dX3_declaresPermission_23 : decode cX3_declaresPermission 23 = .ok (.getstatic 40, 3) := by decide +kernel
theorem dX3_declaresPermission_26 : decode cX3_declaresPermission 26 = .ok (.if_acmp .ne 26, 3) := by decide +kernel
theorem dX3_declaresPermission_29 : decode cX3_declaresPermission 29 = .ok (.aload 4, 2) := by decide +kernel
theorem dX3_declaresPermission_31 : decode cX3_declaresPermission 31 = .ok (.iconst 0, 1) := by decide +kernel
theorem dX3_declaresPermission_32 : decode cX3_declaresPermission 32 = .ok (.invokevirtual 64, 3) := by decide +kernel
theorem dX3_declaresPermission_35 : decode cX3_declaresPermission 35 = .ok (.iload_n 1, 1) := by decide +kernel
theorem dX3_declaresPermission_36 : decode cX3_declaresPermission 36 = .ok (.if_icmp .ne 16, 3) := by decide +kernel
theorem dX3_declaresPermission_39 : decode cX3_declaresPermission 39 = .ok (.aload 4, 2) := by decide +kernel
theorem dX3_declaresPermission_41 : decode cX3_declaresPermission 41 = .ok (.iload_n 2, 1) := by decide +kernel
theorem dX3_declaresPermission_42 : decode cX3_declaresPermission 42 = .ok (.iconst 1, 1) := by decide +kernel
theorem dX3_declaresPermission_43 : decode cX3_declaresPermission 43 = .ok (.invokevirtual 88, 3) := by decide +kernel
theorem dX3_declaresPermission_46 : decode cX3_declaresPermission 46 = .ok (.iconst (-1), 1) := by decide +kernel
theorem dX3_declaresPermission_47 : decode cX3_declaresPermission 47 = .ok (.if_icmp .eq 5, 3) := by decide +kernel
theorem dX3_declaresPermission_50 : decode cX3_declaresPermission 50 = .ok (.iconst 1, 1) := by decide +kernel
theorem dX3_declaresPermission_51 : decode cX3_declaresPermission 51 = .ok (.ireturn, 1) := by decide +kernel
theorem dX3_declaresPermission_52 : decode cX3_declaresPermission 52 = .ok (.iinc 3 1, 3) := by decide +kernel
theorem dX3_declaresPermission_55 : decode cX3_declaresPermission 55 = .ok (.goto (-53), 3) := by decide +kernel
theorem dX3_declaresPermission_58 : decode cX3_declaresPermission 58 = .ok (.iconst 0, 1) := by decide +kernel
theorem dX3_declaresPermission_59 : decode cX3_declaresPermission 59 = .ok (.ireturn, 1) := by decide +kernel
theorem dX3_numberOf_0 : decode cX3_numberOf 0 = .ok (.iconst 0, 1) := by decide +kernel
theorem dX3_numberOf_1 : decode cX3_numberOf 1 = .ok (.istore_n 3, 1) := by decide +kernel
theorem dX3_numberOf_2 : decode cX3_numberOf 2 = .ok (.iconst 0, 1) := by decide +kernel
theorem dX3_numberOf_3 : decode cX3_numberOf 3 = .ok (.istore 4, 2) := by decide +kernel
theorem dX3_numberOf_5 : decode cX3_numberOf 5 = .ok (.iload 4, 2) := by decide +kernel
theorem dX3_numberOf_7 : decode cX3_numberOf 7 = .ok (.aload_n 0, 1) := by decide +kernel
theorem dX3_numberOf_8 : decode cX3_numberOf 8 = .ok (.getfield 17, 3) := by decide +kernel
theorem dX3_numberOf_11 : decode cX3_numberOf 11 = .ok (.if_icmp .ge 43, 3) := by decide +kernel
theorem dX3_numberOf_14 : decode cX3_numberOf 14 = .ok (.aload_n 0, 1) := by decide +kernel
theorem dX3_numberOf_15 : decode cX3_numberOf 15 = .ok (.getfield 11, 3) := by decide +kernel
theorem dX3_numberOf_18 : decode cX3_numberOf 18 = .ok (.iload 4, 2) := by decide +kernel
theorem dX3_numberOf_20 : decode cX3_numberOf 20 = .ok (.aaload, 1) := by decide +kernel
theorem dX3_numberOf_21 : decode cX3_numberOf 21 = .ok (.invokevirtual 49, 3) := by decide +kernel
theorem dX3_numberOf_24 : decode cX3_numberOf 24 = .ok (.aload_n 1, 1) := by decide +kernel
theorem dX3_numberOf_25 : decode cX3_numberOf 25 = .ok (.if_acmp .ne 23, 3) := by decide +kernel
theorem dX3_numberOf_28 : decode cX3_numberOf 28 = .ok (.aload_n 0, 1) := by decide +kernel
theorem dX3_numberOf_29 : decode cX3_numberOf 29 = .ok (.getfield 11, 3) := by decide +kernel
theorem dX3_numberOf_32 : decode cX3_numberOf 32 = .ok (.iload 4, 2) := by decide +kernel
theorem dX3_numberOf_34 : decode cX3_numberOf 34 = .ok (.aaload, 1) := by decide +kernel
theorem dX3_numberOf_35 : decode cX3_numberOf 35 = .ok (.iconst 0, 1) := by decide +kernel
theorem dX3_numberOf_36 : decode cX3_numberOf 36 = .ok (.invokevirtual 64, 3) := by decide +kernel
theorem dX3_numberOf_39 : decode cX3_numberOf 39 = .ok (.iload_n 2, 1) := by decide +kernel
theorem dX3_numberOf_40 : decode cX3_numberOf 40 = .ok (.if_icmp .ne 5, 3) := by decide +kernel
theorem dX3_numberOf_43 : decode cX3_numberOf 43 = .ok (.iload_n 3, 1) := by decide +kernel
theorem dX3_numberOf_44 : decode cX3_numberOf 44 = .ok (.ireturn, 1) := by decide +kernel
theorem dX3_numberOf_45 : decode cX3_numberOf 45 = .ok (.iinc 3 1, 3) := by decide +kernel
theorem dX3_numberOf_48 : decode cX3_numberOf 48 = .ok (.iinc 4 1, 3) := by decide +kernel
theorem dX3_numberOf_51 : decode cX3_numberOf 51 = .ok (.goto (-46), 3) := by decide +kernel
theorem dX3_numberOf_54 : decode cX3_numberOf 54 = .ok (.iconst (-1), 1) := by decide +kernel
theorem dX3_numberOf_55 : decode cX3_numberOf 55 = .ok (.ireturn, 1) := by decide +kernel
theorem dX3_typesNamed_0 : decode cX3_typesNamed 0 = .ok (.iconst 0, 1) := by decide +kernel
theorem dX3_typesNamed_1 : decode cX3_typesNamed 1 = .ok (.istore_n 2, 1) := by decide +kernel
theorem dX3_typesNamed_2 : decode cX3_typesNamed 2 = .ok (.iconst 0, 1) := by decide +kernel
theorem dX3_typesNamed_3 : decode cX3_typesNamed 3 = .ok (.istore_n 3, 1) := by decide +kernel
theorem dX3_typesNamed_4 : decode cX3_typesNamed 4 = .ok (.iconst 0, 1) := by decide +kernel
theorem dX3_typesNamed_5 : decode cX3_typesNamed 5 = .ok (.istore 4, 2) := by decide +kernel
theorem dX3_typesNamed_7 : decode cX3_typesNamed 7 = .ok (.iload 4, 2) := by decide +kernel
theorem dX3_typesNamed_9 : decode cX3_typesNamed 9 = .ok (.aload_n 0, 1) := by decide +kernel
theorem dX3_typesNamed_10 : decode cX3_typesNamed 10 = .ok (.getfield 17, 3) := by decide +kernel
theorem dX3_typesNamed_13 : decode cX3_typesNamed 13 = .ok (.if_icmp .ge 54, 3) := by decide +kernel
theorem dX3_typesNamed_16 : decode cX3_typesNamed 16 = .ok (.aload_n 0, 1) := by decide +kernel
theorem dX3_typesNamed_17 : decode cX3_typesNamed 17 = .ok (.getfield 11, 3) := by decide +kernel
theorem dX3_typesNamed_20 : decode cX3_typesNamed 20 = .ok (.iload 4, 2) := by decide +kernel
theorem dX3_typesNamed_22 : decode cX3_typesNamed 22 = .ok (.aaload, 1) := by decide +kernel
theorem dX3_typesNamed_23 : decode cX3_typesNamed 23 = .ok (.invokevirtual 49, 3) := by decide +kernel
theorem dX3_typesNamed_26 : decode cX3_typesNamed 26 = .ok (.getstatic 30, 3) := by decide +kernel
theorem dX3_typesNamed_29 : decode cX3_typesNamed 29 = .ok (.if_acmp .ne 32, 3) := by decide +kernel
theorem dX3_typesNamed_32 : decode cX3_typesNamed 32 = .ok (.iload_n 2, 1) := by decide +kernel
theorem dX3_typesNamed_33 : decode cX3_typesNamed 33 = .ok (.aload_n 0, 1) := by decide +kernel
theorem dX3_typesNamed_34 : decode cX3_typesNamed 34 = .ok (.getfield 11, 3) := by decide +kernel
theorem dX3_typesNamed_37 : decode cX3_typesNamed 37 = .ok (.iload 4, 2) := by decide +kernel
theorem dX3_typesNamed_39 : decode cX3_typesNamed 39 = .ok (.aaload, 1) := by decide +kernel
theorem dX3_typesNamed_40 : decode cX3_typesNamed 40 = .ok (.iload_n 1, 1) := by decide +kernel
theorem dX3_typesNamed_41 : decode cX3_typesNamed 41 = .ok (.iconst 0, 1) := by decide +kernel
theorem dX3_typesNamed_42 : decode cX3_typesNamed 42 = .ok (.invokevirtual 88, 3) := by decide +kernel
theorem dX3_typesNamed_45 : decode cX3_typesNamed 45 = .ok (.iconst (-1), 1) := by decide +kernel
theorem dX3_typesNamed_46 : decode cX3_typesNamed 46 = .ok (.if_icmp .eq 9, 3) := by decide +kernel
theorem dX3_typesNamed_49 : decode cX3_typesNamed 49 = .ok (.iconst 1, 1) := by decide +kernel
theorem dX3_typesNamed_50 : decode cX3_typesNamed 50 = .ok (.iload_n 3, 1) := by decide +kernel
theorem dX3_typesNamed_51 : decode cX3_typesNamed 51 = .ok (.ishl, 1) := by decide +kernel
theorem dX3_typesNamed_52 : decode cX3_typesNamed 52 = .ok (.goto 4, 3) := by decide +kernel
theorem dX3_typesNamed_55 : decode cX3_typesNamed 55 = .ok (.iconst 0, 1) := by decide +kernel
theorem dX3_typesNamed_56 : decode cX3_typesNamed 56 = .ok (.ior, 1) := by decide +kernel
theorem dX3_typesNamed_57 : decode cX3_typesNamed 57 = .ok (.istore_n 2, 1) := by decide +kernel
theorem dX3_typesNamed_58 : decode cX3_typesNamed 58 = .ok (.iinc 3 1, 3) := by decide +kernel
theorem dX3_typesNamed_61 : decode cX3_typesNamed 61 = .ok (.iinc 4 1, 3) := by decide +kernel
theorem dX3_typesNamed_64 : decode cX3_typesNamed 64 = .ok (.goto (-57), 3) := by decide +kernel
theorem dX3_typesNamed_67 : decode cX3_typesNamed 67 = .ok (.iload_n 2, 1) := by decide +kernel
theorem dX3_typesNamed_68 : decode cX3_typesNamed 68 = .ok (.ireturn, 1) := by decide +kernel
theorem dX3_maskOf_0 : decode cX3_maskOf 0 = .ok (.iconst 0, 1) := by decide +kernel
theorem dX3_maskOf_1 : decode cX3_maskOf 1 = .ok (.istore_n 3, 1) := by decide +kernel
theorem dX3_maskOf_2 : decode cX3_maskOf 2 = .ok (.iconst 0, 1) := by decide +kernel
theorem dX3_maskOf_3 : decode cX3_maskOf 3 = .ok (.istore 4, 2) := by decide +kernel
theorem dX3_maskOf_5 : decode cX3_maskOf 5 = .ok (.iload 4, 2) := by decide +kernel
theorem dX3_maskOf_7 : decode cX3_maskOf 7 = .ok (.aload_n 0, 1) := by decide +kernel
theorem dX3_maskOf_8 : decode cX3_maskOf 8 = .ok (.getfield 17, 3) := by decide +kernel
theorem dX3_maskOf_11 : decode cX3_maskOf 11 = .ok (.if_icmp .ge 102, 3) := by decide +kernel
theorem dX3_maskOf_14 : decode cX3_maskOf 14 = .ok (.aload_n 0, 1) := by decide +kernel
theorem dX3_maskOf_15 : decode cX3_maskOf 15 = .ok (.getfield 11, 3) := by decide +kernel
theorem dX3_maskOf_18 : decode cX3_maskOf 18 = .ok (.iload 4, 2) := by decide +kernel
theorem dX3_maskOf_20 : decode cX3_maskOf 20 = .ok (.aaload, 1) := by decide +kernel
theorem dX3_maskOf_21 : decode cX3_maskOf 21 = .ok (.invokevirtual 49, 3) := by decide +kernel
theorem dX3_maskOf_24 : decode cX3_maskOf 24 = .ok (.getstatic 40, 3) := by decide +kernel
theorem dX3_maskOf_27 : decode cX3_maskOf 27 = .ok (.if_acmp .ne 80, 3) := by decide +kernel
theorem dX3_maskOf_30 : decode cX3_maskOf 30 = .ok (.aload_n 0, 1) := by decide +kernel
theorem dX3_maskOf_31 : decode cX3_maskOf 31 = .ok (.getfield 11, 3) := by decide +kernel
theorem dX3_maskOf_34 : decode cX3_maskOf 34 = .ok (.iload 4, 2) := by decide +kernel
theorem dX3_maskOf_36 : decode cX3_maskOf 36 = .ok (.aaload, 1) := by decide +kernel
theorem dX3_maskOf_37 : decode cX3_maskOf 37 = .ok (.iconst 0, 1) := by decide +kernel
theorem dX3_maskOf_38 : decode cX3_maskOf 38 = .ok (.invokevirtual 64, 3) := by decide +kernel
theorem dX3_maskOf_41 : decode cX3_maskOf 41 = .ok (.aload_n 1, 1) := by decide +kernel
theorem dX3_maskOf_42 : decode cX3_maskOf 42 = .ok (.iload_n 2, 1) := by decide +kernel
theorem dX3_maskOf_43 : decode cX3_maskOf 43 = .ok (.invokevirtual 64, 3) := by decide +kernel
theorem dX3_maskOf_46 : decode cX3_maskOf 46 = .ok (.if_icmp .ne 61, 3) := by decide +kernel
theorem dX3_maskOf_49 : decode cX3_maskOf 49 = .ok (.iload_n 2, 1) := by decide +kernel
theorem dX3_maskOf_50 : decode cX3_maskOf 50 = .ok (.iconst 1, 1) := by decide +kernel
theorem dX3_maskOf_51 : decode cX3_maskOf 51 = .ok (.iadd, 1) := by decide +kernel
theorem dX3_maskOf_52 : decode cX3_maskOf 52 = .ok (.istore 5, 2) := by decide +kernel
theorem dX3_maskOf_54 : decode cX3_maskOf 54 = .ok (.iload 5, 2) := by decide +kernel
theorem dX3_maskOf_56 : decode cX3_maskOf 56 = .ok (.aload_n 1, 1) := by decide +kernel
theorem dX3_maskOf_57 : decode cX3_maskOf 57 = .ok (.invokevirtual 92, 3) := by decide +kernel
theorem dX3_maskOf_60 : decode cX3_maskOf 60 = .ok (.if_icmp .ge 47, 3) := by decide +kernel
theorem dX3_maskOf_63 : decode cX3_maskOf 63 = .ok (.aload_n 0, 1) := by decide +kernel
theorem dX3_maskOf_64 : decode cX3_maskOf 64 = .ok (.getfield 11, 3) := by decide +kernel
theorem dX3_maskOf_67 : decode cX3_maskOf 67 = .ok (.iload 4, 2) := by decide +kernel
theorem dX3_maskOf_69 : decode cX3_maskOf 69 = .ok (.aaload, 1) := by decide +kernel
theorem dX3_maskOf_70 : decode cX3_maskOf 70 = .ok (.aload_n 1, 1) := by decide +kernel
theorem dX3_maskOf_71 : decode cX3_maskOf 71 = .ok (.iload 5, 2) := by decide +kernel
theorem dX3_maskOf_73 : decode cX3_maskOf 73 = .ok (.invokevirtual 64, 3) := by decide +kernel
theorem dX3_maskOf_76 : decode cX3_maskOf 76 = .ok (.iconst 1, 1) := by decide +kernel
theorem dX3_maskOf_77 : decode cX3_maskOf 77 = .ok (.invokevirtual 88, 3) := by decide +kernel
theorem dX3_maskOf_80 : decode cX3_maskOf 80 = .ok (.istore 6, 2) := by decide +kernel
theorem dX3_maskOf_82 : decode cX3_maskOf 82 = .ok (.iload_n 3, 1) := by decide +kernel
theorem dX3_maskOf_83 : decode cX3_maskOf 83 = .ok (.iload 6, 2) := by decide +kernel
theorem dX3_maskOf_85 : decode cX3_maskOf 85 = .ok (.iconst (-1), 1) := by decide +kernel
theorem dX3_maskOf_86 : decode cX3_maskOf 86 = .ok (.if_icmp .ne 7, 3) := by decide +kernel
theorem dX3_maskOf_89 : decode cX3_maskOf 89 = .ok (.iconst 0, 1) := by decide +kernel
theorem dX3_maskOf_90 : decode cX3_maskOf 90 = .ok (.goto 9, 3) := by decide +kernel
theorem dX3_maskOf_93 : decode cX3_maskOf 93 = .ok (.iconst 1, 1) := by decide +kernel
theorem dX3_maskOf_94 : decode cX3_maskOf 94 = .ok (.iload 6, 2) := by decide +kernel
theorem dX3_maskOf_96 : decode cX3_maskOf 96 = .ok (.iconst 1, 1) := by decide +kernel
theorem dX3_maskOf_97 : decode cX3_maskOf 97 = .ok (.isub, 1) := by decide +kernel
theorem dX3_maskOf_98 : decode cX3_maskOf 98 = .ok (.ishl, 1) := by decide +kernel
theorem dX3_maskOf_99 : decode cX3_maskOf 99 = .ok (.ior, 1) := by decide +kernel
theorem dX3_maskOf_100 : decode cX3_maskOf 100 = .ok (.istore_n 3, 1) := by decide +kernel
theorem dX3_maskOf_101 : decode cX3_maskOf 101 = .ok (.iinc 5 1, 3) := by decide +kernel
theorem dX3_maskOf_104 : decode cX3_maskOf 104 = .ok (.goto (-50), 3) := by decide +kernel
theorem dX3_maskOf_107 : decode cX3_maskOf 107 = .ok (.iinc 4 1, 3) := by decide +kernel
theorem dX3_maskOf_110 : decode cX3_maskOf 110 = .ok (.goto (-105), 3) := by decide +kernel
theorem dX3_maskOf_113 : decode cX3_maskOf 113 = .ok (.iload_n 3, 1) := by decide +kernel
theorem dX3_maskOf_114 : decode cX3_maskOf 114 = .ok (.ireturn, 1) := by decide +kernel
theorem dX4_encode_0 : decode cX4_encode 0 = .ok (.aload_n 1, 1) := by decide +kernel
theorem dX4_encode_1 : decode cX4_encode 1 = .ok (.invokevirtual 9, 3) := by decide +kernel
theorem dX4_encode_4 : decode cX4_encode 4 = .ok (.aload_n 1, 1) := by decide +kernel
theorem dX4_encode_5 : decode cX4_encode 5 = .ok (.aload_n 0, 1) := by decide +kernel
theorem dX4_encode_6 : decode cX4_encode 6 = .ok (.invokevirtual 14, 3) := by decide +kernel
theorem dX4_encode_9 : decode cX4_encode 9 = .ok (.invokevirtual 20, 3) := by decide +kernel
theorem dX4_encode_12 : decode cX4_encode 12 = .ok (.aload_n 1, 1) := by decide +kernel
theorem dX4_encode_13 : decode cX4_encode 13 = .ok (.aload_n 0, 1) := by decide +kernel
theorem dX4_encode_14 : decode cX4_encode 14 = .ok (.invokevirtual 24, 3) := by decide +kernel
theorem dX4_encode_17 : decode cX4_encode 17 = .ok (.invokevirtual 20, 3) := by decide +kernel
theorem dX4_encode_20 : decode cX4_encode 20 = .ok (.iconst 0, 1) := by decide +kernel
theorem dX4_encode_21 : decode cX4_encode 21 = .ok (.istore_n 2, 1) := by decide +kernel
theorem dX4_encode_22 : decode cX4_encode 22 = .ok (.iload_n 2, 1) := by decide +kernel
theorem dX4_encode_23 : decode cX4_encode 23 = .ok (.aload_n 0, 1) := by decide +kernel
theorem dX4_encode_24 : decode cX4_encode 24 = .ok (.invokevirtual 24, 3) := by decide +kernel
theorem dX4_encode_27 : decode cX4_encode 27 = .ok (.if_icmp .ge 18, 3) := by decide +kernel
theorem dX4_encode_30 : decode cX4_encode 30 = .ok (.aload_n 1, 1) := by decide +kernel
theorem dX4_encode_31 : decode cX4_encode 31 = .ok (.aload_n 0, 1) := by decide +kernel
theorem dX4_encode_32 : decode cX4_encode 32 = .ok (.iload_n 2, 1) := by decide +kernel
theorem dX4_encode_33 : decode cX4_encode 33 = .ok (.invokevirtual 27, 3) := by decide +kernel
theorem dX4_encode_36 : decode cX4_encode 36 = .ok (.invokevirtual 20, 3) := by decide +kernel
theorem dX4_encode_39 : decode cX4_encode 39 = .ok (.iinc 2 1, 3) := by decide +kernel
theorem dX4_encode_42 : decode cX4_encode 42 = .ok (.goto (-20), 3) := by decide +kernel
theorem dX4_encode_45 : decode cX4_encode 45 = .ok (.iconst 0, 1) := by decide +kernel
theorem dX4_encode_46 : decode cX4_encode 46 = .ok (.istore_n 2, 1) := by decide +kernel
theorem dX4_encode_47 : decode cX4_encode 47 = .ok (.iload_n 2, 1) := by decide +kernel
theorem dX4_encode_48 : decode cX4_encode 48 = .ok (.aload_n 0, 1) := by decide +kernel
theorem dX4_encode_49 : decode cX4_encode 49 = .ok (.invokevirtual 14, 3) := by decide +kernel
theorem dX4_encode_52 : decode cX4_encode 52 = .ok (.if_icmp .ge 18, 3) := by decide +kernel
theorem dX4_encode_55 : decode cX4_encode 55 = .ok (.aload_n 1, 1) := by decide +kernel
theorem dX4_encode_56 : decode cX4_encode 56 = .ok (.aload_n 0, 1) := by decide +kernel
theorem dX4_encode_57 : decode cX4_encode 57 = .ok (.iload_n 2, 1) := by decide +kernel
theorem dX4_encode_58 : decode cX4_encode 58 = .ok (.invokevirtual 31, 3) := by decide +kernel
theorem dX4_encode_61 : decode cX4_encode 61 = .ok (.invokevirtual 20, 3) := by decide +kernel
theorem dX4_encode_64 : decode cX4_encode 64 = .ok (.iinc 2 1, 3) := by decide +kernel
theorem dX4_encode_67 : decode cX4_encode 67 = .ok (.goto (-20), 3) := by decide +kernel
theorem dX4_encode_70 : decode cX4_encode 70 = .ok (.iconst 0, 1) := by decide +kernel
theorem dX4_encode_71 : decode cX4_encode 71 = .ok (.istore_n 2, 1) := by decide +kernel
theorem dX4_encode_72 : decode cX4_encode 72 = .ok (.iload_n 2, 1) := by decide +kernel
theorem dX4_encode_73 : decode cX4_encode 73 = .ok (.aload_n 0, 1) := by decide +kernel
theorem dX4_encode_74 : decode cX4_encode 74 = .ok (.invokevirtual 24, 3) := by decide +kernel
theorem dX4_encode_77 : decode cX4_encode 77 = .ok (.if_icmp .ge 15, 3) := by decide +kernel
theorem dX4_encode_80 : decode cX4_encode 80 = .ok (.aload_n 0, 1) := by decide +kernel
theorem dX4_encode_81 : decode cX4_encode 81 = .ok (.iload_n 2, 1) := by decide +kernel
theorem dX4_encode_82 : decode cX4_encode 82 = .ok (.aload_n 1, 1) := by decide +kernel
theorem dX4_encode_83 : decode cX4_encode 83 = .ok (.invokestatic 34, 3) := by decide +kernel
theorem dX4_encode_86 : decode cX4_encode 86 = .ok (.iinc 2 1, 3) := by decide +kernel
theorem dX4_encode_89 : decode cX4_encode 89 = .ok (.goto (-17), 3) := by decide +kernel
theorem dX4_encode_92 : decode cX4_encode 92 = .ok (.return_, 1) := by decide +kernel
theorem dX4_encodeClass_0 : decode cX4_encodeClass 0 = .ok (.iconst 0, 1) := by decide +kernel
theorem dX4_encodeClass_1 : decode cX4_encodeClass 1 = .ok (.istore_n 3, 1) := by decide +kernel
theorem dX4_encodeClass_2 : decode cX4_encodeClass 2 = .ok (.iload_n 3, 1) := by decide +kernel
theorem dX4_encodeClass_3 : decode cX4_encodeClass 3 = .ok (.aload_n 0, 1) := by decide +kernel
theorem dX4_encodeClass_4 : decode cX4_encodeClass 4 = .ok (.invokevirtual 14, 3) := by decide +kernel
theorem dX4_encodeClass_7 : decode cX4_encodeClass 7 = .ok (.if_icmp .ge 39, 3) := by decide +kernel
theorem dX4_encodeClass_10 : decode cX4_encodeClass 10 = .ok (.iconst 0, 1) := by decide +kernel
theorem dX4_encodeClass_11 : decode cX4_encodeClass 11 = .ok (.istore 4, 2) := by decide +kernel
theorem dX4_encodeClass_13 : decode cX4_encodeClass 13 = .ok (.iload 4, 2) := by decide +kernel
theorem dX4_encodeClass_15 : decode cX4_encodeClass 15 = .ok (.aload_n 0, 1) := by decide +kernel
theorem dX4_encodeClass_16 : decode cX4_encodeClass 16 = .ok (.invokevirtual 14, 3) := by decide +kernel
theorem dX4_encodeClass_19 : decode cX4_encodeClass 19 = .ok (.if_icmp .ge 21, 3) := by decide +kernel
theorem dX4_encodeClass_22 : decode cX4_encodeClass 22 = .ok (.aload_n 2, 1) := by decide +kernel
theorem dX4_encodeClass_23 : decode cX4_encodeClass 23 = .ok (.aload_n 0, 1) := by decide +kernel
theorem dX4_encodeClass_24 : decode cX4_encodeClass 24 = .ok (.iload_n 3, 1) := by decide +kernel
theorem dX4_encodeClass_25 : decode cX4_encodeClass 25 = .ok (.iload 4, 2) := by decide +kernel
theorem dX4_encodeClass_27 : decode cX4_encodeClass 27 = .ok (.iload_n 1, 1) := by decide +kernel
theorem dX4_encodeClass_28 : decode cX4_encodeClass 28 = .ok (.invokevirtual 40, 3) := by decide +kernel
theorem dX4_encodeClass_31 : decode cX4_encodeClass 31 = .ok (.invokevirtual 20, 3) := by decide +kernel
theorem dX4_encodeClass_34 : decode cX4_encodeClass 34 = .ok (.iinc 4 1, 3) := by decide +kernel
theorem dX4_encodeClass_37 : decode cX4_encodeClass 37 = .ok (.goto (-24), 3) := by decide +kernel
theorem dX4_encodeClass_40 : decode cX4_encodeClass 40 = .ok (.iinc 3 1, 3) := by decide +kernel
theorem dX4_encodeClass_43 : decode cX4_encodeClass 43 = .ok (.goto (-41), 3) := by decide +kernel
theorem dX4_encodeClass_46 : decode cX4_encodeClass 46 = .ok (.iconst 0, 1) := by decide +kernel
theorem dX4_encodeClass_47 : decode cX4_encodeClass 47 = .ok (.istore_n 3, 1) := by decide +kernel
theorem dX4_encodeClass_48 : decode cX4_encodeClass 48 = .ok (.iload_n 3, 1) := by decide +kernel
theorem dX4_encodeClass_49 : decode cX4_encodeClass 49 = .ok (.aload_n 0, 1) := by decide +kernel
theorem dX4_encodeClass_50 : decode cX4_encodeClass 50 = .ok (.invokevirtual 14, 3) := by decide +kernel
theorem dX4_encodeClass_53 : decode cX4_encodeClass 53 = .ok (.if_icmp .ge 39, 3) := by decide +kernel
theorem dX4_encodeClass_56 : decode cX4_encodeClass 56 = .ok (.iconst 0, 1) := by decide +kernel
theorem dX4_encodeClass_57 : decode cX4_encodeClass 57 = .ok (.istore 4, 2) := by decide +kernel
theorem dX4_encodeClass_59 : decode cX4_encodeClass 59 = .ok (.iload 4, 2) := by decide +kernel
theorem dX4_encodeClass_61 : decode cX4_encodeClass 61 = .ok (.aload_n 0, 1) := by decide +kernel
theorem dX4_encodeClass_62 : decode cX4_encodeClass 62 = .ok (.invokevirtual 14, 3) := by decide +kernel
theorem dX4_encodeClass_65 : decode cX4_encodeClass 65 = .ok (.if_icmp .ge 21, 3) := by decide +kernel
theorem dX4_encodeClass_68 : decode cX4_encodeClass 68 = .ok (.aload_n 2, 1) := by decide +kernel
theorem dX4_encodeClass_69 : decode cX4_encodeClass 69 = .ok (.aload_n 0, 1) := by decide +kernel
theorem dX4_encodeClass_70 : decode cX4_encodeClass 70 = .ok (.iload_n 3, 1) := by decide +kernel
theorem dX4_encodeClass_71 : decode cX4_encodeClass 71 = .ok (.iload 4, 2) := by decide +kernel
theorem dX4_encodeClass_73 : decode cX4_encodeClass 73 = .ok (.iload_n 1, 1) := by decide +kernel
theorem dX4_encodeClass_74 : decode cX4_encodeClass 74 = .ok (.invokevirtual 44, 3) := by decide +kernel
theorem dX4_encodeClass_77 : decode cX4_encodeClass 77 = .ok (.invokevirtual 20, 3) := by decide +kernel
theorem dX4_encodeClass_80 : decode cX4_encodeClass 80 = .ok (.iinc 4 1, 3) := by decide +kernel
theorem dX4_encodeClass_83 : decode cX4_encodeClass 83 = .ok (.goto (-24), 3) := by decide +kernel
theorem dX4_encodeClass_86 : decode cX4_encodeClass 86 = .ok (.iinc 3 1, 3) := by decide +kernel
theorem dX4_encodeClass_89 : decode cX4_encodeClass 89 = .ok (.goto (-41), 3) := by decide +kernel
theorem dX4_encodeClass_92 : decode cX4_encodeClass 92 = .ok (.iconst 0, 1) := by decide +kernel
theorem dX4_encodeClass_93 : decode cX4_encodeClass 93 = .ok (.istore_n 3, 1) := by decide +kernel
theorem dX4_encodeClass_94 : decode cX4_encodeClass 94 = .ok (.iload_n 3, 1) := by decide +kernel
theorem dX4_encodeClass_95 : decode cX4_encodeClass 95 = .ok (.iconst 5, 1) := by decide +kernel
theorem dX4_encodeClass_96 : decode cX4_encodeClass 96 = .ok (.if_icmp .ge 19, 3) := by decide +kernel
theorem dX4_encodeClass_99 : decode cX4_encodeClass 99 = .ok (.aload_n 2, 1) := by decide +kernel
theorem dX4_encodeClass_100 : decode cX4_encodeClass 100 = .ok (.aload_n 0, 1) := by decide +kernel
theorem dX4_encodeClass_101 : decode cX4_encodeClass 101 = .ok (.iload_n 1, 1) := by decide +kernel
theorem dX4_encodeClass_102 : decode cX4_encodeClass 102 = .ok (.iload_n 3, 1) := by decide +kernel
theorem dX4_encodeClass_103 : decode cX4_encodeClass 103 = .ok (.invokevirtual 47, 3) := by decide +kernel
theorem dX4_encodeClass_106 : decode cX4_encodeClass 106 = .ok (.invokevirtual 20, 3) := by decide +kernel
theorem dX4_encodeClass_109 : decode cX4_encodeClass 109 = .ok (.iinc 3 1, 3) := by decide +kernel
theorem dX4_encodeClass_112 : decode cX4_encodeClass 112 = .ok (.goto (-18), 3) := by decide +kernel
theorem dX4_encodeClass_115 : decode cX4_encodeClass 115 = .ok (.return_, 1) := by decide +kernel
theorem dX4_decode_0 : decode cX4_decode 0 = .ok (.aload_n 1, 1) := by decide +kernel
theorem dX4_decode_1 : decode cX4_decode 1 = .ok (.invokevirtual 51, 3) := by decide +kernel
theorem dX4_decode_4 : decode cX4_decode 4 = .ok (.aload_n 0, 1) := by decide +kernel
theorem dX4_decode_5 : decode cX4_decode 5 = .ok (.invokevirtual 52, 3) := by decide +kernel
theorem dX4_decode_8 : decode cX4_decode 8 = .ok (.aload_n 0, 1) := by decide +kernel
theorem dX4_decode_9 : decode cX4_decode 9 = .ok (.iconst 1, 1) := by decide +kernel
theorem dX4_decode_10 : decode cX4_decode 10 = .ok (.bipush 8, 2) := by decide +kernel
theorem dX4_decode_12 : decode cX4_decode 12 = .ok (.invokevirtual 55, 3) := by decide +kernel
theorem dX4_decode_15 : decode cX4_decode 15 = .ok (.istore_n 2, 1) := by decide +kernel
theorem dX4_decode_16 : decode cX4_decode 16 = .ok (.aload_n 0, 1) := by decide +kernel
theorem dX4_decode_17 : decode cX4_decode 17 = .ok (.iconst 1, 1) := by decide +kernel
theorem dX4_decode_18 : decode cX4_decode 18 = .ok (.iconst 3, 1) := by decide +kernel
theorem dX4_decode_19 : decode cX4_decode 19 = .ok (.invokevirtual 55, 3) := by decide +kernel
theorem dX4_decode_22 : decode cX4_decode 22 = .ok (.istore_n 3, 1) := by decide +kernel
theorem dX4_decode_23 : decode cX4_decode 23 = .ok (.iconst 0, 1) := by decide +kernel
theorem dX4_decode_24 : decode cX4_decode 24 = .ok (.istore 4, 2) := by decide +kernel
theorem dX4_decode_26 : decode cX4_decode 26 = .ok (.iload 4, 2) := by decide +kernel
theorem dX4_decode_28 : decode cX4_decode 28 = .ok (.iload_n 3, 1) := by decide +kernel
theorem dX4_decode_29 : decode cX4_decode 29 = .ok (.if_icmp .ge 20, 3) := by decide +kernel
theorem dX4_decode_32 : decode cX4_decode 32 = .ok (.aload_n 1, 1) := by decide +kernel
theorem dX4_decode_33 : decode cX4_decode 33 = .ok (.aload_n 0, 1) := by decide +kernel
theorem dX4_decode_34 : decode cX4_decode 34 = .ok (.iconst 1, 1) := by decide +kernel
theorem dX4_decode_35 : decode cX4_decode 35 = .ok (.bipush 6, 2) := by decide +kernel
theorem dX4_decode_37 : decode cX4_decode 37 = .ok (.invokevirtual 55, 3) := by decide +kernel
theorem dX4_decode_40 : decode cX4_decode 40 = .ok (.invokevirtual 58, 3) := by decide +kernel
theorem dX4_decode_43 : decode cX4_decode 43 = .ok (.iinc 4 1, 3) := by decide +kernel
theorem dX4_decode_46 : decode cX4_decode 46 = .ok (.goto (-20), 3) := by decide +kernel
theorem dX4_decode_49 : decode cX4_decode 49 = .ok (.iconst 0, 1) := by decide +kernel
theorem dX4_decode_50 : decode cX4_decode 50 = .ok (.istore 4, 2) := by decide +kernel
theorem dX4_decode_52 : decode cX4_decode 52 = .ok (.iload 4, 2) := by decide +kernel
theorem dX4_decode_54 : decode cX4_decode 54 = .ok (.iload_n 2, 1) := by decide +kernel
theorem dX4_decode_55 : decode cX4_decode 55 = .ok (.if_icmp .ge 26, 3) := by decide +kernel
theorem dX4_decode_58 : decode cX4_decode 58 = .ok (.aload_n 1, 1) := by decide +kernel
theorem dX4_decode_59 : decode cX4_decode 59 = .ok (.invokevirtual 61, 3) := by decide +kernel
theorem dX4_decode_62 : decode cX4_decode 62 = .ok (.aload_n 1, 1) := by decide +kernel
theorem dX4_decode_63 : decode cX4_decode 63 = .ok (.iload 4, 2) := by decide +kernel
theorem dX4_decode_65 : decode cX4_decode 65 = .ok (.aload_n 0, 1) := by decide +kernel
theorem dX4_decode_66 : decode cX4_decode 66 = .ok (.iconst 0, 1) := by decide +kernel
theorem dX4_decode_67 : decode cX4_decode 67 = .ok (.bipush 7, 2) := by decide +kernel
theorem dX4_decode_69 : decode cX4_decode 69 = .ok (.invokevirtual 55, 3) := by decide +kernel
theorem dX4_decode_72 : decode cX4_decode 72 = .ok (.invokevirtual 64, 3) := by decide +kernel
theorem dX4_decode_75 : decode cX4_decode 75 = .ok (.iinc 4 1, 3) := by decide +kernel
theorem dX4_decode_78 : decode cX4_decode 78 = .ok (.goto (-26), 3) := by decide +kernel
theorem dX4_decode_81 : decode cX4_decode 81 = .ok (.iconst 0, 1) := by decide +kernel
theorem dX4_decode_82 : decode cX4_decode 82 = .ok (.istore 4, 2) := by decide +kernel
theorem dX4_decode_84 : decode cX4_decode 84 = .ok (.iload 4, 2) := by decide +kernel
theorem dX4_decode_86 : decode cX4_decode 86 = .ok (.iload_n 3, 1) := by decide +kernel
theorem dX4_decode_87 : decode cX4_decode 87 = .ok (.if_icmp .ge 16, 3) := by decide +kernel
theorem dX4_decode_90 : decode cX4_decode 90 = .ok (.aload_n 0, 1) := by decide +kernel
theorem dX4_decode_91 : decode cX4_decode 91 = .ok (.iload 4, 2) := by decide +kernel
theorem dX4_decode_93 : decode cX4_decode 93 = .ok (.aload_n 1, 1) := by decide +kernel
theorem dX4_decode_94 : decode cX4_decode 94 = .ok (.invokestatic 68, 3) := by decide +kernel
theorem dX4_decode_97 : decode cX4_decode 97 = .ok (.iinc 4 1, 3) := by decide +kernel
theorem dX4_decode_100 : decode cX4_decode 100 = .ok (.goto (-16), 3) := by decide +kernel
theorem dX4_decode_103 : decode cX4_decode 103 = .ok (.aload_n 0, 1) := by decide +kernel
theorem dX4_decode_104 : decode cX4_decode 104 = .ok (.invokevirtual 72, 3) := by decide +kernel
theorem dX4_decode_107 : decode cX4_decode 107 = .ok (.ireturn, 1) := by decide +kernel
theorem dX4_decodeClass_0 : decode cX4_decodeClass 0 = .ok (.iconst 1, 1) := by decide +kernel
theorem dX4_decodeClass_1 : decode cX4_decodeClass 1 = .ok (.aload_n 2, 1) := by decide +kernel
theorem dX4_decodeClass_2 : decode cX4_decodeClass 2 = .ok (.iload_n 1, 1) := by decide +kernel
theorem dX4_decodeClass_3 : decode cX4_decodeClass 3 = .ok (.invokevirtual 27, 3) := by decide +kernel
theorem dX4_decodeClass_6 : decode cX4_decodeClass 6 = .ok (.ishl, 1) := by decide +kernel
theorem dX4_decodeClass_7 : decode cX4_decodeClass 7 = .ok (.iconst 1, 1) := by decide +kernel
theorem dX4_decodeClass_8 : decode cX4_decodeClass 8 = .ok (.isub, 1) := by decide +kernel
theorem dX4_decodeClass_9 : decode cX4_decodeClass 9 = .ok (.istore_n 3, 1) := by decide +kernel
theorem dX4_decodeClass_10 : decode cX4_decodeClass 10 = .ok (.iconst 0, 1) := by decide +kernel
theorem dX4_decodeClass_11 : decode cX4_decodeClass 11 = .ok (.istore 4, 2) := by decide +kernel
theorem dX4_decodeClass_13 : decode cX4_decodeClass 13 = .ok (.iload 4, 2) := by decide +kernel
theorem dX4_decodeClass_15 : decode cX4_decodeClass 15 = .ok (.aload_n 2, 1) := by decide +kernel
theorem dX4_decodeClass_16 : decode cX4_decodeClass 16 = .ok (.invokevirtual 14, 3) := by decide +kernel
theorem dX4_decodeClass_19 : decode cX4_decodeClass 19 = .ok (.if_icmp .ge 42, 3) := by decide +kernel
theorem dX4_decodeClass_22 : decode cX4_decodeClass 22 = .ok (.iconst 0, 1) := by decide +kernel
theorem dX4_decodeClass_23 : decode cX4_decodeClass 23 = .ok (.istore 5, 2) := by decide +kernel
theorem dX4_decodeClass_25 : decode cX4_decodeClass 25 = .ok (.iload 5, 2) := by decide +kernel
theorem dX4_decodeClass_27 : decode cX4_decodeClass 27 = .ok (.aload_n 2, 1) := by decide +kernel
theorem dX4_decodeClass_28 : decode cX4_decodeClass 28 = .ok (.invokevirtual 14, 3) := by decide +kernel
theorem dX4_decodeClass_31 : decode cX4_decodeClass 31 = .ok (.if_icmp .ge 24, 3) := by decide +kernel
theorem dX4_decodeClass_34 : decode cX4_decodeClass 34 = .ok (.aload_n 2, 1) := by decide +kernel
theorem dX4_decodeClass_35 : decode cX4_decodeClass 35 = .ok (.iload 4, 2) := by decide +kernel
theorem dX4_decodeClass_37 : decode cX4_decodeClass 37 = .ok (.iload 5, 2) := by decide +kernel
theorem dX4_decodeClass_39 : decode cX4_decodeClass 39 = .ok (.iload_n 1, 1) := by decide +kernel
theorem dX4_decodeClass_40 : decode cX4_decodeClass 40 = .ok (.aload_n 0, 1) := by decide +kernel
theorem dX4_decodeClass_41 : decode cX4_decodeClass 41 = .ok (.iconst 0, 1) := by decide +kernel
theorem dX4_decodeClass_42 : decode cX4_decodeClass 42 = .ok (.iload_n 3, 1) := by decide +kernel
theorem dX4_decodeClass_43 : decode cX4_decodeClass 43 = .ok (.invokevirtual 55, 3) := by decide +kernel
theorem dX4_decodeClass_46 : decode cX4_decodeClass 46 = .ok (.invokevirtual 76, 3) := by decide +kernel
theorem dX4_decodeClass_49 : decode cX4_decodeClass 49 = .ok (.iinc 5 1, 3) := by decide +kernel
theorem dX4_decodeClass_52 : decode cX4_decodeClass 52 = .ok (.goto (-27), 3) := by decide +kernel
theorem dX4_decodeClass_55 : decode cX4_decodeClass 55 = .ok (.iinc 4 1, 3) := by decide +kernel
theorem dX4_decodeClass_58 : decode cX4_decodeClass 58 = .ok (.goto (-45), 3) := by decide +kernel
theorem dX4_decodeClass_61 : decode cX4_decodeClass 61 = .ok (.iconst 0, 1) := by decide +kernel
theorem dX4_decodeClass_62 : decode cX4_decodeClass 62 = .ok (.istore 4, 2) := by decide +kernel
theorem dX4_decodeClass_64 : decode cX4_decodeClass 64 = .ok (.iload 4, 2) := by decide +kernel
theorem dX4_decodeClass_66 : decode cX4_decodeClass 66 = .ok (.aload_n 2, 1) := by decide +kernel
theorem dX4_decodeClass_67 : decode cX4_decodeClass 67 = .ok (.invokevirtual 14, 3) := by decide +kernel
theorem dX4_decodeClass_70 : decode cX4_decodeClass 70 = .ok (.if_icmp .ge 45, 3) := by decide +kernel
theorem dX4_decodeClass_73 : decode cX4_decodeClass 73 = .ok (.iconst 0, 1) := by decide +kernel
theorem dX4_decodeClass_74 : decode cX4_decodeClass 74 = .ok (.istore 5, 2) := by decide +kernel
theorem dX4_decodeClass_76 : decode cX4_decodeClass 76 = .ok (.iload 5, 2) := by decide +kernel
theorem dX4_decodeClass_78 : decode cX4_decodeClass 78 = .ok (.aload_n 2, 1) := by decide +kernel
theorem dX4_decodeClass_79 : decode cX4_decodeClass 79 = .ok (.invokevirtual 14, 3) := by decide +kernel
theorem dX4_decodeClass_82 : decode cX4_decodeClass 82 = .ok (.if_icmp .ge 27, 3) := by decide +kernel
theorem dX4_decodeClass_85 : decode cX4_decodeClass 85 = .ok (.aload_n 2, 1) := by decide +kernel
theorem dX4_decodeClass_86 : decode cX4_decodeClass 86 = .ok (.iload 4, 2) := by decide +kernel
theorem dX4_decodeClass_88 : decode cX4_decodeClass 88 = .ok (.iload 5, 2) := by decide +kernel
theorem dX4_decodeClass_90 : decode cX4_decodeClass 90 = .ok (.iload_n 1, 1) := by decide +kernel
theorem dX4_decodeClass_91 : decode cX4_decodeClass 91 = .ok (.aload_n 0, 1) := by decide +kernel
theorem dX4_decodeClass_92 : decode cX4_decodeClass 92 = .ok (.iconst 0, 1) := by decide +kernel
theorem dX4_decodeClass_93 : decode cX4_decodeClass 93 = .ok (.aload_n 2, 1) := by decide +kernel
theorem dX4_decodeClass_94 : decode cX4_decodeClass 94 = .ok (.invokevirtual 14, 3) := by decide +kernel
theorem dX4_decodeClass_97 : decode cX4_decodeClass 97 = .ok (.invokevirtual 55, 3) := by decide +kernel
theorem dX4_decodeClass_100 : decode cX4_decodeClass 100 = .ok (.invokevirtual 80, 3) := by decide +kernel
theorem dX4_decodeClass_103 : decode cX4_decodeClass 103 = .ok (.iinc 5 1, 3) := by decide +kernel
theorem dX4_decodeClass_106 : decode cX4_decodeClass 106 = .ok (.goto (-30), 3) := by decide +kernel
theorem dX4_decodeClass_109 : decode cX4_decodeClass 109 = .ok (.iinc 4 1, 3) := by decide +kernel
theorem dX4_decodeClass_112 : decode cX4_decodeClass 112 = .ok (.goto (-48), 3) := by decide +kernel
theorem dX4_decodeClass_115 : decode cX4_decodeClass 115 = .ok (.iconst 0, 1) := by decide +kernel
theorem dX4_decodeClass_116 : decode cX4_decodeClass 116 = .ok (.istore 4, 2) := by decide +kernel
theorem dX4_decodeClass_118 : decode cX4_decodeClass 118 = .ok (.iload 4, 2) := by decide +kernel
theorem dX4_decodeClass_120 : decode cX4_decodeClass 120 = .ok (.iconst 5, 1) := by decide +kernel
theorem dX4_decodeClass_121 : decode cX4_decodeClass 121 = .ok (.if_icmp .ge 22, 3) := by decide +kernel
theorem dX4_decodeClass_124 : decode cX4_decodeClass 124 = .ok (.aload_n 2, 1) := by decide +kernel
theorem dX4_decodeClass_125 : decode cX4_decodeClass 125 = .ok (.iload_n 1, 1) := by decide +kernel
theorem dX4_decodeClass_126 : decode cX4_decodeClass 126 = .ok (.iload 4, 2) := by decide +kernel
theorem dX4_decodeClass_128 : decode cX4_decodeClass 128 = .ok (.aload_n 0, 1) := by decide +kernel
theorem dX4_decodeClass_129 : decode cX4_decodeClass 129 = .ok (.iconst 0, 1) := by decide +kernel
theorem dX4_decodeClass_130 : decode cX4_decodeClass 130 = .ok (.iload_n 3, 1) := by decide +kernel
theorem dX4_decodeClass_131 : decode cX4_decodeClass 131 = .ok (.invokevirtual 55, 3) := by decide +kernel
theorem dX4_decodeClass_134 : decode cX4_decodeClass 134 = .ok (.invokevirtual 83, 3) := by decide +kernel
theorem dX4_decodeClass_137 : decode cX4_decodeClass 137 = .ok (.iinc 4 1, 3) := by decide +kernel
theorem dX4_decodeClass_140 : decode cX4_decodeClass 140 = .ok (.goto (-22), 3) := by decide +kernel
theorem dX4_decodeClass_143 : decode cX4_decodeClass 143 = .ok (.return_, 1) := by decide +kernel
theorem dX6_init_0 : decode cX6_init 0 = .ok (.aload_n 0, 1) := by decide +kernel
theorem dX6_init_1 : decode cX6_init 1 = .ok (.invokespecial 3, 3) := by decide +kernel
theorem dX6_init_4 : decode cX6_init 4 = .ok (.aload_n 0, 1) := by decide +kernel
theorem dX6_init_5 : decode cX6_init 5 = .ok (.iconst 0, 1) := by decide +kernel
theorem dX6_init_6 : decode cX6_init 6 = .ok (.putfield 9, 3) := by decide +kernel
theorem dX6_init_9 : decode cX6_init 9 = .ok (.aload_n 0, 1) := by decide +kernel
theorem dX6_init_10 : decode cX6_init 10 = .ok (.iconst 0, 1) := by decide +kernel
theorem dX6_init_11 : decode cX6_init 11 = .ok (.putfield 15, 3) := by decide +kernel
theorem dX6_init_14 : decode cX6_init 14 = .ok (.aload_n 0, 1) := by decide +kernel
theorem dX6_init_15 : decode cX6_init 15 = .ok (.iconst 0, 1) := by decide +kernel
theorem dX6_init_16 : decode cX6_init 16 = .ok (.putfield 18, 3) := by decide +kernel
theorem dX6_init_19 : decode cX6_init 19 = .ok (.aload_n 0, 1) := by decide +kernel
theorem dX6_init_20 : decode cX6_init 20 = .ok (.iload_n 1, 1) := by decide +kernel
theorem dX6_init_21 : decode cX6_init 21 = .ok (.newarray .int, 2) := by decide +kernel
theorem dX6_init_23 : decode cX6_init 23 = .ok (.putfield 21, 3) := by decide +kernel
theorem dX6_init_26 : decode cX6_init 26 = .ok (.aload_n 0, 1) := by decide +kernel
theorem dX6_init_27 : decode cX6_init 27 = .ok (.iload_n 1, 1) := by decide +kernel
theorem dX6_init_28 : decode cX6_init 28 = .ok (.newarray .int, 2) := by decide +kernel
theorem dX6_init_30 : decode cX6_init 30 = .ok (.putfield 25, 3) := by decide +kernel
theorem dX6_init_33 : decode cX6_init 33 = .ok (.return_, 1) := by decide +kernel
theorem dX6_size_0 : decode cX6_size 0 = .ok (.aload_n 0, 1) := by decide +kernel
theorem dX6_size_1 : decode cX6_size 1 = .ok (.getfield 9, 3) := by decide +kernel
theorem dX6_size_4 : decode cX6_size 4 = .ok (.ireturn, 1) := by decide +kernel
theorem dX6_hits_0 : decode cX6_hits 0 = .ok (.aload_n 0, 1) := by decide +kernel
theorem dX6_hits_1 : decode cX6_hits 1 = .ok (.getfield 15, 3) := by decide +kernel
theorem dX6_hits_4 : decode cX6_hits 4 = .ok (.ireturn, 1) := by decide +kernel
theorem dX6_misses_0 : decode cX6_misses 0 = .ok (.aload_n 0, 1) := by decide +kernel
theorem dX6_misses_1 : decode cX6_misses 1 = .ok (.getfield 18, 3) := by decide +kernel
theorem dX6_misses_4 : decode cX6_misses 4 = .ok (.ireturn, 1) := by decide +kernel
theorem dX6_forget_0 : decode cX6_forget 0 = .ok (.aload_n 0, 1) := by decide +kernel
theorem dX6_forget_1 : decode cX6_forget 1 = .ok (.iconst 0, 1) := by decide +kernel
theorem dX6_forget_2 : decode cX6_forget 2 = .ok (.putfield 9, 3) := by decide +kernel
theorem dX6_forget_5 : decode cX6_forget 5 = .ok (.return_, 1) := by decide +kernel
theorem dX6_recall_0 : decode cX6_recall 0 = .ok (.iconst 0, 1) := by decide +kernel
theorem dX6_recall_1 : decode cX6_recall 1 = .ok (.istore_n 2, 1) := by decide +kernel
theorem dX6_recall_2 : decode cX6_recall 2 = .ok (.iload_n 2, 1) := by decide +kernel
theorem dX6_recall_3 : decode cX6_recall 3 = .ok (.aload_n 0, 1) := by decide +kernel
theorem dX6_recall_4 : decode cX6_recall 4 = .ok (.getfield 9, 3) := by decide +kernel
theorem dX6_recall_7 : decode cX6_recall 7 = .ok (.if_icmp .ge 49, 3) := by decide +kernel
theorem dX6_recall_10 : decode cX6_recall 10 = .ok (.aload_n 0, 1) := by decide +kernel
theorem dX6_recall_11 : decode cX6_recall 11 = .ok (.getfield 21, 3) := by decide +kernel
theorem dX6_recall_14 : decode cX6_recall 14 = .ok (.iload_n 2, 1) := by decide +kernel
theorem dX6_recall_15 : decode cX6_recall 15 = .ok (.iaload, 1) := by decide +kernel
theorem dX6_recall_16 : decode cX6_recall 16 = .ok (.iload_n 1, 1) := by decide +kernel
theorem dX6_recall_17 : decode cX6_recall 17 = .ok (.if_icmp .ne 33, 3) := by decide +kernel
theorem dX6_recall_20 : decode cX6_recall 20 = .ok (.aload_n 0, 1) := by decide +kernel
theorem dX6_recall_21 : decode cX6_recall 21 = .ok (.getfield 25, 3) := by decide +kernel
theorem dX6_recall_24 : decode cX6_recall 24 = .ok (.iload_n 2, 1) := by decide +kernel
theorem dX6_recall_25 : decode cX6_recall 25 = .ok (.iaload, 1) := by decide +kernel
theorem dX6_recall_26 : decode cX6_recall 26 = .ok (.istore_n 3, 1) := by decide +kernel
theorem dX6_recall_27 : decode cX6_recall 27 = .ok (.aload_n 0, 1) := by decide +kernel
theorem dX6_recall_28 : decode cX6_recall 28 = .ok (.dup, 1) := by decide +kernel
theorem dX6_recall_29 : decode cX6_recall 29 = .ok (.getfield 15, 3) := by decide +kernel
theorem dX6_recall_32 : decode cX6_recall 32 = .ok (.iconst 1, 1) := by decide +kernel
theorem dX6_recall_33 : decode cX6_recall 33 = .ok (.iadd, 1) := by decide +kernel
theorem dX6_recall_34 : decode cX6_recall 34 = .ok (.putfield 15, 3) := by decide +kernel
theorem dX6_recall_37 : decode cX6_recall 37 = .ok (.aload_n 0, 1) := by decide +kernel
theorem dX6_recall_38 : decode cX6_recall 38 = .ok (.iload_n 2, 1) := by decide +kernel
theorem dX6_recall_39 : decode cX6_recall 39 = .ok (.invokevirtual 28, 3) := by decide +kernel
theorem dX6_recall_42 : decode cX6_recall 42 = .ok (.aload_n 0, 1) := by decide +kernel
theorem dX6_recall_43 : decode cX6_recall 43 = .ok (.iload_n 1, 1) := by decide +kernel
theorem dX6_recall_44 : decode cX6_recall 44 = .ok (.iload_n 3, 1) := by decide +kernel
theorem dX6_recall_45 : decode cX6_recall 45 = .ok (.invokevirtual 32, 3) := by decide +kernel
theorem dX6_recall_48 : decode cX6_recall 48 = .ok (.iload_n 3, 1) := by decide +kernel
theorem dX6_recall_49 : decode cX6_recall 49 = .ok (.ireturn, 1) := by decide +kernel
theorem dX6_recall_50 : decode cX6_recall 50 = .ok (.iinc 2 1, 3) := by decide +kernel
theorem dX6_recall_53 : decode cX6_recall 53 = .ok (.goto (-51), 3) := by decide +kernel
theorem dX6_recall_56 : decode cX6_recall 56 = .ok (.iconst (-1), 1) := by decide +kernel
theorem dX6_recall_57 : decode cX6_recall 57 = .ok (.ireturn, 1) := by decide +kernel
theorem dX6_keep_0 : decode cX6_keep 0 = .ok (.aload_n 0, 1) := by decide +kernel
theorem dX6_keep_1 : decode cX6_keep 1 = .ok (.dup, 1) := by decide +kernel
theorem dX6_keep_2 : decode cX6_keep 2 = .ok (.getfield 18, 3) := by decide +kernel
theorem dX6_keep_5 : decode cX6_keep 5 = .ok (.iconst 1, 1) := by decide +kernel
theorem dX6_keep_6 : decode cX6_keep 6 = .ok (.iadd, 1) := by decide +kernel
theorem dX6_keep_7 : decode cX6_keep 7 = .ok (.putfield 18, 3) := by decide +kernel
theorem dX6_keep_10 : decode cX6_keep 10 = .ok (.aload_n 0, 1) := by decide +kernel
theorem dX6_keep_11 : decode cX6_keep 11 = .ok (.getfield 9, 3) := by decide +kernel
theorem dX6_keep_14 : decode cX6_keep 14 = .ok (.aload_n 0, 1) := by decide +kernel
theorem dX6_keep_15 : decode cX6_keep 15 = .ok (.getfield 21, 3) := by decide +kernel
theorem dX6_keep_18 : decode cX6_keep 18 = .ok (.arraylength, 1) := by decide +kernel
theorem dX6_keep_19 : decode cX6_keep 19 = .ok (.if_icmp .ne 8, 3) := by decide +kernel
theorem dX6_keep_22 : decode cX6_keep 22 = .ok (.aload_n 0, 1) := by decide +kernel
theorem dX6_keep_23 : decode cX6_keep 23 = .ok (.iconst 0, 1) := by decide +kernel
theorem dX6_keep_24 : decode cX6_keep 24 = .ok (.invokevirtual 28, 3) := by decide +kernel
theorem dX6_keep_27 : decode cX6_keep 27 = .ok (.aload_n 0, 1) := by decide +kernel
theorem dX6_keep_28 : decode cX6_keep 28 = .ok (.iload_n 1, 1) := by decide +kernel
theorem dX6_keep_29 : decode cX6_keep 29 = .ok (.iload_n 2, 1) := by decide +kernel
theorem dX6_keep_30 : decode cX6_keep 30 = .ok (.invokevirtual 32, 3) := by decide +kernel
theorem dX6_keep_33 : decode cX6_keep 33 = .ok (.return_, 1) := by decide +kernel
theorem dX6_drop_0 : decode cX6_drop 0 = .ok (.iload_n 1, 1) := by decide +kernel
theorem dX6_drop_1 : decode cX6_drop 1 = .ok (.istore_n 2, 1) := by decide +kernel
theorem dX6_drop_2 : decode cX6_drop 2 = .ok (.iload_n 2, 1) := by decide +kernel
theorem dX6_drop_3 : decode cX6_drop 3 = .ok (.aload_n 0, 1) := by decide +kernel
theorem dX6_drop_4 : decode cX6_drop 4 = .ok (.getfield 9, 3) := by decide +kernel
theorem dX6_drop_7 : decode cX6_drop 7 = .ok (.iconst 1, 1) := by decide +kernel
theorem dX6_drop_8 : decode cX6_drop 8 = .ok (.isub, 1) := by decide +kernel
theorem dX6_drop_9 : decode cX6_drop 9 = .ok (.if_icmp .ge 37, 3) := by decide +kernel
theorem dX6_drop_12 : decode cX6_drop 12 = .ok (.aload_n 0, 1) := by decide +kernel
theorem dX6_drop_13 : decode cX6_drop 13 = .ok (.getfield 21, 3) := by decide +kernel
theorem dX6_drop_16 : decode cX6_drop 16 = .ok (.iload_n 2, 1) := by decide +kernel
theorem dX6_drop_17 : decode cX6_drop 17 = .ok (.aload_n 0, 1) := by decide +kernel
theorem dX6_drop_18 : decode cX6_drop 18 = .ok (.getfield 21, 3) := by decide +kernel
theorem dX6_drop_21 : decode cX6_drop 21 = .ok (.iload_n 2, 1) := by decide +kernel
theorem dX6_drop_22 : decode cX6_drop 22 = .ok (.iconst 1, 1) := by decide +kernel
theorem dX6_drop_23 : decode cX6_drop 23 = .ok (.iadd, 1) := by decide +kernel
theorem dX6_drop_24 : decode cX6_drop 24 = .ok (.iaload, 1) := by decide +kernel
theorem dX6_drop_25 : decode cX6_drop 25 = .ok (.iastore, 1) := by decide +kernel
theorem dX6_drop_26 : decode cX6_drop 26 = .ok (.aload_n 0, 1) := by decide +kernel
theorem dX6_drop_27 : decode cX6_drop 27 = .ok (.getfield 25, 3) := by decide +kernel
theorem dX6_drop_30 : decode cX6_drop 30 = .ok (.iload_n 2, 1) := by decide +kernel
theorem dX6_drop_31 : decode cX6_drop 31 = .ok (.aload_n 0, 1) := by decide +kernel
theorem dX6_drop_32 : decode cX6_drop 32 = .ok (.getfield 25, 3) := by decide +kernel
theorem dX6_drop_35 : decode cX6_drop 35 = .ok (.iload_n 2, 1) := by decide +kernel
theorem dX6_drop_36 : decode cX6_drop 36 = .ok (.iconst 1, 1) := by decide +kernel
theorem dX6_drop_37 : decode cX6_drop 37 = .ok (.iadd, 1) := by decide +kernel
theorem dX6_drop_38 : decode cX6_drop 38 = .ok (.iaload, 1) := by decide +kernel
theorem dX6_drop_39 : decode cX6_drop 39 = .ok (.iastore, 1) := by decide +kernel
theorem dX6_drop_40 : decode cX6_drop 40 = .ok (.iinc 2 1, 3) := by decide +kernel
theorem dX6_drop_43 : decode cX6_drop 43 = .ok (.goto (-41), 3) := by decide +kernel
theorem dX6_drop_46 : decode cX6_drop 46 = .ok (.aload_n 0, 1) := by decide +kernel
theorem dX6_drop_47 : decode cX6_drop 47 = .ok (.dup, 1) := by decide +kernel
theorem dX6_drop_48 : decode cX6_drop 48 = .ok (.getfield 9, 3) := by decide +kernel
theorem dX6_drop_51 : decode cX6_drop 51 = .ok (.iconst 1, 1) := by decide +kernel
theorem dX6_drop_52 : decode cX6_drop 52 = .ok (.isub, 1) := by decide +kernel
theorem dX6_drop_53 : decode cX6_drop 53 = .ok (.putfield 9, 3) := by decide +kernel
theorem dX6_drop_56 : decode cX6_drop 56 = .ok (.return_, 1) := by decide +kernel
theorem dX6_append_0 : decode cX6_append 0 = .ok (.aload_n 0, 1) := by decide +kernel
theorem dX6_append_1 : decode cX6_append 1 = .ok (.getfield 9, 3) := by decide +kernel
theorem dX6_append_4 : decode cX6_append 4 = .ok (.aload_n 0, 1) := by decide +kernel
theorem dX6_append_5 : decode cX6_append 5 = .ok (.getfield 21, 3) := by decide +kernel
theorem dX6_append_8 : decode cX6_append 8 = .ok (.arraylength, 1) := by decide +kernel
theorem dX6_append_9 : decode cX6_append 9 = .ok (.if_icmp .ge 33, 3) := by decide +kernel
theorem dX6_append_12 : decode cX6_append 12 = .ok (.aload_n 0, 1) := by decide +kernel
theorem dX6_append_13 : decode cX6_append 13 = .ok (.getfield 21, 3) := by decide +kernel
theorem dX6_append_16 : decode cX6_append 16 = .ok (.aload_n 0, 1) := by decide +kernel
theorem dX6_append_17 : decode cX6_append 17 = .ok (.getfield 9, 3) := by decide +kernel
theorem dX6_append_20 : decode cX6_append 20 = .ok (.iload_n 1, 1) := by decide +kernel
theorem dX6_append_21 : decode cX6_append 21 = .ok (.iastore, 1) := by decide +kernel
theorem dX6_append_22 : decode cX6_append 22 = .ok (.aload_n 0, 1) := by decide +kernel
theorem dX6_append_23 : decode cX6_append 23 = .ok (.getfield 25, 3) := by decide +kernel
theorem dX6_append_26 : decode cX6_append 26 = .ok (.aload_n 0, 1) := by decide +kernel
theorem dX6_append_27 : decode cX6_append 27 = .ok (.getfield 9, 3) := by decide +kernel
theorem dX6_append_30 : decode cX6_append 30 = .ok (.iload_n 2, 1) := by decide +kernel
theorem dX6_append_31 : decode cX6_append 31 = .ok (.iastore, 1) := by decide +kernel
theorem dX6_append_32 : decode cX6_append 32 = .ok (.aload_n 0, 1) := by decide +kernel
theorem dX6_append_33 : decode cX6_append 33 = .ok (.dup, 1) := by decide +kernel
theorem dX6_append_34 : decode cX6_append 34 = .ok (.getfield 9, 3) := by decide +kernel
theorem dX6_append_37 : decode cX6_append 37 = .ok (.iconst 1, 1) := by decide +kernel
theorem dX6_append_38 : decode cX6_append 38 = .ok (.iadd, 1) := by decide +kernel
theorem dX6_append_39 : decode cX6_append 39 = .ok (.putfield 9, 3) := by decide +kernel
theorem dX6_append_42 : decode cX6_append 42 = .ok (.return_, 1) := by decide +kernel
theorem dX7_init_0 : decode cX7_init 0 = .ok (.aload_n 0, 1) := by decide +kernel
theorem dX7_init_1 : decode cX7_init 1 = .ok (.invokespecial 3, 3) := by decide +kernel
theorem dX7_init_4 : decode cX7_init 4 = .ok (.aload_n 0, 1) := by decide +kernel
theorem dX7_init_5 : decode cX7_init 5 = .ok (.iconst 3, 1) := by decide +kernel
theorem dX7_init_6 : decode cX7_init 6 = .ok (.newarray .int, 2) := by decide +kernel
theorem dX7_init_8 : decode cX7_init 8 = .ok (.putfield 9, 3) := by decide +kernel
theorem dX7_init_11 : decode cX7_init 11 = .ok (.aload_n 0, 1) := by decide +kernel
theorem dX7_init_12 : decode cX7_init 12 = .ok (.bipush 8, 2) := by decide +kernel
theorem dX7_init_14 : decode cX7_init 14 = .ok (.newarray .int, 2) := by decide +kernel
theorem dX7_init_16 : decode cX7_init 16 = .ok (.putfield 15, 3) := by decide +kernel
theorem dX7_init_19 : decode cX7_init 19 = .ok (.aload_n 0, 1) := by decide +kernel
theorem dX7_init_20 : decode cX7_init 20 = .ok (.sipush 192, 3) := by decide +kernel
theorem dX7_init_23 : decode cX7_init 23 = .ok (.newarray .int, 2) := by decide +kernel
theorem dX7_init_25 : decode cX7_init 25 = .ok (.putfield 18, 3) := by decide +kernel
theorem dX7_init_28 : decode cX7_init 28 = .ok (.aload_n 0, 1) := by decide +kernel
theorem dX7_init_29 : decode cX7_init 29 = .ok (.sipush 192, 3) := by decide +kernel
theorem dX7_init_32 : decode cX7_init 32 = .ok (.newarray .int, 2) := by decide +kernel
theorem dX7_init_34 : decode cX7_init 34 = .ok (.putfield 21, 3) := by decide +kernel
theorem dX7_init_37 : decode cX7_init 37 = .ok (.aload_n 0, 1) := by decide +kernel
theorem dX7_init_38 : decode cX7_init 38 = .ok (.bipush 15, 2) := by decide +kernel
theorem dX7_init_40 : decode cX7_init 40 = .ok (.newarray .int, 2) := by decide +kernel
theorem dX7_init_42 : decode cX7_init 42 = .ok (.putfield 24, 3) := by decide +kernel
theorem dX7_init_45 : decode cX7_init 45 = .ok (.aload_n 0, 1) := by decide +kernel
theorem dX7_init_46 : decode cX7_init 46 = .ok (.iconst 0, 1) := by decide +kernel
theorem dX7_init_47 : decode cX7_init 47 = .ok (.putfield 27, 3) := by decide +kernel
theorem dX7_init_50 : decode cX7_init 50 = .ok (.aload_n 0, 1) := by decide +kernel
theorem dX7_init_51 : decode cX7_init 51 = .ok (.iconst 0, 1) := by decide +kernel
theorem dX7_init_52 : decode cX7_init 52 = .ok (.putfield 31, 3) := by decide +kernel
theorem dX7_init_55 : decode cX7_init 55 = .ok (.return_, 1) := by decide +kernel
theorem dX7_clear_0 : decode cX7_clear 0 = .ok (.aload_n 0, 1) := by decide +kernel
theorem dX7_clear_1 : decode cX7_clear 1 = .ok (.iconst 0, 1) := by decide +kernel
theorem dX7_clear_2 : decode cX7_clear 2 = .ok (.putfield 27, 3) := by decide +kernel
theorem dX7_clear_5 : decode cX7_clear 5 = .ok (.aload_n 0, 1) := by decide +kernel
theorem dX7_clear_6 : decode cX7_clear 6 = .ok (.iconst 0, 1) := by decide +kernel
theorem dX7_clear_7 : decode cX7_clear 7 = .ok (.putfield 31, 3) := by decide +kernel
theorem dX7_clear_10 : decode cX7_clear 10 = .ok (.aload_n 0, 1) := by decide +kernel
theorem dX7_clear_11 : decode cX7_clear 11 = .ok (.getfield 9, 3) := by decide +kernel
theorem dX7_clear_14 : decode cX7_clear 14 = .ok (.iconst 0, 1) := by decide +kernel
theorem dX7_clear_15 : decode cX7_clear 15 = .ok (.invokestatic 34, 3) := by decide +kernel
theorem dX7_clear_18 : decode cX7_clear 18 = .ok (.aload_n 0, 1) := by decide +kernel
theorem dX7_clear_19 : decode cX7_clear 19 = .ok (.getfield 15, 3) := by decide +kernel
theorem dX7_clear_22 : decode cX7_clear 22 = .ok (.iconst 0, 1) := by decide +kernel
theorem dX7_clear_23 : decode cX7_clear 23 = .ok (.invokestatic 34, 3) := by decide +kernel
theorem dX7_clear_26 : decode cX7_clear 26 = .ok (.aload_n 0, 1) := by decide +kernel
theorem dX7_clear_27 : decode cX7_clear 27 = .ok (.getfield 18, 3) := by decide +kernel
theorem dX7_clear_30 : decode cX7_clear 30 = .ok (.iconst 0, 1) := by decide +kernel
theorem dX7_clear_31 : decode cX7_clear 31 = .ok (.invokestatic 34, 3) := by decide +kernel
theorem dX7_clear_34 : decode cX7_clear 34 = .ok (.aload_n 0, 1) := by decide +kernel
theorem dX7_clear_35 : decode cX7_clear 35 = .ok (.getfield 21, 3) := by decide +kernel
theorem dX7_clear_38 : decode cX7_clear 38 = .ok (.iconst 0, 1) := by decide +kernel
theorem dX7_clear_39 : decode cX7_clear 39 = .ok (.invokestatic 34, 3) := by decide +kernel
theorem dX7_clear_42 : decode cX7_clear 42 = .ok (.aload_n 0, 1) := by decide +kernel
theorem dX7_clear_43 : decode cX7_clear 43 = .ok (.getfield 24, 3) := by decide +kernel
theorem dX7_clear_46 : decode cX7_clear 46 = .ok (.iconst 0, 1) := by decide +kernel
theorem dX7_clear_47 : decode cX7_clear 47 = .ok (.invokestatic 34, 3) := by decide +kernel
theorem dX7_clear_50 : decode cX7_clear 50 = .ok (.return_, 1) := by decide +kernel
theorem dX7_declareType_0 : decode cX7_declareType 0 = .ok (.aload_n 0, 1) := by decide +kernel
theorem dX7_declareType_1 : decode cX7_declareType 1 = .ok (.getfield 27, 3) := by decide +kernel
theorem dX7_declareType_4 : decode cX7_declareType 4 = .ok (.bipush 8, 2) := by decide +kernel
theorem dX7_declareType_6 : decode cX7_declareType 6 = .ok (.if_icmp .ge 13, 3) := by decide +kernel
theorem dX7_declareType_9 : decode cX7_declareType 9 = .ok (.aload_n 0, 1) := by decide +kernel
theorem dX7_declareType_10 : decode cX7_declareType 10 = .ok (.dup, 1) := by decide +kernel
theorem dX7_declareType_11 : decode cX7_declareType 11 = .ok (.getfield 27, 3) := by decide +kernel
theorem dX7_declareType_14 : decode cX7_declareType 14 = .ok (.iconst 1, 1) := by decide +kernel
theorem dX7_declareType_15 : decode cX7_declareType 15 = .ok (.iadd, 1) := by decide +kernel
theorem dX7_declareType_16 : decode cX7_declareType 16 = .ok (.putfield 27, 3) := by decide +kernel
theorem dX7_declareType_19 : decode cX7_declareType 19 = .ok (.return_, 1) := by decide +kernel
theorem dX7_declareClass_0 : decode cX7_declareClass 0 = .ok (.aload_n 0, 1) := by decide +kernel
theorem dX7_declareClass_1 : decode cX7_declareClass 1 = .ok (.getfield 31, 3) := by decide +kernel
theorem dX7_declareClass_4 : decode cX7_declareClass 4 = .ok (.iconst 3, 1) := by decide +kernel
theorem dX7_declareClass_5 : decode cX7_declareClass 5 = .ok (.if_icmp .ge 23, 3) := by decide +kernel
theorem dX7_declareClass_8 : decode cX7_declareClass 8 = .ok (.aload_n 0, 1) := by decide +kernel
theorem dX7_declareClass_9 : decode cX7_declareClass 9 = .ok (.getfield 9, 3) := by decide +kernel
theorem dX7_declareClass_12 : decode cX7_declareClass 12 = .ok (.aload_n 0, 1) := by decide +kernel
theorem dX7_declareClass_13 : decode cX7_declareClass 13 = .ok (.getfield 31, 3) := by decide +kernel
theorem dX7_declareClass_16 : decode cX7_declareClass 16 = .ok (.iload_n 1, 1) := by decide +kernel
theorem dX7_declareClass_17 : decode cX7_declareClass 17 = .ok (.iastore, 1) := by decide +kernel
theorem dX7_declareClass_18 : decode cX7_declareClass 18 = .ok (.aload_n 0, 1) := by decide +kernel
theorem dX7_declareClass_19 : decode cX7_declareClass 19 = .ok (.dup, 1) := by decide +kernel
theorem dX7_declareClass_20 : decode cX7_declareClass 20 = .ok (.getfield 31, 3) := by decide +kernel
theorem dX7_declareClass_23 : decode cX7_declareClass 23 = .ok (.iconst 1, 1) := by decide +kernel
theorem dX7_declareClass_24 : decode cX7_declareClass 24 = .ok (.iadd, 1) := by decide +kernel
theorem dX7_declareClass_25 : decode cX7_declareClass 25 = .ok (.putfield 31, 3) := by decide +kernel
theorem dX7_declareClass_28 : decode cX7_declareClass 28 = .ok (.return_, 1) := by decide +kernel
theorem dX7_types_0 : decode cX7_types 0 = .ok (.aload_n 0, 1) := by decide +kernel
theorem dX7_types_1 : decode cX7_types 1 = .ok (.getfield 27, 3) := by decide +kernel
theorem dX7_types_4 : decode cX7_types 4 = .ok (.ireturn, 1) := by decide +kernel
theorem dX7_classes_0 : decode cX7_classes 0 = .ok (.aload_n 0, 1) := by decide +kernel
theorem dX7_classes_1 : decode cX7_classes 1 = .ok (.getfield 31, 3) := by decide +kernel
theorem dX7_classes_4 : decode cX7_classes 4 = .ok (.ireturn, 1) := by decide +kernel
theorem dX7_hasType_0 : decode cX7_hasType 0 = .ok (.iload_n 1, 1) := by decide +kernel
theorem dX7_hasType_1 : decode cX7_hasType 1 = .ok (.ifCond .lt 15, 3) := by decide +kernel
theorem dX7_hasType_4 : decode cX7_hasType 4 = .ok (.iload_n 1, 1) := by decide +kernel
theorem dX7_hasType_5 : decode cX7_hasType 5 = .ok (.aload_n 0, 1) := by decide +kernel
theorem dX7_hasType_6 : decode cX7_hasType 6 = .ok (.getfield 27, 3) := by decide +kernel
theorem dX7_hasType_9 : decode cX7_hasType 9 = .ok (.if_icmp .ge 7, 3) := by decide +kernel
theorem dX7_hasType_12 : decode cX7_hasType 12 = .ok (.iconst 1, 1) := by decide +kernel
theorem dX7_hasType_13 : decode cX7_hasType 13 = .ok (.goto 4, 3) := by decide +kernel
theorem dX7_hasType_16 : decode cX7_hasType 16 = .ok (.iconst 0, 1) := by decide +kernel
theorem dX7_hasType_17 : decode cX7_hasType 17 = .ok (.ireturn, 1) := by decide +kernel
theorem dX7_has_0 : decode cX7_has 0 = .ok (.iload_n 1, 1) := by decide +kernel
theorem dX7_has_1 : decode cX7_has 1 = .ok (.ifCond .lt 39, 3) := by decide +kernel
theorem dX7_has_4 : decode cX7_has 4 = .ok (.iload_n 1, 1) := by decide +kernel
theorem dX7_has_5 : decode cX7_has 5 = .ok (.aload_n 0, 1) := by decide +kernel
theorem dX7_has_6 : decode cX7_has 6 = .ok (.getfield 27, 3) := by decide +kernel
theorem dX7_has_9 : decode cX7_has 9 = .ok (.if_icmp .ge 31, 3) := by decide +kernel
theorem dX7_has_12 : decode cX7_has 12 = .ok (.iload_n 2, 1) := by decide +kernel
theorem dX7_has_13 : decode cX7_has 13 = .ok (.ifCond .lt 27, 3) := by decide +kernel
theorem dX7_has_16 : decode cX7_has 16 = .ok (.iload_n 2, 1) := by decide +kernel
theorem dX7_has_17 : decode cX7_has 17 = .ok (.aload_n 0, 1) := by decide +kernel
theorem dX7_has_18 : decode cX7_has 18 = .ok (.getfield 27, 3) := by decide +kernel
theorem dX7_has_21 : decode cX7_has 21 = .ok (.if_icmp .ge 19, 3) := by decide +kernel
theorem dX7_has_24 : decode cX7_has 24 = .ok (.iload_n 3, 1) := by decide +kernel
theorem dX7_has_25 : decode cX7_has 25 = .ok (.ifCond .lt 15, 3) := by decide +kernel
theorem dX7_has_28 : decode cX7_has 28 = .ok (.iload_n 3, 1) := by decide +kernel
theorem dX7_has_29 : decode cX7_has 29 = .ok (.aload_n 0, 1) := by decide +kernel
theorem dX7_has_30 : decode cX7_has 30 = .ok (.getfield 31, 3) := by decide +kernel
theorem dX7_has_33 : decode cX7_has 33 = .ok (.if_icmp .ge 7, 3) := by decide +kernel
theorem dX7_has_36 : decode cX7_has 36 = .ok (.iconst 1, 1) := by decide +kernel
theorem dX7_has_37 : decode cX7_has 37 = .ok (.goto 4, 3) := by decide +kernel
theorem dX7_has_40 : decode cX7_has 40 = .ok (.iconst 0, 1) := by decide +kernel
theorem dX7_has_41 : decode cX7_has 41 = .ok (.ireturn, 1) := by decide +kernel
theorem dX7_permissionsOf_0 : decode cX7_permissionsOf 0 = .ok (.iload_n 1, 1) := by decide +kernel
theorem dX7_permissionsOf_1 : decode cX7_permissionsOf 1 = .ok (.ifCond .lt 20, 3) := by decide +kernel
theorem dX7_permissionsOf_4 : decode cX7_permissionsOf 4 = .ok (.iload_n 1, 1) := by decide +kernel
theorem dX7_permissionsOf_5 : decode cX7_permissionsOf 5 = .ok (.aload_n 0, 1) := by decide +kernel
theorem dX7_permissionsOf_6 : decode cX7_permissionsOf 6 = .ok (.getfield 31, 3) := by decide +kernel
theorem dX7_permissionsOf_9 : decode cX7_permissionsOf 9 = .ok (.if_icmp .ge 12, 3) := by decide +kernel
theorem dX7_permissionsOf_12 : decode cX7_permissionsOf 12 = .ok (.aload_n 0, 1) := by decide +kernel
theorem dX7_permissionsOf_13 : decode cX7_permissionsOf 13 = .ok (.getfield 9, 3) := by decide +kernel
theorem dX7_permissionsOf_16 : decode cX7_permissionsOf 16 = .ok (.iload_n 1, 1) := by decide +kernel
theorem dX7_permissionsOf_17 : decode cX7_permissionsOf 17 = .ok (.iaload, 1) := by decide +kernel
theorem dX7_permissionsOf_18 : decode cX7_permissionsOf 18 = .ok (.goto 4, 3) := by decide +kernel
theorem dX7_permissionsOf_21 : decode cX7_permissionsOf 21 = .ok (.iconst 0, 1) := by decide +kernel
theorem dX7_permissionsOf_22 : decode cX7_permissionsOf 22 = .ok (.ireturn, 1) := by decide +kernel
theorem dX7_rankOf_0 : decode cX7_rankOf 0 = .ok (.aload_n 0, 1) := by decide +kernel
theorem dX7_rankOf_1 : decode cX7_rankOf 1 = .ok (.iload_n 1, 1) := by decide +kernel
theorem dX7_rankOf_2 : decode cX7_rankOf 2 = .ok (.invokevirtual 40, 3) := by decide +kernel
theorem dX7_rankOf_5 : decode cX7_rankOf 5 = .ok (.ifCond .eq 12, 3) := by decide +kernel
theorem dX7_rankOf_8 : decode cX7_rankOf 8 = .ok (.aload_n 0, 1) := by decide +kernel
theorem dX7_rankOf_9 : decode cX7_rankOf 9 = .ok (.getfield 15, 3) := by decide +kernel
theorem dX7_rankOf_12 : decode cX7_rankOf 12 = .ok (.iload_n 1, 1) := by decide +kernel
theorem dX7_rankOf_13 : decode cX7_rankOf 13 = .ok (.iaload, 1) := by decide +kernel
theorem dX7_rankOf_14 : decode cX7_rankOf 14 = .ok (.goto 4, 3) := by decide +kernel
theorem dX7_rankOf_17 : decode cX7_rankOf 17 = .ok (.iconst 0, 1) := by decide +kernel
theorem dX7_rankOf_18 : decode cX7_rankOf 18 = .ok (.ireturn, 1) := by decide +kernel
theorem dX7_setRank_0 : decode cX7_setRank 0 = .ok (.aload_n 0, 1) := by decide +kernel
theorem dX7_setRank_1 : decode cX7_setRank 1 = .ok (.iload_n 1, 1) := by decide +kernel
theorem dX7_setRank_2 : decode cX7_setRank 2 = .ok (.invokevirtual 40, 3) := by decide +kernel
theorem dX7_setRank_5 : decode cX7_setRank 5 = .ok (.ifCond .eq 10, 3) := by decide +kernel
theorem dX7_setRank_8 : decode cX7_setRank 8 = .ok (.aload_n 0, 1) := by decide +kernel
theorem dX7_setRank_9 : decode cX7_setRank 9 = .ok (.getfield 15, 3) := by decide +kernel
theorem dX7_setRank_12 : decode cX7_setRank 12 = .ok (.iload_n 1, 1) := by decide +kernel
theorem dX7_setRank_13 : decode cX7_setRank 13 = .ok (.iload_n 2, 1) := by decide +kernel
theorem dX7_setRank_14 : decode cX7_setRank 14 = .ok (.iastore, 1) := by decide +kernel
theorem dX7_setRank_15 : decode cX7_setRank 15 = .ok (.return_, 1) := by decide +kernel
theorem dX7_allowedAt_0 : decode cX7_allowedAt 0 = .ok (.aload_n 0, 1) := by decide +kernel
theorem dX7_allowedAt_1 : decode cX7_allowedAt 1 = .ok (.iload_n 1, 1) := by decide +kernel
theorem dX7_allowedAt_2 : decode cX7_allowedAt 2 = .ok (.iload_n 2, 1) := by decide +kernel
theorem dX7_allowedAt_3 : decode cX7_allowedAt 3 = .ok (.iload_n 3, 1) := by decide +kernel
theorem dX7_allowedAt_4 : decode cX7_allowedAt 4 = .ok (.invokevirtual 44, 3) := by decide +kernel
theorem dX7_allowedAt_7 : decode cX7_allowedAt 7 = .ok (.ifCond .eq 17, 3) := by decide +kernel
theorem dX7_allowedAt_10 : decode cX7_allowedAt 10 = .ok (.aload_n 0, 1) := by decide +kernel
theorem dX7_allowedAt_11 : decode cX7_allowedAt 11 = .ok (.getfield 18, 3) := by decide +kernel
theorem dX7_allowedAt_14 : decode cX7_allowedAt 14 = .ok (.iload_n 1, 1) := by decide +kernel
theorem dX7_allowedAt_15 : decode cX7_allowedAt 15 = .ok (.iload_n 2, 1) := by decide +kernel
theorem dX7_allowedAt_16 : decode cX7_allowedAt 16 = .ok (.iload_n 3, 1) := by decide +kernel
theorem dX7_allowedAt_17 : decode cX7_allowedAt 17 = .ok (.invokestatic 48, 3) := by decide +kernel
theorem dX7_allowedAt_20 : decode cX7_allowedAt 20 = .ok (.iaload, 1) := by decide +kernel
theorem dX7_allowedAt_21 : decode cX7_allowedAt 21 = .ok (.goto 4, 3) := by decide +kernel
theorem dX7_allowedAt_24 : decode cX7_allowedAt 24 = .ok (.iconst 0, 1) := by decide +kernel
theorem dX7_allowedAt_25 : decode cX7_allowedAt 25 = .ok (.ireturn, 1) := by decide +kernel
theorem dX7_setAllowed_0 : decode cX7_setAllowed 0 = .ok (.aload_n 0, 1) := by decide +kernel
theorem dX7_setAllowed_1 : decode cX7_setAllowed 1 = .ok (.iload_n 1, 1) := by decide +kernel
theorem dX7_setAllowed_2 : decode cX7_setAllowed 2 = .ok (.iload_n 2, 1) := by decide +kernel
theorem dX7_setAllowed_3 : decode cX7_setAllowed 3 = .ok (.iload_n 3, 1) := by decide +kernel
theorem dX7_setAllowed_4 : decode cX7_setAllowed 4 = .ok (.invokevirtual 44, 3) := by decide +kernel
theorem dX7_setAllowed_7 : decode cX7_setAllowed 7 = .ok (.ifCond .eq 16, 3) := by decide +kernel
theorem dX7_setAllowed_10 : decode cX7_setAllowed 10 = .ok (.aload_n 0, 1) := by decide +kernel
theorem dX7_setAllowed_11 : decode cX7_setAllowed 11 = .ok (.getfield 18, 3) := by decide +kernel
theorem dX7_setAllowed_14 : decode cX7_setAllowed 14 = .ok (.iload_n 1, 1) := by decide +kernel
theorem dX7_setAllowed_15 : decode cX7_setAllowed 15 = .ok (.iload_n 2, 1) := by decide +kernel
theorem dX7_setAllowed_16 : decode cX7_setAllowed 16 = .ok (.iload_n 3, 1) := by decide +kernel
theorem dX7_setAllowed_17 : decode cX7_setAllowed 17 = .ok (.invokestatic 48, 3) := by decide +kernel
theorem dX7_setAllowed_20 : decode cX7_setAllowed 20 = .ok (.iload 4, 2) := by decide +kernel
theorem dX7_setAllowed_22 : decode cX7_setAllowed 22 = .ok (.iastore, 1) := by decide +kernel
theorem dX7_setAllowed_23 : decode cX7_setAllowed 23 = .ok (.return_, 1) := by decide +kernel
theorem dX7_addAllowed_0 : decode cX7_addAllowed 0 = .ok (.iconst 0, 1) := by decide +kernel
theorem dX7_addAllowed_1 : decode cX7_addAllowed 1 = .ok (.istore 5, 2) := by decide +kernel
theorem dX7_addAllowed_3 : decode cX7_addAllowed 3 = .ok (.iload 5, 2) := by decide +kernel
theorem dX7_addAllowed_5 : decode cX7_addAllowed 5 = .ok (.aload_n 0, 1) := by decide +kernel
theorem dX7_addAllowed_6 : decode cX7_addAllowed 6 = .ok (.getfield 27, 3) := by decide +kernel
theorem dX7_addAllowed_9 : decode cX7_addAllowed 9 = .ok (.if_icmp .ge 46, 3) := by decide +kernel
theorem dX7_addAllowed_12 : decode cX7_addAllowed 12 = .ok (.iload_n 2, 1) := by decide +kernel
theorem dX7_addAllowed_13 : decode cX7_addAllowed 13 = .ok (.iload 5, 2) := by decide +kernel
theorem dX7_addAllowed_15 : decode cX7_addAllowed 15 = .ok (.invokestatic 52, 3) := by decide +kernel
theorem dX7_addAllowed_18 : decode cX7_addAllowed 18 = .ok (.ifCond .eq 31, 3) := by decide +kernel
theorem dX7_addAllowed_21 : decode cX7_addAllowed 21 = .ok (.aload_n 0, 1) := by decide +kernel
theorem dX7_addAllowed_22 : decode cX7_addAllowed 22 = .ok (.iload_n 1, 1) := by decide +kernel
theorem dX7_addAllowed_23 : decode cX7_addAllowed 23 = .ok (.iload 5, 2) := by decide +kernel
theorem dX7_addAllowed_25 : decode cX7_addAllowed 25 = .ok (.iload_n 3, 1) := by decide +kernel
theorem dX7_addAllowed_26 : decode cX7_addAllowed 26 = .ok (.invokevirtual 44, 3) := by decide +kernel
theorem dX7_addAllowed_29 : decode cX7_addAllowed 29 = .ok (.ifCond .eq 20, 3) := by decide +kernel
theorem dX7_addAllowed_32 : decode cX7_addAllowed 32 = .ok (.aload_n 0, 1) := by decide +kernel
theorem dX7_addAllowed_33 : decode cX7_addAllowed 33 = .ok (.getfield 18, 3) := by decide +kernel
theorem dX7_addAllowed_36 : decode cX7_addAllowed 36 = .ok (.iload_n 1, 1) := by decide +kernel
theorem dX7_addAllowed_37 : decode cX7_addAllowed 37 = .ok (.iload 5, 2) := by decide +kernel
theorem dX7_addAllowed_39 : decode cX7_addAllowed 39 = .ok (.iload_n 3, 1) := by decide +kernel
theorem dX7_addAllowed_40 : decode cX7_addAllowed 40 = .ok (.invokestatic 48, 3) := by decide +kernel
theorem dX7_addAllowed_43 : decode cX7_addAllowed 43 = .ok (.dup2, 1) := by decide +kernel
theorem dX7_addAllowed_44 : decode cX7_addAllowed 44 = .ok (.iaload, 1) := by decide +kernel
theorem dX7_addAllowed_45 : decode cX7_addAllowed 45 = .ok (.iload 4, 2) := by decide +kernel
theorem dX7_addAllowed_47 : decode cX7_addAllowed 47 = .ok (.ior, 1) := by decide +kernel
theorem dX7_addAllowed_48 : decode cX7_addAllowed 48 = .ok (.iastore, 1) := by decide +kernel
theorem dX7_addAllowed_49 : decode cX7_addAllowed 49 = .ok (.iinc 5 1, 3) := by decide +kernel
theorem dX7_addAllowed_52 : decode cX7_addAllowed 52 = .ok (.goto (-49), 3) := by decide +kernel
theorem dX7_addAllowed_55 : decode cX7_addAllowed 55 = .ok (.return_, 1) := by decide +kernel
theorem dX7_allowsSome_0 : decode cX7_allowsSome 0 = .ok (.iconst 0, 1) := by decide +kernel
theorem dX7_allowsSome_1 : decode cX7_allowsSome 1 = .ok (.istore 5, 2) := by decide +kernel
theorem dX7_allowsSome_3 : decode cX7_allowsSome 3 = .ok (.iload 5, 2) := by decide +kernel
theorem dX7_allowsSome_5 : decode cX7_allowsSome 5 = .ok (.aload_n 0, 1) := by decide +kernel
theorem dX7_allowsSome_6 : decode cX7_allowsSome 6 = .ok (.getfield 27, 3) := by decide +kernel
theorem dX7_allowsSome_9 : decode cX7_allowsSome 9 = .ok (.if_icmp .ge 34, 3) := by decide +kernel
theorem dX7_allowsSome_12 : decode cX7_allowsSome 12 = .ok (.iload_n 2, 1) := by decide +kernel
theorem dX7_allowsSome_13 : decode cX7_allowsSome 13 = .ok (.iload 5, 2) := by decide +kernel
theorem dX7_allowsSome_15 : decode cX7_allowsSome 15 = .ok (.invokestatic 52, 3) := by decide +kernel
theorem dX7_allowsSome_18 : decode cX7_allowsSome 18 = .ok (.ifCond .eq 19, 3) := by decide +kernel
theorem dX7_allowsSome_21 : decode cX7_allowsSome 21 = .ok (.aload_n 0, 1) := by decide +kernel
theorem dX7_allowsSome_22 : decode cX7_allowsSome 22 = .ok (.iload_n 1, 1) := by decide +kernel
theorem dX7_allowsSome_23 : decode cX7_allowsSome 23 = .ok (.iload 5, 2) := by decide +kernel
theorem dX7_allowsSome_25 : decode cX7_allowsSome 25 = .ok (.iload_n 3, 1) := by decide +kernel
theorem dX7_allowsSome_26 : decode cX7_allowsSome 26 = .ok (.invokevirtual 56, 3) := by decide +kernel
theorem dX7_allowsSome_29 : decode cX7_allowsSome 29 = .ok (.iload 4, 2) := by decide +kernel
theorem dX7_allowsSome_31 : decode cX7_allowsSome 31 = .ok (.iand, 1) := by decide +kernel
theorem dX7_allowsSome_32 : decode cX7_allowsSome 32 = .ok (.ifCond .eq 5, 3) := by decide +kernel
theorem dX7_allowsSome_35 : decode cX7_allowsSome 35 = .ok (.iconst 1, 1) := by decide +kernel
theorem dX7_allowsSome_36 : decode cX7_allowsSome 36 = .ok (.ireturn, 1) := by decide +kernel
theorem dX7_allowsSome_37 : decode cX7_allowsSome 37 = .ok (.iinc 5 1, 3) := by decide +kernel
theorem dX7_allowsSome_40 : decode cX7_allowsSome 40 = .ok (.goto (-37), 3) := by decide +kernel
theorem dX7_allowsSome_43 : decode cX7_allowsSome 43 = .ok (.iconst 0, 1) := by decide +kernel
theorem dX7_allowsSome_44 : decode cX7_allowsSome 44 = .ok (.ireturn, 1) := by decide +kernel
theorem dX7_productAt_0 : decode cX7_productAt 0 = .ok (.aload_n 0, 1) := by decide +kernel
theorem dX7_productAt_1 : decode cX7_productAt 1 = .ok (.iload_n 1, 1) := by decide +kernel
theorem dX7_productAt_2 : decode cX7_productAt 2 = .ok (.iload_n 2, 1) := by decide +kernel
theorem dX7_productAt_3 : decode cX7_productAt 3 = .ok (.iload_n 3, 1) := by decide +kernel
theorem dX7_productAt_4 : decode cX7_productAt 4 = .ok (.invokevirtual 44, 3) := by decide +kernel
theorem dX7_productAt_7 : decode cX7_productAt 7 = .ok (.ifCond .eq 17, 3) := by decide +kernel
theorem dX7_productAt_10 : decode cX7_productAt 10 = .ok (.aload_n 0, 1) := by decide +kernel
theorem dX7_productAt_11 : decode cX7_productAt 11 = .ok (.getfield 21, 3) := by decide +kernel
theorem dX7_productAt_14 : decode cX7_productAt 14 = .ok (.iload_n 1, 1) := by decide +kernel
theorem dX7_productAt_15 : decode cX7_productAt 15 = .ok (.iload_n 2, 1) := by decide +kernel
theorem dX7_productAt_16 : decode cX7_productAt 16 = .ok (.iload_n 3, 1) := by decide +kernel
theorem dX7_productAt_17 : decode cX7_productAt 17 = .ok (.invokestatic 48, 3) := by decide +kernel
theorem dX7_productAt_20 : decode cX7_productAt 20 = .ok (.iaload, 1) := by decide +kernel
theorem dX7_productAt_21 : decode cX7_productAt 21 = .ok (.goto 4, 3) := by decide +kernel
theorem dX7_productAt_24 : decode cX7_productAt 24 = .ok (.iconst 0, 1) := by decide +kernel
theorem dX7_productAt_25 : decode cX7_productAt 25 = .ok (.ireturn, 1) := by decide +kernel
theorem dX7_setProduct_0 : decode cX7_setProduct 0 = .ok (.aload_n 0, 1) := by decide +kernel
theorem dX7_setProduct_1 : decode cX7_setProduct 1 = .ok (.iload_n 1, 1) := by decide +kernel
theorem dX7_setProduct_2 : decode cX7_setProduct 2 = .ok (.iload_n 2, 1) := by decide +kernel
theorem dX7_setProduct_3 : decode cX7_setProduct 3 = .ok (.iload_n 3, 1) := by decide +kernel
theorem dX7_setProduct_4 : decode cX7_setProduct 4 = .ok (.invokevirtual 44, 3) := by decide +kernel
theorem dX7_setProduct_7 : decode cX7_setProduct 7 = .ok (.ifCond .eq 16, 3) := by decide +kernel
theorem dX7_setProduct_10 : decode cX7_setProduct 10 = .ok (.aload_n 0, 1) := by decide +kernel
theorem dX7_setProduct_11 : decode cX7_setProduct 11 = .ok (.getfield 21, 3) := by decide +kernel
theorem dX7_setProduct_14 : decode cX7_setProduct 14 = .ok (.iload_n 1, 1) := by decide +kernel
theorem dX7_setProduct_15 : decode cX7_setProduct 15 = .ok (.iload_n 2, 1) := by decide +kernel
theorem dX7_setProduct_16 : decode cX7_setProduct 16 = .ok (.iload_n 3, 1) := by decide +kernel
theorem dX7_setProduct_17 : decode cX7_setProduct 17 = .ok (.invokestatic 48, 3) := by decide +kernel
theorem dX7_setProduct_20 : decode cX7_setProduct 20 = .ok (.iload 4, 2) := by decide +kernel
theorem dX7_setProduct_22 : decode cX7_setProduct 22 = .ok (.iastore, 1) := by decide +kernel
theorem dX7_setProduct_23 : decode cX7_setProduct 23 = .ok (.return_, 1) := by decide +kernel
theorem dX7_maskAt_0 : decode cX7_maskAt 0 = .ok (.aload_n 0, 1) := by decide +kernel
theorem dX7_maskAt_1 : decode cX7_maskAt 1 = .ok (.iload_n 1, 1) := by decide +kernel
theorem dX7_maskAt_2 : decode cX7_maskAt 2 = .ok (.iload_n 2, 1) := by decide +kernel
theorem dX7_maskAt_3 : decode cX7_maskAt 3 = .ok (.invokevirtual 59, 3) := by decide +kernel
theorem dX7_maskAt_6 : decode cX7_maskAt 6 = .ok (.ifCond .eq 16, 3) := by decide +kernel
theorem dX7_maskAt_9 : decode cX7_maskAt 9 = .ok (.aload_n 0, 1) := by decide +kernel
theorem dX7_maskAt_10 : decode cX7_maskAt 10 = .ok (.getfield 24, 3) := by decide +kernel
theorem dX7_maskAt_13 : decode cX7_maskAt 13 = .ok (.iload_n 1, 1) := by decide +kernel
theorem dX7_maskAt_14 : decode cX7_maskAt 14 = .ok (.iconst 5, 1) := by decide +kernel
theorem dX7_maskAt_15 : decode cX7_maskAt 15 = .ok (.imul, 1) := by decide +kernel
theorem dX7_maskAt_16 : decode cX7_maskAt 16 = .ok (.iload_n 2, 1) := by decide +kernel
theorem dX7_maskAt_17 : decode cX7_maskAt 17 = .ok (.iadd, 1) := by decide +kernel
theorem dX7_maskAt_18 : decode cX7_maskAt 18 = .ok (.iaload, 1) := by decide +kernel
theorem dX7_maskAt_19 : decode cX7_maskAt 19 = .ok (.goto 4, 3) := by decide +kernel
theorem dX7_maskAt_22 : decode cX7_maskAt 22 = .ok (.iconst 0, 1) := by decide +kernel
theorem dX7_maskAt_23 : decode cX7_maskAt 23 = .ok (.ireturn, 1) := by decide +kernel
theorem dX7_addToMask_0 : decode cX7_addToMask 0 = .ok (.aload_n 0, 1) := by decide +kernel
theorem dX7_addToMask_1 : decode cX7_addToMask 1 = .ok (.iload_n 1, 1) := by decide +kernel
theorem dX7_addToMask_2 : decode cX7_addToMask 2 = .ok (.iload_n 2, 1) := by decide +kernel
theorem dX7_addToMask_3 : decode cX7_addToMask 3 = .ok (.invokevirtual 59, 3) := by decide +kernel
theorem dX7_addToMask_6 : decode cX7_addToMask 6 = .ok (.ifCond .eq 17, 3) := by decide +kernel
theorem dX7_addToMask_9 : decode cX7_addToMask 9 = .ok (.aload_n 0, 1) := by decide +kernel
theorem dX7_addToMask_10 : decode cX7_addToMask 10 = .ok (.getfield 24, 3) := by decide +kernel
theorem dX7_addToMask_13 : decode cX7_addToMask 13 = .ok (.iload_n 1, 1) := by decide +kernel
theorem dX7_addToMask_14 : decode cX7_addToMask 14 = .ok (.iconst 5, 1) := by decide +kernel
theorem dX7_addToMask_15 : decode cX7_addToMask 15 = .ok (.imul, 1) := by decide +kernel
theorem dX7_addToMask_16 : decode cX7_addToMask 16 = .ok (.iload_n 2, 1) := by decide +kernel
theorem dX7_addToMask_17 : decode cX7_addToMask 17 = .ok (.iadd, 1) := by decide +kernel
end
section
theorem dX7_addToMask_18 : decode cX7_addToMask 18 = .ok (.dup2, 1) := by decide +kernel
theorem dX7_addToMask_19 : decode cX7_addToMask 19 = .ok (.iaload, 1) := by decide +kernel
theorem dX7_addToMask_20 : decode cX7_addToMask 20 = .ok (.iload_n 3, 1) := by decide +kernel
theorem dX7_addToMask_21 : decode cX7_addToMask 21 = .ok (.ior, 1) := by decide +kernel
theorem dX7_addToMask_22 : decode cX7_addToMask 22 = .ok (.iastore, 1) := by decide +kernel
theorem dX7_addToMask_23 : decode cX7_addToMask 23 = .ok (.return_, 1) := by decide +kernel
theorem dX7_hasMask_0 : decode cX7_hasMask 0 = .ok (.iload_n 1, 1) := by decide +kernel
theorem dX7_hasMask_1 : decode cX7_hasMask 1 = .ok (.ifCond .lt 24, 3) := by decide +kernel
theorem dX7_hasMask_4 : decode cX7_hasMask 4 = .ok (.iload_n 1, 1) := by decide +kernel
theorem dX7_hasMask_5 : decode cX7_hasMask 5 = .ok (.aload_n 0, 1) := by decide +kernel
theorem dX7_hasMask_6 : decode cX7_hasMask 6 = .ok (.getfield 31, 3) := by decide +kernel
theorem dX7_hasMask_9 : decode cX7_hasMask 9 = .ok (.if_icmp .ge 16, 3) := by decide +kernel
theorem dX7_hasMask_12 : decode cX7_hasMask 12 = .ok (.iload_n 2, 1) := by decide +kernel
theorem dX7_hasMask_13 : decode cX7_hasMask 13 = .ok (.ifCond .lt 12, 3) := by decide +kernel
theorem dX7_hasMask_16 : decode cX7_hasMask 16 = .ok (.iload_n 2, 1) := by decide +kernel
theorem dX7_hasMask_17 : decode cX7_hasMask 17 = .ok (.iconst 5, 1) := by decide +kernel
theorem dX7_hasMask_18 : decode cX7_hasMask 18 = .ok (.if_icmp .ge 7, 3) := by decide +kernel
theorem dX7_hasMask_21 : decode cX7_hasMask 21 = .ok (.iconst 1, 1) := by decide +kernel
theorem dX7_hasMask_22 : decode cX7_hasMask 22 = .ok (.goto 4, 3) := by decide +kernel
theorem dX7_hasMask_25 : decode cX7_hasMask 25 = .ok (.iconst 0, 1) := by decide +kernel
theorem dX7_hasMask_26 : decode cX7_hasMask 26 = .ok (.ireturn, 1) := by decide +kernel
theorem dX7_permitted_0 : decode cX7_permitted 0 = .ok (.iconst 0, 1) := by decide +kernel
theorem dX7_permitted_1 : decode cX7_permitted 1 = .ok (.istore 4, 2) := by decide +kernel
theorem dX7_permitted_3 : decode cX7_permitted 3 = .ok (.aload_n 0, 1) := by decide +kernel
theorem dX7_permitted_4 : decode cX7_permitted 4 = .ok (.iload_n 1, 1) := by decide +kernel
theorem dX7_permitted_5 : decode cX7_permitted 5 = .ok (.invokevirtual 62, 3) := by decide +kernel
theorem dX7_permitted_8 : decode cX7_permitted 8 = .ok (.aload_n 0, 1) := by decide +kernel
theorem dX7_permitted_9 : decode cX7_permitted 9 = .ok (.iload_n 2, 1) := by decide +kernel
theorem dX7_permitted_10 : decode cX7_permitted 10 = .ok (.invokevirtual 62, 3) := by decide +kernel
theorem dX7_permitted_13 : decode cX7_permitted 13 = .ok (.if_icmp .ge 14, 3) := by decide +kernel
theorem dX7_permitted_16 : decode cX7_permitted 16 = .ok (.iload 4, 2) := by decide +kernel
theorem dX7_permitted_18 : decode cX7_permitted 18 = .ok (.aload_n 0, 1) := by decide +kernel
theorem dX7_permitted_19 : decode cX7_permitted 19 = .ok (.iload_n 3, 1) := by decide +kernel
theorem dX7_permitted_20 : decode cX7_permitted 20 = .ok (.iconst 0, 1) := by decide +kernel
theorem dX7_permitted_21 : decode cX7_permitted 21 = .ok (.invokevirtual 66, 3) := by decide +kernel
theorem dX7_permitted_24 : decode cX7_permitted 24 = .ok (.ior, 1) := by decide +kernel
theorem dX7_permitted_25 : decode cX7_permitted 25 = .ok (.istore 4, 2) := by decide +kernel
theorem dX7_permitted_27 : decode cX7_permitted 27 = .ok (.aload_n 0, 1) := by decide +kernel
theorem dX7_permitted_28 : decode cX7_permitted 28 = .ok (.iload_n 1, 1) := by decide +kernel
theorem dX7_permitted_29 : decode cX7_permitted 29 = .ok (.invokevirtual 62, 3) := by decide +kernel
theorem dX7_permitted_32 : decode cX7_permitted 32 = .ok (.aload_n 0, 1) := by decide +kernel
theorem dX7_permitted_33 : decode cX7_permitted 33 = .ok (.iload_n 2, 1) := by decide +kernel
theorem dX7_permitted_34 : decode cX7_permitted 34 = .ok (.invokevirtual 62, 3) := by decide +kernel
theorem dX7_permitted_37 : decode cX7_permitted 37 = .ok (.if_icmp .eq 14, 3) := by decide +kernel
theorem dX7_permitted_40 : decode cX7_permitted 40 = .ok (.iload 4, 2) := by decide +kernel
theorem dX7_permitted_42 : decode cX7_permitted 42 = .ok (.aload_n 0, 1) := by decide +kernel
theorem dX7_permitted_43 : decode cX7_permitted 43 = .ok (.iload_n 3, 1) := by decide +kernel
theorem dX7_permitted_44 : decode cX7_permitted 44 = .ok (.iconst 1, 1) := by decide +kernel
theorem dX7_permitted_45 : decode cX7_permitted 45 = .ok (.invokevirtual 66, 3) := by decide +kernel
theorem dX7_permitted_48 : decode cX7_permitted 48 = .ok (.ior, 1) := by decide +kernel
theorem dX7_permitted_49 : decode cX7_permitted 49 = .ok (.istore 4, 2) := by decide +kernel
theorem dX7_permitted_51 : decode cX7_permitted 51 = .ok (.aload_n 0, 1) := by decide +kernel
theorem dX7_permitted_52 : decode cX7_permitted 52 = .ok (.iload_n 1, 1) := by decide +kernel
theorem dX7_permitted_53 : decode cX7_permitted 53 = .ok (.invokevirtual 62, 3) := by decide +kernel
theorem dX7_permitted_56 : decode cX7_permitted 56 = .ok (.aload_n 0, 1) := by decide +kernel
theorem dX7_permitted_57 : decode cX7_permitted 57 = .ok (.iload_n 2, 1) := by decide +kernel
theorem dX7_permitted_58 : decode cX7_permitted 58 = .ok (.invokevirtual 62, 3) := by decide +kernel
theorem dX7_permitted_61 : decode cX7_permitted 61 = .ok (.if_icmp .le 14, 3) := by decide +kernel
theorem dX7_permitted_64 : decode cX7_permitted 64 = .ok (.iload 4, 2) := by decide +kernel
theorem dX7_permitted_66 : decode cX7_permitted 66 = .ok (.aload_n 0, 1) := by decide +kernel
theorem dX7_permitted_67 : decode cX7_permitted 67 = .ok (.iload_n 3, 1) := by decide +kernel
theorem dX7_permitted_68 : decode cX7_permitted 68 = .ok (.iconst 2, 1) := by decide +kernel
theorem dX7_permitted_69 : decode cX7_permitted 69 = .ok (.invokevirtual 66, 3) := by decide +kernel
theorem dX7_permitted_72 : decode cX7_permitted 72 = .ok (.ior, 1) := by decide +kernel
theorem dX7_permitted_73 : decode cX7_permitted 73 = .ok (.istore 4, 2) := by decide +kernel
theorem dX7_permitted_75 : decode cX7_permitted 75 = .ok (.aload_n 0, 1) := by decide +kernel
theorem dX7_permitted_76 : decode cX7_permitted 76 = .ok (.iload_n 1, 1) := by decide +kernel
theorem dX7_permitted_77 : decode cX7_permitted 77 = .ok (.iload_n 2, 1) := by decide +kernel
theorem dX7_permitted_78 : decode cX7_permitted 78 = .ok (.iload_n 3, 1) := by decide +kernel
theorem dX7_permitted_79 : decode cX7_permitted 79 = .ok (.invokevirtual 56, 3) := by decide +kernel
theorem dX7_permitted_82 : decode cX7_permitted 82 = .ok (.iload 4, 2) := by decide +kernel
theorem dX7_permitted_84 : decode cX7_permitted 84 = .ok (.iconst (-1), 1) := by decide +kernel
theorem dX7_permitted_85 : decode cX7_permitted 85 = .ok (.ixor, 1) := by decide +kernel
theorem dX7_permitted_86 : decode cX7_permitted 86 = .ok (.iand, 1) := by decide +kernel
theorem dX7_permitted_87 : decode cX7_permitted 87 = .ok (.ireturn, 1) := by decide +kernel
theorem dX7_stepsBetween_0 : decode cX7_stepsBetween 0 = .ok (.iconst 1, 1) := by decide +kernel
theorem dX7_stepsBetween_1 : decode cX7_stepsBetween 1 = .ok (.iload_n 1, 1) := by decide +kernel
theorem dX7_stepsBetween_2 : decode cX7_stepsBetween 2 = .ok (.ishl, 1) := by decide +kernel
theorem dX7_stepsBetween_3 : decode cX7_stepsBetween 3 = .ok (.istore_n 3, 1) := by decide +kernel
theorem dX7_stepsBetween_4 : decode cX7_stepsBetween 4 = .ok (.iconst 0, 1) := by decide +kernel
theorem dX7_stepsBetween_5 : decode cX7_stepsBetween 5 = .ok (.istore 4, 2) := by decide +kernel
theorem dX7_stepsBetween_7 : decode cX7_stepsBetween 7 = .ok (.iload 4, 2) := by decide +kernel
theorem dX7_stepsBetween_9 : decode cX7_stepsBetween 9 = .ok (.aload_n 0, 1) := by decide +kernel
theorem dX7_stepsBetween_10 : decode cX7_stepsBetween 10 = .ok (.getfield 27, 3) := by decide +kernel
theorem dX7_stepsBetween_13 : decode cX7_stepsBetween 13 = .ok (.if_icmp .ge 26, 3) := by decide +kernel
theorem dX7_stepsBetween_16 : decode cX7_stepsBetween 16 = .ok (.iload_n 3, 1) := by decide +kernel
theorem dX7_stepsBetween_17 : decode cX7_stepsBetween 17 = .ok (.iload_n 2, 1) := by decide +kernel
theorem dX7_stepsBetween_18 : decode cX7_stepsBetween 18 = .ok (.invokestatic 52, 3) := by decide +kernel
theorem dX7_stepsBetween_21 : decode cX7_stepsBetween 21 = .ok (.ifCond .eq 6, 3) := by decide +kernel
theorem dX7_stepsBetween_24 : decode cX7_stepsBetween 24 = .ok (.iload 4, 2) := by decide +kernel
theorem dX7_stepsBetween_26 : decode cX7_stepsBetween 26 = .ok (.ireturn, 1) := by decide +kernel
theorem dX7_stepsBetween_27 : decode cX7_stepsBetween 27 = .ok (.aload_n 0, 1) := by decide +kernel
theorem dX7_stepsBetween_28 : decode cX7_stepsBetween 28 = .ok (.iload_n 3, 1) := by decide +kernel
theorem dX7_stepsBetween_29 : decode cX7_stepsBetween 29 = .ok (.invokevirtual 70, 3) := by decide +kernel
theorem dX7_stepsBetween_32 : decode cX7_stepsBetween 32 = .ok (.istore_n 3, 1) := by decide +kernel
theorem dX7_stepsBetween_33 : decode cX7_stepsBetween 33 = .ok (.iinc 4 1, 3) := by decide +kernel
theorem dX7_stepsBetween_36 : decode cX7_stepsBetween 36 = .ok (.goto (-29), 3) := by decide +kernel
theorem dX7_stepsBetween_39 : decode cX7_stepsBetween 39 = .ok (.iconst (-1), 1) := by decide +kernel
theorem dX7_stepsBetween_40 : decode cX7_stepsBetween 40 = .ok (.ireturn, 1) := by decide +kernel
theorem dX7_spread_0 : decode cX7_spread 0 = .ok (.iload_n 1, 1) := by decide +kernel
theorem dX7_spread_1 : decode cX7_spread 1 = .ok (.istore_n 2, 1) := by decide +kernel
theorem dX7_spread_2 : decode cX7_spread 2 = .ok (.iconst 0, 1) := by decide +kernel
theorem dX7_spread_3 : decode cX7_spread 3 = .ok (.istore_n 3, 1) := by decide +kernel
theorem dX7_spread_4 : decode cX7_spread 4 = .ok (.iload_n 3, 1) := by decide +kernel
theorem dX7_spread_5 : decode cX7_spread 5 = .ok (.aload_n 0, 1) := by decide +kernel
theorem dX7_spread_6 : decode cX7_spread 6 = .ok (.getfield 27, 3) := by decide +kernel
theorem dX7_spread_9 : decode cX7_spread 9 = .ok (.if_icmp .ge 61, 3) := by decide +kernel
theorem dX7_spread_12 : decode cX7_spread 12 = .ok (.iconst 0, 1) := by decide +kernel
theorem dX7_spread_13 : decode cX7_spread 13 = .ok (.istore 4, 2) := by decide +kernel
theorem dX7_spread_15 : decode cX7_spread 15 = .ok (.iload 4, 2) := by decide +kernel
theorem dX7_spread_17 : decode cX7_spread 17 = .ok (.aload_n 0, 1) := by decide +kernel
theorem dX7_spread_18 : decode cX7_spread 18 = .ok (.getfield 27, 3) := by decide +kernel
theorem dX7_spread_21 : decode cX7_spread 21 = .ok (.if_icmp .ge 43, 3) := by decide +kernel
theorem dX7_spread_24 : decode cX7_spread 24 = .ok (.iload_n 1, 1) := by decide +kernel
theorem dX7_spread_25 : decode cX7_spread 25 = .ok (.iload_n 3, 1) := by decide +kernel
theorem dX7_spread_26 : decode cX7_spread 26 = .ok (.invokestatic 52, 3) := by decide +kernel
theorem dX7_spread_29 : decode cX7_spread 29 = .ok (.ifCond .eq 29, 3) := by decide +kernel
theorem dX7_spread_32 : decode cX7_spread 32 = .ok (.iload_n 2, 1) := by decide +kernel
theorem dX7_spread_33 : decode cX7_spread 33 = .ok (.iload 4, 2) := by decide +kernel
theorem dX7_spread_35 : decode cX7_spread 35 = .ok (.invokestatic 52, 3) := by decide +kernel
theorem dX7_spread_38 : decode cX7_spread 38 = .ok (.ifCond .ne 20, 3) := by decide +kernel
theorem dX7_spread_41 : decode cX7_spread 41 = .ok (.aload_n 0, 1) := by decide +kernel
theorem dX7_spread_42 : decode cX7_spread 42 = .ok (.iload_n 3, 1) := by decide +kernel
theorem dX7_spread_43 : decode cX7_spread 43 = .ok (.iload 4, 2) := by decide +kernel
theorem dX7_spread_45 : decode cX7_spread 45 = .ok (.invokevirtual 73, 3) := by decide +kernel
theorem dX7_spread_48 : decode cX7_spread 48 = .ok (.ifCond .eq 10, 3) := by decide +kernel
theorem dX7_spread_51 : decode cX7_spread 51 = .ok (.iload_n 2, 1) := by decide +kernel
theorem dX7_spread_52 : decode cX7_spread 52 = .ok (.iconst 1, 1) := by decide +kernel
theorem dX7_spread_53 : decode cX7_spread 53 = .ok (.iload 4, 2) := by decide +kernel
theorem dX7_spread_55 : decode cX7_spread 55 = .ok (.ishl, 1) := by decide +kernel
theorem dX7_spread_56 : decode cX7_spread 56 = .ok (.ior, 1) := by decide +kernel
theorem dX7_spread_57 : decode cX7_spread 57 = .ok (.istore_n 2, 1) := by decide +kernel
theorem dX7_spread_58 : decode cX7_spread 58 = .ok (.iinc 4 1, 3) := by decide +kernel
theorem dX7_spread_61 : decode cX7_spread 61 = .ok (.goto (-46), 3) := by decide +kernel
theorem dX7_spread_64 : decode cX7_spread 64 = .ok (.iinc 3 1, 3) := by decide +kernel
theorem dX7_spread_67 : decode cX7_spread 67 = .ok (.goto (-63), 3) := by decide +kernel
theorem dX7_spread_70 : decode cX7_spread 70 = .ok (.iload_n 2, 1) := by decide +kernel
theorem dX7_spread_71 : decode cX7_spread 71 = .ok (.ireturn, 1) := by decide +kernel
theorem dX7_flowsInOneStep_0 : decode cX7_flowsInOneStep 0 = .ok (.iconst 0, 1) := by decide +kernel
theorem dX7_flowsInOneStep_1 : decode cX7_flowsInOneStep 1 = .ok (.istore_n 3, 1) := by decide +kernel
theorem dX7_flowsInOneStep_2 : decode cX7_flowsInOneStep 2 = .ok (.iload_n 3, 1) := by decide +kernel
theorem dX7_flowsInOneStep_3 : decode cX7_flowsInOneStep 3 = .ok (.aload_n 0, 1) := by decide +kernel
theorem dX7_flowsInOneStep_4 : decode cX7_flowsInOneStep 4 = .ok (.getfield 31, 3) := by decide +kernel
theorem dX7_flowsInOneStep_7 : decode cX7_flowsInOneStep 7 = .ok (.if_icmp .ge 45, 3) := by decide +kernel
theorem dX7_flowsInOneStep_10 : decode cX7_flowsInOneStep 10 = .ok (.aload_n 0, 1) := by decide +kernel
theorem dX7_flowsInOneStep_11 : decode cX7_flowsInOneStep 11 = .ok (.iload_n 2, 1) := by decide +kernel
theorem dX7_flowsInOneStep_12 : decode cX7_flowsInOneStep 12 = .ok (.iload_n 1, 1) := by decide +kernel
theorem dX7_flowsInOneStep_13 : decode cX7_flowsInOneStep 13 = .ok (.iload_n 3, 1) := by decide +kernel
theorem dX7_flowsInOneStep_14 : decode cX7_flowsInOneStep 14 = .ok (.invokevirtual 76, 3) := by decide +kernel
theorem dX7_flowsInOneStep_17 : decode cX7_flowsInOneStep 17 = .ok (.aload_n 0, 1) := by decide +kernel
theorem dX7_flowsInOneStep_18 : decode cX7_flowsInOneStep 18 = .ok (.iload_n 3, 1) := by decide +kernel
theorem dX7_flowsInOneStep_19 : decode cX7_flowsInOneStep 19 = .ok (.iconst 3, 1) := by decide +kernel
theorem dX7_flowsInOneStep_20 : decode cX7_flowsInOneStep 20 = .ok (.invokevirtual 66, 3) := by decide +kernel
theorem dX7_flowsInOneStep_23 : decode cX7_flowsInOneStep 23 = .ok (.iand, 1) := by decide +kernel
theorem dX7_flowsInOneStep_24 : decode cX7_flowsInOneStep 24 = .ok (.ifCond .ne 20, 3) := by decide +kernel
theorem dX7_flowsInOneStep_27 : decode cX7_flowsInOneStep 27 = .ok (.aload_n 0, 1) := by decide +kernel
theorem dX7_flowsInOneStep_28 : decode cX7_flowsInOneStep 28 = .ok (.iload_n 1, 1) := by decide +kernel
theorem dX7_flowsInOneStep_29 : decode cX7_flowsInOneStep 29 = .ok (.iload_n 2, 1) := by decide +kernel
theorem dX7_flowsInOneStep_30 : decode cX7_flowsInOneStep 30 = .ok (.iload_n 3, 1) := by decide +kernel
theorem dX7_flowsInOneStep_31 : decode cX7_flowsInOneStep 31 = .ok (.invokevirtual 76, 3) := by decide +kernel
theorem dX7_flowsInOneStep_34 : decode cX7_flowsInOneStep 34 = .ok (.aload_n 0, 1) := by decide +kernel
theorem dX7_flowsInOneStep_35 : decode cX7_flowsInOneStep 35 = .ok (.iload_n 3, 1) := by decide +kernel
theorem dX7_flowsInOneStep_36 : decode cX7_flowsInOneStep 36 = .ok (.iconst 4, 1) := by decide +kernel
theorem dX7_flowsInOneStep_37 : decode cX7_flowsInOneStep 37 = .ok (.invokevirtual 66, 3) := by decide +kernel
theorem dX7_flowsInOneStep_40 : decode cX7_flowsInOneStep 40 = .ok (.iand, 1) := by decide +kernel
theorem dX7_flowsInOneStep_41 : decode cX7_flowsInOneStep 41 = .ok (.ifCond .eq 5, 3) := by decide +kernel
theorem dX7_flowsInOneStep_44 : decode cX7_flowsInOneStep 44 = .ok (.iconst 1, 1) := by decide +kernel
theorem dX7_flowsInOneStep_45 : decode cX7_flowsInOneStep 45 = .ok (.ireturn, 1) := by decide +kernel
theorem dX7_flowsInOneStep_46 : decode cX7_flowsInOneStep 46 = .ok (.iinc 3 1, 3) := by decide +kernel
theorem dX7_flowsInOneStep_49 : decode cX7_flowsInOneStep 49 = .ok (.goto (-47), 3) := by decide +kernel
theorem dX7_flowsInOneStep_52 : decode cX7_flowsInOneStep 52 = .ok (.iconst 0, 1) := by decide +kernel
theorem dX7_flowsInOneStep_53 : decode cX7_flowsInOneStep 53 = .ok (.ireturn, 1) := by decide +kernel
theorem dX8_init_0 : decode cX8_init 0 = .ok (.aload_n 0, 1) := by decide +kernel
theorem dX8_init_1 : decode cX8_init 1 = .ok (.invokespecial 3, 3) := by decide +kernel
theorem dX8_init_4 : decode cX8_init 4 = .ok (.aload_n 0, 1) := by decide +kernel
theorem dX8_init_5 : decode cX8_init 5 = .ok (.iconst 0, 1) := by decide +kernel
theorem dX8_init_6 : decode cX8_init 6 = .ok (.putfield 9, 3) := by decide +kernel
theorem dX8_init_9 : decode cX8_init 9 = .ok (.aload_n 0, 1) := by decide +kernel
theorem dX8_init_10 : decode cX8_init 10 = .ok (.aload_n 1, 1) := by decide +kernel
theorem dX8_init_11 : decode cX8_init 11 = .ok (.putfield 15, 3) := by decide +kernel
theorem dX8_init_14 : decode cX8_init 14 = .ok (.return_, 1) := by decide +kernel
theorem dX8_stoppedAt_0 : decode cX8_stoppedAt 0 = .ok (.aload_n 0, 1) := by decide +kernel
theorem dX8_stoppedAt_1 : decode cX8_stoppedAt 1 = .ok (.getfield 9, 3) := by decide +kernel
theorem dX8_stoppedAt_4 : decode cX8_stoppedAt 4 = .ok (.ireturn, 1) := by decide +kernel
theorem dX8_parse_0 : decode cX8_parse 0 = .ok (.aload_n 0, 1) := by decide +kernel
theorem dX8_parse_1 : decode cX8_parse 1 = .ok (.aload_n 1, 1) := by decide +kernel
theorem dX8_parse_2 : decode cX8_parse 2 = .ok (.invokevirtual 19, 3) := by decide +kernel
theorem dX8_parse_5 : decode cX8_parse 5 = .ok (.ifCond .ne 5, 3) := by decide +kernel
theorem dX8_parse_8 : decode cX8_parse 8 = .ok (.iconst 0, 1) := by decide +kernel
theorem dX8_parse_9 : decode cX8_parse 9 = .ok (.ireturn, 1) := by decide +kernel
theorem dX8_parse_10 : decode cX8_parse 10 = .ok (.aload_n 1, 1) := by decide +kernel
theorem dX8_parse_11 : decode cX8_parse 11 = .ok (.invokevirtual 23, 3) := by decide +kernel
theorem dX8_parse_14 : decode cX8_parse 14 = .ok (.astore_n 2, 1) := by decide +kernel
theorem dX8_parse_15 : decode cX8_parse 15 = .ok (.aload_n 0, 1) := by decide +kernel
theorem dX8_parse_16 : decode cX8_parse 16 = .ok (.aload_n 1, 1) := by decide +kernel
theorem dX8_parse_17 : decode cX8_parse 17 = .ok (.aload_n 2, 1) := by decide +kernel
theorem dX8_parse_18 : decode cX8_parse 18 = .ok (.getfield 29, 3) := by decide +kernel
theorem dX8_parse_21 : decode cX8_parse 21 = .ok (.invokevirtual 34, 3) := by decide +kernel
theorem dX8_parse_24 : decode cX8_parse 24 = .ok (.ifCond .eq 35, 3) := by decide +kernel
theorem dX8_parse_27 : decode cX8_parse 27 = .ok (.aload_n 0, 1) := by decide +kernel
theorem dX8_parse_28 : decode cX8_parse 28 = .ok (.aload_n 1, 1) := by decide +kernel
theorem dX8_parse_29 : decode cX8_parse 29 = .ok (.aload_n 2, 1) := by decide +kernel
theorem dX8_parse_30 : decode cX8_parse 30 = .ok (.getfield 37, 3) := by decide +kernel
theorem dX8_parse_33 : decode cX8_parse 33 = .ok (.invokevirtual 41, 3) := by decide +kernel
theorem dX8_parse_36 : decode cX8_parse 36 = .ok (.ifCond .eq 23, 3) := by decide +kernel
theorem dX8_parse_39 : decode cX8_parse 39 = .ok (.aload_n 0, 1) := by decide +kernel
theorem dX8_parse_40 : decode cX8_parse 40 = .ok (.aload_n 1, 1) := by decide +kernel
theorem dX8_parse_41 : decode cX8_parse 41 = .ok (.aload_n 2, 1) := by decide +kernel
theorem dX8_parse_42 : decode cX8_parse 42 = .ok (.getfield 45, 3) := by decide +kernel
theorem dX8_parse_45 : decode cX8_parse 45 = .ok (.aload_n 2, 1) := by decide +kernel
theorem dX8_parse_46 : decode cX8_parse 46 = .ok (.getfield 48, 3) := by decide +kernel
theorem dX8_parse_49 : decode cX8_parse 49 = .ok (.invokevirtual 51, 3) := by decide +kernel
theorem dX8_parse_52 : decode cX8_parse 52 = .ok (.ifCond .eq 7, 3) := by decide +kernel
theorem dX8_parse_55 : decode cX8_parse 55 = .ok (.iconst 1, 1) := by decide +kernel
theorem dX8_parse_56 : decode cX8_parse 56 = .ok (.goto 4, 3) := by decide +kernel
theorem dX8_parse_59 : decode cX8_parse 59 = .ok (.iconst 0, 1) := by decide +kernel
theorem dX8_parse_60 : decode cX8_parse 60 = .ok (.ireturn, 1) := by decide +kernel
theorem dX8_keyword_0 : decode cX8_keyword 0 = .ok (.aload_n 0, 1) := by decide +kernel
theorem dX8_keyword_1 : decode cX8_keyword 1 = .ok (.iconst 0, 1) := by decide +kernel
theorem dX8_keyword_2 : decode cX8_keyword 2 = .ok (.putfield 9, 3) := by decide +kernel
theorem dX8_keyword_5 : decode cX8_keyword 5 = .ok (.iconst 0, 1) := by decide +kernel
theorem dX8_keyword_6 : decode cX8_keyword 6 = .ok (.istore_n 2, 1) := by decide +kernel
theorem dX8_keyword_7 : decode cX8_keyword 7 = .ok (.iload_n 2, 1) := by decide +kernel
theorem dX8_keyword_8 : decode cX8_keyword 8 = .ok (.getstatic 55, 3) := by decide +kernel
theorem dX8_keyword_11 : decode cX8_keyword 11 = .ok (.arraylength, 1) := by decide +kernel
theorem dX8_keyword_12 : decode cX8_keyword 12 = .ok (.if_icmp .ge 65, 3) := by decide +kernel
theorem dX8_keyword_15 : decode cX8_keyword 15 = .ok (.aload_n 0, 1) := by decide +kernel
theorem dX8_keyword_16 : decode cX8_keyword 16 = .ok (.getstatic 55, 3) := by decide +kernel
theorem dX8_keyword_19 : decode cX8_keyword 19 = .ok (.iload_n 2, 1) := by decide +kernel
theorem dX8_keyword_20 : decode cX8_keyword 20 = .ok (.aaload, 1) := by decide +kernel
theorem dX8_keyword_21 : decode cX8_keyword 21 = .ok (.getfield 59, 3) := by decide +kernel
theorem dX8_keyword_24 : decode cX8_keyword 24 = .ok (.invokevirtual 62, 3) := by decide +kernel
theorem dX8_keyword_27 : decode cX8_keyword 27 = .ok (.istore_n 3, 1) := by decide +kernel
theorem dX8_keyword_28 : decode cX8_keyword 28 = .ok (.iload_n 3, 1) := by decide +kernel
theorem dX8_keyword_29 : decode cX8_keyword 29 = .ok (.getstatic 55, 3) := by decide +kernel
theorem dX8_keyword_32 : decode cX8_keyword 32 = .ok (.iload_n 2, 1) := by decide +kernel
theorem dX8_keyword_33 : decode cX8_keyword 33 = .ok (.aaload, 1) := by decide +kernel
theorem dX8_keyword_34 : decode cX8_keyword 34 = .ok (.getfield 59, 3) := by decide +kernel
theorem dX8_keyword_37 : decode cX8_keyword 37 = .ok (.invokevirtual 66, 3) := by decide +kernel
theorem dX8_keyword_40 : decode cX8_keyword 40 = .ok (.if_icmp .ne 19, 3) := by decide +kernel
theorem dX8_keyword_43 : decode cX8_keyword 43 = .ok (.aload_n 0, 1) := by decide +kernel
theorem dX8_keyword_44 : decode cX8_keyword 44 = .ok (.iload_n 3, 1) := by decide +kernel
theorem dX8_keyword_45 : decode cX8_keyword 45 = .ok (.putfield 9, 3) := by decide +kernel
theorem dX8_keyword_48 : decode cX8_keyword 48 = .ok (.aload_n 1, 1) := by decide +kernel
theorem dX8_keyword_49 : decode cX8_keyword 49 = .ok (.getstatic 55, 3) := by decide +kernel
theorem dX8_keyword_52 : decode cX8_keyword 52 = .ok (.iload_n 2, 1) := by decide +kernel
theorem dX8_keyword_53 : decode cX8_keyword 53 = .ok (.aaload, 1) := by decide +kernel
theorem dX8_keyword_54 : decode cX8_keyword 54 = .ok (.invokevirtual 72, 3) := by decide +kernel
theorem dX8_keyword_57 : decode cX8_keyword 57 = .ok (.iconst 1, 1) := by decide +kernel
theorem dX8_keyword_58 : decode cX8_keyword 58 = .ok (.ireturn, 1) := by decide +kernel
theorem dX8_keyword_59 : decode cX8_keyword 59 = .ok (.aload_n 0, 1) := by decide +kernel
theorem dX8_keyword_60 : decode cX8_keyword 60 = .ok (.aload_n 0, 1) := by decide +kernel
theorem dX8_keyword_61 : decode cX8_keyword 61 = .ok (.getfield 9, 3) := by decide +kernel
theorem dX8_keyword_64 : decode cX8_keyword 64 = .ok (.iload_n 3, 1) := by decide +kernel
theorem dX8_keyword_65 : decode cX8_keyword 65 = .ok (.invokestatic 76, 3) := by decide +kernel
theorem dX8_keyword_68 : decode cX8_keyword 68 = .ok (.putfield 9, 3) := by decide +kernel
theorem dX8_keyword_71 : decode cX8_keyword 71 = .ok (.iinc 2 1, 3) := by decide +kernel
theorem dX8_keyword_74 : decode cX8_keyword 74 = .ok (.goto (-67), 3) := by decide +kernel
theorem dX8_keyword_77 : decode cX8_keyword 77 = .ok (.iconst 0, 1) := by decide +kernel
theorem dX8_keyword_78 : decode cX8_keyword 78 = .ok (.ireturn, 1) := by decide +kernel
theorem dX8_lettersShared_0 : decode cX8_lettersShared 0 = .ok (.iconst 0, 1) := by decide +kernel
theorem dX8_lettersShared_1 : decode cX8_lettersShared 1 = .ok (.istore_n 2, 1) := by decide +kernel
theorem dX8_lettersShared_2 : decode cX8_lettersShared 2 = .ok (.iload_n 2, 1) := by decide +kernel
theorem dX8_lettersShared_3 : decode cX8_lettersShared 3 = .ok (.aload_n 1, 1) := by decide +kernel
theorem dX8_lettersShared_4 : decode cX8_lettersShared 4 = .ok (.invokevirtual 66, 3) := by decide +kernel
theorem dX8_lettersShared_7 : decode cX8_lettersShared 7 = .ok (.if_icmp .ge 27, 3) := by decide +kernel
theorem dX8_lettersShared_10 : decode cX8_lettersShared 10 = .ok (.aload_n 0, 1) := by decide +kernel
theorem dX8_lettersShared_11 : decode cX8_lettersShared 11 = .ok (.getfield 15, 3) := by decide +kernel
theorem dX8_lettersShared_14 : decode cX8_lettersShared 14 = .ok (.iload_n 2, 1) := by decide +kernel
theorem dX8_lettersShared_15 : decode cX8_lettersShared 15 = .ok (.invokevirtual 82, 3) := by decide +kernel
theorem dX8_lettersShared_18 : decode cX8_lettersShared 18 = .ok (.aload_n 1, 1) := by decide +kernel
theorem dX8_lettersShared_19 : decode cX8_lettersShared 19 = .ok (.iload_n 2, 1) := by decide +kernel
theorem dX8_lettersShared_20 : decode cX8_lettersShared 20 = .ok (.invokevirtual 88, 3) := by decide +kernel
theorem dX8_lettersShared_23 : decode cX8_lettersShared 23 = .ok (.if_icmp .eq 5, 3) := by decide +kernel
theorem dX8_lettersShared_26 : decode cX8_lettersShared 26 = .ok (.iload_n 2, 1) := by decide +kernel
theorem dX8_lettersShared_27 : decode cX8_lettersShared 27 = .ok (.ireturn, 1) := by decide +kernel
theorem dX8_lettersShared_28 : decode cX8_lettersShared 28 = .ok (.iinc 2 1, 3) := by decide +kernel
theorem dX8_lettersShared_31 : decode cX8_lettersShared 31 = .ok (.goto (-29), 3) := by decide +kernel
theorem dX8_lettersShared_34 : decode cX8_lettersShared 34 = .ok (.aload_n 1, 1) := by decide +kernel
theorem dX8_lettersShared_35 : decode cX8_lettersShared 35 = .ok (.invokevirtual 66, 3) := by decide +kernel
theorem dX8_lettersShared_38 : decode cX8_lettersShared 38 = .ok (.ireturn, 1) := by decide +kernel
theorem dX8_names_0 : decode cX8_names 0 = .ok (.iconst 0, 1) := by decide +kernel
theorem dX8_names_1 : decode cX8_names 1 = .ok (.istore_n 3, 1) := by decide +kernel
theorem dX8_names_2 : decode cX8_names 2 = .ok (.iload_n 3, 1) := by decide +kernel
theorem dX8_names_3 : decode cX8_names 3 = .ok (.iload_n 2, 1) := by decide +kernel
theorem dX8_names_4 : decode cX8_names 4 = .ok (.if_icmp .ge 26, 3) := by decide +kernel
theorem dX8_names_7 : decode cX8_names 7 = .ok (.aload_n 0, 1) := by decide +kernel
theorem dX8_names_8 : decode cX8_names 8 = .ok (.invokevirtual 92, 3) := by decide +kernel
theorem dX8_names_11 : decode cX8_names 11 = .ok (.ifCond .eq 11, 3) := by decide +kernel
theorem dX8_names_14 : decode cX8_names 14 = .ok (.aload_n 0, 1) := by decide +kernel
theorem dX8_names_15 : decode cX8_names 15 = .ok (.aload_n 1, 1) := by decide +kernel
theorem dX8_names_16 : decode cX8_names 16 = .ok (.invokevirtual 96, 3) := by decide +kernel
theorem dX8_names_19 : decode cX8_names 19 = .ok (.ifCond .ne 5, 3) := by decide +kernel
theorem dX8_names_22 : decode cX8_names 22 = .ok (.iconst 0, 1) := by decide +kernel
theorem dX8_names_23 : decode cX8_names 23 = .ok (.ireturn, 1) := by decide +kernel
theorem dX8_names_24 : decode cX8_names 24 = .ok (.iinc 3 1, 3) := by decide +kernel
theorem dX8_names_27 : decode cX8_names 27 = .ok (.goto (-25), 3) := by decide +kernel
theorem dX8_names_30 : decode cX8_names 30 = .ok (.iconst 1, 1) := by decide +kernel
theorem dX8_names_31 : decode cX8_names 31 = .ok (.ireturn, 1) := by decide +kernel
theorem dX8_mark_0 : decode cX8_mark 0 = .ok (.aload_n 2, 1) := by decide +kernel
theorem dX8_mark_1 : decode cX8_mark 1 = .ok (.invokevirtual 99, 3) := by decide +kernel
theorem dX8_mark_4 : decode cX8_mark 4 = .ok (.ifCond .eq 5, 3) := by decide +kernel
theorem dX8_mark_7 : decode cX8_mark 7 = .ok (.iconst 1, 1) := by decide +kernel
theorem dX8_mark_8 : decode cX8_mark 8 = .ok (.ireturn, 1) := by decide +kernel
theorem dX8_mark_9 : decode cX8_mark 9 = .ok (.aload_n 0, 1) := by decide +kernel
theorem dX8_mark_10 : decode cX8_mark 10 = .ok (.invokevirtual 92, 3) := by decide +kernel
theorem dX8_mark_13 : decode cX8_mark 13 = .ok (.ifCond .eq 10, 3) := by decide +kernel
theorem dX8_mark_16 : decode cX8_mark 16 = .ok (.aload_n 0, 1) := by decide +kernel
theorem dX8_mark_17 : decode cX8_mark 17 = .ok (.invokevirtual 102, 3) := by decide +kernel
theorem dX8_mark_20 : decode cX8_mark 20 = .ok (.ifCond .eq 5, 3) := by decide +kernel
theorem dX8_mark_23 : decode cX8_mark 23 = .ok (.iconst 0, 1) := by decide +kernel
theorem dX8_mark_24 : decode cX8_mark 24 = .ok (.ireturn, 1) := by decide +kernel
theorem dX8_mark_25 : decode cX8_mark 25 = .ok (.aload_n 2, 1) := by decide +kernel
theorem dX8_mark_26 : decode cX8_mark 26 = .ok (.aload_n 0, 1) := by decide +kernel
theorem dX8_mark_27 : decode cX8_mark 27 = .ok (.getfield 15, 3) := by decide +kernel
theorem dX8_mark_30 : decode cX8_mark 30 = .ok (.aload_n 0, 1) := by decide +kernel
theorem dX8_mark_31 : decode cX8_mark 31 = .ok (.getfield 9, 3) := by decide +kernel
theorem dX8_mark_34 : decode cX8_mark 34 = .ok (.invokevirtual 82, 3) := by decide +kernel
theorem dX8_mark_37 : decode cX8_mark 37 = .ok (.i2c, 1) := by decide +kernel
theorem dX8_mark_38 : decode cX8_mark 38 = .ok (.invokevirtual 105, 3) := by decide +kernel
theorem dX8_mark_41 : decode cX8_mark 41 = .ok (.istore_n 3, 1) := by decide +kernel
theorem dX8_mark_42 : decode cX8_mark 42 = .ok (.iload_n 3, 1) := by decide +kernel
theorem dX8_mark_43 : decode cX8_mark 43 = .ok (.ifCond .ge 5, 3) := by decide +kernel
theorem dX8_mark_46 : decode cX8_mark 46 = .ok (.iconst 0, 1) := by decide +kernel
theorem dX8_mark_47 : decode cX8_mark 47 = .ok (.ireturn, 1) := by decide +kernel
theorem dX8_mark_48 : decode cX8_mark 48 = .ok (.aload_n 1, 1) := by decide +kernel
theorem dX8_mark_49 : decode cX8_mark 49 = .ok (.iload_n 3, 1) := by decide +kernel
theorem dX8_mark_50 : decode cX8_mark 50 = .ok (.invokevirtual 108, 3) := by decide +kernel
theorem dX8_mark_53 : decode cX8_mark 53 = .ok (.aload_n 0, 1) := by decide +kernel
theorem dX8_mark_54 : decode cX8_mark 54 = .ok (.dup, 1) := by decide +kernel
theorem dX8_mark_55 : decode cX8_mark 55 = .ok (.getfield 9, 3) := by decide +kernel
theorem dX8_mark_58 : decode cX8_mark 58 = .ok (.iconst 1, 1) := by decide +kernel
theorem dX8_mark_59 : decode cX8_mark 59 = .ok (.iadd, 1) := by decide +kernel
theorem dX8_mark_60 : decode cX8_mark 60 = .ok (.putfield 9, 3) := by decide +kernel
theorem dX8_mark_63 : decode cX8_mark 63 = .ok (.iconst 1, 1) := by decide +kernel
theorem dX8_mark_64 : decode cX8_mark 64 = .ok (.ireturn, 1) := by decide +kernel
theorem dX8_list_0 : decode cX8_list 0 = .ok (.iconst 0, 1) := by decide +kernel
theorem dX8_list_1 : decode cX8_list 1 = .ok (.istore 4, 2) := by decide +kernel
theorem dX8_list_3 : decode cX8_list 3 = .ok (.iload 4, 2) := by decide +kernel
theorem dX8_list_5 : decode cX8_list 5 = .ok (.iload_n 3, 1) := by decide +kernel
theorem dX8_list_6 : decode cX8_list 6 = .ok (.if_icmp .ge 41, 3) := by decide +kernel
theorem dX8_list_9 : decode cX8_list 9 = .ok (.iload 4, 2) := by decide +kernel
theorem dX8_list_11 : decode cX8_list 11 = .ok (.iload_n 2, 1) := by decide +kernel
theorem dX8_list_12 : decode cX8_list 12 = .ok (.if_icmp .lt 12, 3) := by decide +kernel
theorem dX8_list_15 : decode cX8_list 15 = .ok (.aload_n 0, 1) := by decide +kernel
theorem dX8_list_16 : decode cX8_list 16 = .ok (.invokevirtual 102, 3) := by decide +kernel
theorem dX8_list_19 : decode cX8_list 19 = .ok (.ifCond .eq 5, 3) := by decide +kernel
theorem dX8_list_22 : decode cX8_list 22 = .ok (.iconst 1, 1) := by decide +kernel
theorem dX8_list_23 : decode cX8_list 23 = .ok (.ireturn, 1) := by decide +kernel
theorem dX8_list_24 : decode cX8_list 24 = .ok (.aload_n 0, 1) := by decide +kernel
theorem dX8_list_25 : decode cX8_list 25 = .ok (.invokevirtual 92, 3) := by decide +kernel
theorem dX8_list_28 : decode cX8_list 28 = .ok (.ifCond .eq 11, 3) := by decide +kernel
theorem dX8_list_31 : decode cX8_list 31 = .ok (.aload_n 0, 1) := by decide +kernel
theorem dX8_list_32 : decode cX8_list 32 = .ok (.aload_n 1, 1) := by decide +kernel
theorem dX8_list_33 : decode cX8_list 33 = .ok (.invokevirtual 96, 3) := by decide +kernel
theorem dX8_list_36 : decode cX8_list 36 = .ok (.ifCond .ne 5, 3) := by decide +kernel
theorem dX8_list_39 : decode cX8_list 39 = .ok (.iconst 0, 1) := by decide +kernel
theorem dX8_list_40 : decode cX8_list 40 = .ok (.ireturn, 1) := by decide +kernel
theorem dX8_list_41 : decode cX8_list 41 = .ok (.iinc 4 1, 3) := by decide +kernel
theorem dX8_list_44 : decode cX8_list 44 = .ok (.goto (-41), 3) := by decide +kernel
theorem dX8_list_47 : decode cX8_list 47 = .ok (.aload_n 0, 1) := by decide +kernel
theorem dX8_list_48 : decode cX8_list 48 = .ok (.invokevirtual 102, 3) := by decide +kernel
theorem dX8_list_51 : decode cX8_list 51 = .ok (.ireturn, 1) := by decide +kernel
theorem dX8_blank_0 : decode cX8_blank 0 = .ok (.aload_n 0, 1) := by decide +kernel
theorem dX8_blank_1 : decode cX8_blank 1 = .ok (.getfield 15, 3) := by decide +kernel
theorem dX8_blank_4 : decode cX8_blank 4 = .ok (.aload_n 0, 1) := by decide +kernel
theorem dX8_blank_5 : decode cX8_blank 5 = .ok (.getfield 9, 3) := by decide +kernel
theorem dX8_blank_8 : decode cX8_blank 8 = .ok (.invokevirtual 82, 3) := by decide +kernel
theorem dX8_blank_11 : decode cX8_blank 11 = .ok (.bipush 32, 2) := by decide +kernel
theorem dX8_blank_13 : decode cX8_blank 13 = .ok (.if_icmp .eq 5, 3) := by decide +kernel
theorem dX8_blank_16 : decode cX8_blank 16 = .ok (.iconst 0, 1) := by decide +kernel
theorem dX8_blank_17 : decode cX8_blank 17 = .ok (.ireturn, 1) := by decide +kernel
theorem dX8_blank_18 : decode cX8_blank 18 = .ok (.aload_n 0, 1) := by decide +kernel
theorem dX8_blank_19 : decode cX8_blank 19 = .ok (.dup, 1) := by decide +kernel
theorem dX8_blank_20 : decode cX8_blank 20 = .ok (.getfield 9, 3) := by decide +kernel
theorem dX8_blank_23 : decode cX8_blank 23 = .ok (.iconst 1, 1) := by decide +kernel
theorem dX8_blank_24 : decode cX8_blank 24 = .ok (.iadd, 1) := by decide +kernel
theorem dX8_blank_25 : decode cX8_blank 25 = .ok (.putfield 9, 3) := by decide +kernel
theorem dX8_blank_28 : decode cX8_blank 28 = .ok (.iconst 1, 1) := by decide +kernel
theorem dX8_blank_29 : decode cX8_blank 29 = .ok (.ireturn, 1) := by decide +kernel
theorem dX8_name_0 : decode cX8_name 0 = .ok (.iconst 0, 1) := by decide +kernel
theorem dX8_name_1 : decode cX8_name 1 = .ok (.istore_n 2, 1) := by decide +kernel
theorem dX8_name_2 : decode cX8_name 2 = .ok (.iconst 0, 1) := by decide +kernel
theorem dX8_name_3 : decode cX8_name 3 = .ok (.istore_n 3, 1) := by decide +kernel
theorem dX8_name_4 : decode cX8_name 4 = .ok (.iload_n 3, 1) := by decide +kernel
theorem dX8_name_5 : decode cX8_name 5 = .ok (.iconst 4, 1) := by decide +kernel
theorem dX8_name_6 : decode cX8_name 6 = .ok (.if_icmp .ge 58, 3) := by decide +kernel
theorem dX8_name_9 : decode cX8_name 9 = .ok (.aload_n 0, 1) := by decide +kernel
theorem dX8_name_10 : decode cX8_name 10 = .ok (.getfield 15, 3) := by decide +kernel
theorem dX8_name_13 : decode cX8_name 13 = .ok (.aload_n 0, 1) := by decide +kernel
theorem dX8_name_14 : decode cX8_name 14 = .ok (.getfield 9, 3) := by decide +kernel
theorem dX8_name_17 : decode cX8_name 17 = .ok (.invokevirtual 82, 3) := by decide +kernel
theorem dX8_name_20 : decode cX8_name 20 = .ok (.invokestatic 112, 3) := by decide +kernel
theorem dX8_name_23 : decode cX8_name 23 = .ok (.ifCond .eq 41, 3) := by decide +kernel
theorem dX8_name_26 : decode cX8_name 26 = .ok (.iload_n 2, 1) := by decide +kernel
theorem dX8_name_27 : decode cX8_name 27 = .ok (.bipush 32, 2) := by decide +kernel
theorem dX8_name_29 : decode cX8_name 29 = .ok (.imul, 1) := by decide +kernel
theorem dX8_name_30 : decode cX8_name 30 = .ok (.aload_n 0, 1) := by decide +kernel
theorem dX8_name_31 : decode cX8_name 31 = .ok (.getfield 15, 3) := by decide +kernel
theorem dX8_name_34 : decode cX8_name 34 = .ok (.aload_n 0, 1) := by decide +kernel
theorem dX8_name_35 : decode cX8_name 35 = .ok (.getfield 9, 3) := by decide +kernel
theorem dX8_name_38 : decode cX8_name 38 = .ok (.invokevirtual 82, 3) := by decide +kernel
theorem dX8_name_41 : decode cX8_name 41 = .ok (.iadd, 1) := by decide +kernel
theorem dX8_name_42 : decode cX8_name 42 = .ok (.bipush 97, 2) := by decide +kernel
theorem dX8_name_44 : decode cX8_name 44 = .ok (.isub, 1) := by decide +kernel
theorem dX8_name_45 : decode cX8_name 45 = .ok (.iconst 1, 1) := by decide +kernel
theorem dX8_name_46 : decode cX8_name 46 = .ok (.iadd, 1) := by decide +kernel
theorem dX8_name_47 : decode cX8_name 47 = .ok (.istore_n 2, 1) := by decide +kernel
theorem dX8_name_48 : decode cX8_name 48 = .ok (.iinc 3 1, 3) := by decide +kernel
theorem dX8_name_51 : decode cX8_name 51 = .ok (.aload_n 0, 1) := by decide +kernel
theorem dX8_name_52 : decode cX8_name 52 = .ok (.dup, 1) := by decide +kernel
theorem dX8_name_53 : decode cX8_name 53 = .ok (.getfield 9, 3) := by decide +kernel
theorem dX8_name_56 : decode cX8_name 56 = .ok (.iconst 1, 1) := by decide +kernel
theorem dX8_name_57 : decode cX8_name 57 = .ok (.iadd, 1) := by decide +kernel
theorem dX8_name_58 : decode cX8_name 58 = .ok (.putfield 9, 3) := by decide +kernel
theorem dX8_name_61 : decode cX8_name 61 = .ok (.goto (-57), 3) := by decide +kernel
theorem dX8_name_64 : decode cX8_name 64 = .ok (.iload_n 3, 1) := by decide +kernel
theorem dX8_name_65 : decode cX8_name 65 = .ok (.ifCond .ne 5, 3) := by decide +kernel
theorem dX8_name_68 : decode cX8_name 68 = .ok (.iconst 0, 1) := by decide +kernel
theorem dX8_name_69 : decode cX8_name 69 = .ok (.ireturn, 1) := by decide +kernel
theorem dX8_name_70 : decode cX8_name 70 = .ok (.aload_n 1, 1) := by decide +kernel
theorem dX8_name_71 : decode cX8_name 71 = .ok (.iload_n 2, 1) := by decide +kernel
theorem dX8_name_72 : decode cX8_name 72 = .ok (.invokevirtual 116, 3) := by decide +kernel
theorem dX8_name_75 : decode cX8_name 75 = .ok (.iconst 1, 1) := by decide +kernel
theorem dX8_name_76 : decode cX8_name 76 = .ok (.ireturn, 1) := by decide +kernel
theorem dX8_atEnd_0 : decode cX8_atEnd 0 = .ok (.aload_n 0, 1) := by decide +kernel
theorem dX8_atEnd_1 : decode cX8_atEnd 1 = .ok (.getfield 9, 3) := by decide +kernel
theorem dX8_atEnd_4 : decode cX8_atEnd 4 = .ok (.aload_n 0, 1) := by decide +kernel
theorem dX8_atEnd_5 : decode cX8_atEnd 5 = .ok (.getfield 15, 3) := by decide +kernel
theorem dX8_atEnd_8 : decode cX8_atEnd 8 = .ok (.invokevirtual 119, 3) := by decide +kernel
theorem dX8_atEnd_11 : decode cX8_atEnd 11 = .ok (.if_icmp .lt 7, 3) := by decide +kernel
theorem dX8_atEnd_14 : decode cX8_atEnd 14 = .ok (.iconst 1, 1) := by decide +kernel
theorem dX8_atEnd_15 : decode cX8_atEnd 15 = .ok (.goto 4, 3) := by decide +kernel
theorem dX8_atEnd_18 : decode cX8_atEnd 18 = .ok (.iconst 0, 1) := by decide +kernel
theorem dX8_atEnd_19 : decode cX8_atEnd 19 = .ok (.ireturn, 1) := by decide +kernel
theorem dX8_isLetter_0 : decode cX8_isLetter 0 = .ok (.iload_n 0, 1) := by decide +kernel
theorem dX8_isLetter_1 : decode cX8_isLetter 1 = .ok (.bipush 97, 2) := by decide +kernel
theorem dX8_isLetter_3 : decode cX8_isLetter 3 = .ok (.if_icmp .lt 13, 3) := by decide +kernel
theorem dX8_isLetter_6 : decode cX8_isLetter 6 = .ok (.iload_n 0, 1) := by decide +kernel
theorem dX8_isLetter_7 : decode cX8_isLetter 7 = .ok (.bipush 122, 2) := by decide +kernel
theorem dX8_isLetter_9 : decode cX8_isLetter 9 = .ok (.if_icmp .gt 7, 3) := by decide +kernel
theorem dX8_isLetter_12 : decode cX8_isLetter 12 = .ok (.iconst 1, 1) := by decide +kernel
theorem dX8_isLetter_13 : decode cX8_isLetter 13 = .ok (.goto 4, 3) := by decide +kernel
theorem dX8_isLetter_16 : decode cX8_isLetter 16 = .ok (.iconst 0, 1) := by decide +kernel
theorem dX8_isLetter_17 : decode cX8_isLetter 17 = .ok (.ireturn, 1) := by decide +kernel
theorem dX9_init_0 : decode cX9_init 0 = .ok (.aload_n 0, 1) := by decide +kernel
theorem dX9_init_1 : decode cX9_init 1 = .ok (.invokespecial 3, 3) := by decide +kernel
theorem dX9_init_4 : decode cX9_init 4 = .ok (.aload_n 0, 1) := by decide +kernel
theorem dX9_init_5 : decode cX9_init 5 = .ok (.bipush 9, 2) := by decide +kernel
theorem dX9_init_7 : decode cX9_init 7 = .ok (.newarray .int, 2) := by decide +kernel
theorem dX9_init_9 : decode cX9_init 9 = .ok (.putfield 9, 3) := by decide +kernel
theorem dX9_init_12 : decode cX9_init 12 = .ok (.aload_n 0, 1) := by decide +kernel
theorem dX9_init_13 : decode cX9_init 13 = .ok (.getstatic 15, 3) := by decide +kernel
theorem dX9_init_16 : decode cX9_init 16 = .ok (.putfield 21, 3) := by decide +kernel
theorem dX9_init_19 : decode cX9_init 19 = .ok (.aload_n 0, 1) := by decide +kernel
theorem dX9_init_20 : decode cX9_init 20 = .ok (.iconst 0, 1) := by decide +kernel
theorem dX9_init_21 : decode cX9_init 21 = .ok (.putfield 24, 3) := by decide +kernel
theorem dX9_init_24 : decode cX9_init 24 = .ok (.aload_n 0, 1) := by decide +kernel
theorem dX9_init_25 : decode cX9_init 25 = .ok (.iconst 0, 1) := by decide +kernel
theorem dX9_init_26 : decode cX9_init 26 = .ok (.putfield 28, 3) := by decide +kernel
theorem dX9_init_29 : decode cX9_init 29 = .ok (.return_, 1) := by decide +kernel
theorem dX9_begin_0 : decode cX9_begin 0 = .ok (.aload_n 0, 1) := by decide +kernel
theorem dX9_begin_1 : decode cX9_begin 1 = .ok (.aload_n 1, 1) := by decide +kernel
theorem dX9_begin_2 : decode cX9_begin 2 = .ok (.putfield 21, 3) := by decide +kernel
theorem dX9_begin_5 : decode cX9_begin 5 = .ok (.aload_n 0, 1) := by decide +kernel
theorem dX9_begin_6 : decode cX9_begin 6 = .ok (.iconst 0, 1) := by decide +kernel
theorem dX9_begin_7 : decode cX9_begin 7 = .ok (.putfield 24, 3) := by decide +kernel
theorem dX9_begin_10 : decode cX9_begin 10 = .ok (.aload_n 0, 1) := by decide +kernel
theorem dX9_begin_11 : decode cX9_begin 11 = .ok (.iconst 0, 1) := by decide +kernel
theorem dX9_begin_12 : decode cX9_begin 12 = .ok (.putfield 28, 3) := by decide +kernel
theorem dX9_begin_15 : decode cX9_begin 15 = .ok (.return_, 1) := by decide +kernel
theorem dX9_push_0 : decode cX9_push 0 = .ok (.aload_n 0, 1) := by decide +kernel
theorem dX9_push_1 : decode cX9_push 1 = .ok (.getfield 24, 3) := by decide +kernel
theorem dX9_push_4 : decode cX9_push 4 = .ok (.aload_n 0, 1) := by decide +kernel
theorem dX9_push_5 : decode cX9_push 5 = .ok (.getfield 9, 3) := by decide +kernel
theorem dX9_push_8 : decode cX9_push 8 = .ok (.arraylength, 1) := by decide +kernel
theorem dX9_push_9 : decode cX9_push 9 = .ok (.if_icmp .ge 23, 3) := by decide +kernel
theorem dX9_push_12 : decode cX9_push 12 = .ok (.aload_n 0, 1) := by decide +kernel
theorem dX9_push_13 : decode cX9_push 13 = .ok (.getfield 9, 3) := by decide +kernel
theorem dX9_push_16 : decode cX9_push 16 = .ok (.aload_n 0, 1) := by decide +kernel
theorem dX9_push_17 : decode cX9_push 17 = .ok (.getfield 24, 3) := by decide +kernel
theorem dX9_push_20 : decode cX9_push 20 = .ok (.iload_n 1, 1) := by decide +kernel
theorem dX9_push_21 : decode cX9_push 21 = .ok (.iastore, 1) := by decide +kernel
theorem dX9_push_22 : decode cX9_push 22 = .ok (.aload_n 0, 1) := by decide +kernel
theorem dX9_push_23 : decode cX9_push 23 = .ok (.dup, 1) := by decide +kernel
theorem dX9_push_24 : decode cX9_push 24 = .ok (.getfield 24, 3) := by decide +kernel
theorem dX9_push_27 : decode cX9_push 27 = .ok (.iconst 1, 1) := by decide +kernel
theorem dX9_push_28 : decode cX9_push 28 = .ok (.iadd, 1) := by decide +kernel
theorem dX9_push_29 : decode cX9_push 29 = .ok (.putfield 24, 3) := by decide +kernel
theorem dX9_push_32 : decode cX9_push 32 = .ok (.return_, 1) := by decide +kernel
theorem dX9_setMark_0 : decode cX9_setMark 0 = .ok (.aload_n 0, 1) := by decide +kernel
theorem dX9_setMark_1 : decode cX9_setMark 1 = .ok (.iload_n 1, 1) := by decide +kernel
theorem dX9_setMark_2 : decode cX9_setMark 2 = .ok (.putfield 28, 3) := by decide +kernel
theorem dX9_setMark_5 : decode cX9_setMark 5 = .ok (.return_, 1) := by decide +kernel
theorem dX9_kind_0 : decode cX9_kind 0 = .ok (.aload_n 0, 1) := by decide +kernel
theorem dX9_kind_1 : decode cX9_kind 1 = .ok (.getfield 21, 3) := by decide +kernel
theorem dX9_kind_4 : decode cX9_kind 4 = .ok (.areturn, 1) := by decide +kernel
theorem dX9_mark_0 : decode cX9_mark 0 = .ok (.aload_n 0, 1) := by decide +kernel
theorem dX9_mark_1 : decode cX9_mark 1 = .ok (.getfield 28, 3) := by decide +kernel
theorem dX9_mark_4 : decode cX9_mark 4 = .ok (.ireturn, 1) := by decide +kernel
theorem dX9_size_0 : decode cX9_size 0 = .ok (.aload_n 0, 1) := by decide +kernel
theorem dX9_size_1 : decode cX9_size 1 = .ok (.getfield 24, 3) := by decide +kernel
theorem dX9_size_4 : decode cX9_size 4 = .ok (.ireturn, 1) := by decide +kernel
theorem dX9_word_0 : decode cX9_word 0 = .ok (.iload_n 1, 1) := by decide +kernel
theorem dX9_word_1 : decode cX9_word 1 = .ok (.ifCond .lt 20, 3) := by decide +kernel
theorem dX9_word_4 : decode cX9_word 4 = .ok (.iload_n 1, 1) := by decide +kernel
theorem dX9_word_5 : decode cX9_word 5 = .ok (.aload_n 0, 1) := by decide +kernel
theorem dX9_word_6 : decode cX9_word 6 = .ok (.getfield 24, 3) := by decide +kernel
theorem dX9_word_9 : decode cX9_word 9 = .ok (.if_icmp .ge 12, 3) := by decide +kernel
theorem dX9_word_12 : decode cX9_word 12 = .ok (.aload_n 0, 1) := by decide +kernel
theorem dX9_word_13 : decode cX9_word 13 = .ok (.getfield 9, 3) := by decide +kernel
theorem dX9_word_16 : decode cX9_word 16 = .ok (.iload_n 1, 1) := by decide +kernel
theorem dX9_word_17 : decode cX9_word 17 = .ok (.iaload, 1) := by decide +kernel
theorem dX9_word_18 : decode cX9_word 18 = .ok (.goto 4, 3) := by decide +kernel
theorem dX9_word_21 : decode cX9_word 21 = .ok (.iconst 0, 1) := by decide +kernel
theorem dX9_word_22 : decode cX9_word 22 = .ok (.ireturn, 1) := by decide +kernel
theorem dX9_find_0 : decode cX9_find 0 = .ok (.iload_n 2, 1) := by decide +kernel
theorem dX9_find_1 : decode cX9_find 1 = .ok (.istore_n 3, 1) := by decide +kernel
theorem dX9_find_2 : decode cX9_find 2 = .ok (.iload_n 3, 1) := by decide +kernel
theorem dX9_find_3 : decode cX9_find 3 = .ok (.aload_n 0, 1) := by decide +kernel
theorem dX9_find_4 : decode cX9_find 4 = .ok (.getfield 24, 3) := by decide +kernel
theorem dX9_find_7 : decode cX9_find 7 = .ok (.if_icmp .ge 20, 3) := by decide +kernel
theorem dX9_find_10 : decode cX9_find 10 = .ok (.aload_n 0, 1) := by decide +kernel
theorem dX9_find_11 : decode cX9_find 11 = .ok (.iload_n 3, 1) := by decide +kernel
theorem dX9_find_12 : decode cX9_find 12 = .ok (.invokevirtual 31, 3) := by decide +kernel
theorem dX9_find_15 : decode cX9_find 15 = .ok (.iload_n 1, 1) := by decide +kernel
theorem dX9_find_16 : decode cX9_find 16 = .ok (.if_icmp .ne 5, 3) := by decide +kernel
theorem dX9_find_19 : decode cX9_find 19 = .ok (.iload_n 3, 1) := by decide +kernel
theorem dX9_find_20 : decode cX9_find 20 = .ok (.ireturn, 1) := by decide +kernel
theorem dX9_find_21 : decode cX9_find 21 = .ok (.iinc 3 1, 3) := by decide +kernel
theorem dX9_find_24 : decode cX9_find 24 = .ok (.goto (-22), 3) := by decide +kernel
theorem dX9_find_27 : decode cX9_find 27 = .ok (.iconst (-1), 1) := by decide +kernel
theorem dX9_find_28 : decode cX9_find 28 = .ok (.ireturn, 1) := by decide +kernel
theorem dX9_allDifferFrom_0 : decode cX9_allDifferFrom 0 = .ok (.iload_n 1, 1) := by decide +kernel
theorem dX9_allDifferFrom_1 : decode cX9_allDifferFrom 1 = .ok (.istore_n 2, 1) := by decide +kernel
theorem dX9_allDifferFrom_2 : decode cX9_allDifferFrom 2 = .ok (.iload_n 2, 1) := by decide +kernel
theorem dX9_allDifferFrom_3 : decode cX9_allDifferFrom 3 = .ok (.aload_n 0, 1) := by decide +kernel
theorem dX9_allDifferFrom_4 : decode cX9_allDifferFrom 4 = .ok (.getfield 24, 3) := by decide +kernel
theorem dX9_allDifferFrom_7 : decode cX9_allDifferFrom 7 = .ok (.if_icmp .ge 27, 3) := by decide +kernel
theorem dX9_allDifferFrom_10 : decode cX9_allDifferFrom 10 = .ok (.aload_n 0, 1) := by decide +kernel
theorem dX9_allDifferFrom_11 : decode cX9_allDifferFrom 11 = .ok (.aload_n 0, 1) := by decide +kernel
theorem dX9_allDifferFrom_12 : decode cX9_allDifferFrom 12 = .ok (.iload_n 2, 1) := by decide +kernel
theorem dX9_allDifferFrom_13 : decode cX9_allDifferFrom 13 = .ok (.invokevirtual 31, 3) := by decide +kernel
theorem dX9_allDifferFrom_16 : decode cX9_allDifferFrom 16 = .ok (.iload_n 2, 1) := by decide +kernel
theorem dX9_allDifferFrom_17 : decode cX9_allDifferFrom 17 = .ok (.iconst 1, 1) := by decide +kernel
theorem dX9_allDifferFrom_18 : decode cX9_allDifferFrom 18 = .ok (.iadd, 1) := by decide +kernel
theorem dX9_allDifferFrom_19 : decode cX9_allDifferFrom 19 = .ok (.invokevirtual 35, 3) := by decide +kernel
theorem dX9_allDifferFrom_22 : decode cX9_allDifferFrom 22 = .ok (.iconst (-1), 1) := by decide +kernel
theorem dX9_allDifferFrom_23 : decode cX9_allDifferFrom 23 = .ok (.if_icmp .eq 5, 3) := by decide +kernel
theorem dX9_allDifferFrom_26 : decode cX9_allDifferFrom 26 = .ok (.iconst 0, 1) := by decide +kernel
theorem dX9_allDifferFrom_27 : decode cX9_allDifferFrom 27 = .ok (.ireturn, 1) := by decide +kernel
theorem dX9_allDifferFrom_28 : decode cX9_allDifferFrom 28 = .ok (.iinc 2 1, 3) := by decide +kernel
theorem dX9_allDifferFrom_31 : decode cX9_allDifferFrom 31 = .ok (.goto (-29), 3) := by decide +kernel
theorem dX9_allDifferFrom_34 : decode cX9_allDifferFrom 34 = .ok (.iconst 1, 1) := by decide +kernel
theorem dX9_allDifferFrom_35 : decode cX9_allDifferFrom 35 = .ok (.ireturn, 1) := by decide +kernel
theorem dX9_beginsAs_0 : decode cX9_beginsAs 0 = .ok (.aload_n 0, 1) := by decide +kernel
theorem dX9_beginsAs_1 : decode cX9_beginsAs 1 = .ok (.getfield 21, 3) := by decide +kernel
theorem dX9_beginsAs_4 : decode cX9_beginsAs 4 = .ok (.aload_n 1, 1) := by decide +kernel
theorem dX9_beginsAs_5 : decode cX9_beginsAs 5 = .ok (.getfield 21, 3) := by decide +kernel
theorem dX9_beginsAs_8 : decode cX9_beginsAs 8 = .ok (.if_acmp .eq 5, 3) := by decide +kernel
theorem dX9_beginsAs_11 : decode cX9_beginsAs 11 = .ok (.iconst 0, 1) := by decide +kernel
theorem dX9_beginsAs_12 : decode cX9_beginsAs 12 = .ok (.ireturn, 1) := by decide +kernel
theorem dX9_beginsAs_13 : decode cX9_beginsAs 13 = .ok (.iconst 0, 1) := by decide +kernel
theorem dX9_beginsAs_14 : decode cX9_beginsAs 14 = .ok (.istore_n 3, 1) := by decide +kernel
theorem dX9_beginsAs_15 : decode cX9_beginsAs 15 = .ok (.iload_n 3, 1) := by decide +kernel
theorem dX9_beginsAs_16 : decode cX9_beginsAs 16 = .ok (.iload_n 2, 1) := by decide +kernel
theorem dX9_beginsAs_17 : decode cX9_beginsAs 17 = .ok (.if_icmp .ge 24, 3) := by decide +kernel
theorem dX9_beginsAs_20 : decode cX9_beginsAs 20 = .ok (.aload_n 0, 1) := by decide +kernel
theorem dX9_beginsAs_21 : decode cX9_beginsAs 21 = .ok (.iload_n 3, 1) := by decide +kernel
theorem dX9_beginsAs_22 : decode cX9_beginsAs 22 = .ok (.invokevirtual 31, 3) := by decide +kernel
theorem dX9_beginsAs_25 : decode cX9_beginsAs 25 = .ok (.aload_n 1, 1) := by decide +kernel
theorem dX9_beginsAs_26 : decode cX9_beginsAs 26 = .ok (.iload_n 3, 1) := by decide +kernel
theorem dX9_beginsAs_27 : decode cX9_beginsAs 27 = .ok (.invokevirtual 31, 3) := by decide +kernel
theorem dX9_beginsAs_30 : decode cX9_beginsAs 30 = .ok (.if_icmp .eq 5, 3) := by decide +kernel
theorem dX9_beginsAs_33 : decode cX9_beginsAs 33 = .ok (.iconst 0, 1) := by decide +kernel
theorem dX9_beginsAs_34 : decode cX9_beginsAs 34 = .ok (.ireturn, 1) := by decide +kernel
theorem dX9_beginsAs_35 : decode cX9_beginsAs 35 = .ok (.iinc 3 1, 3) := by decide +kernel
theorem dX9_beginsAs_38 : decode cX9_beginsAs 38 = .ok (.goto (-23), 3) := by decide +kernel
theorem dX9_beginsAs_41 : decode cX9_beginsAs 41 = .ok (.iconst 1, 1) := by decide +kernel
theorem dX9_beginsAs_42 : decode cX9_beginsAs 42 = .ok (.ireturn, 1) := by decide +kernel
theorem dX10_init_0 : decode cX10_init 0 = .ok (.aload_n 0, 1) := by decide +kernel
theorem dX10_init_1 : decode cX10_init 1 = .ok (.invokespecial 3, 3) := by decide +kernel
theorem dX10_init_4 : decode cX10_init 4 = .ok (.aload_n 0, 1) := by decide +kernel
theorem dX10_init_5 : decode cX10_init 5 = .ok (.bipush 72, 2) := by decide +kernel
theorem dX10_init_7 : decode cX10_init 7 = .ok (.newarray .int, 2) := by decide +kernel
theorem dX10_init_9 : decode cX10_init 9 = .ok (.putfield 9, 3) := by decide +kernel
theorem dX10_init_12 : decode cX10_init 12 = .ok (.aload_n 0, 1) := by decide +kernel
theorem dX10_init_13 : decode cX10_init 13 = .ok (.iconst 0, 1) := by decide +kernel
theorem dX10_init_14 : decode cX10_init 14 = .ok (.putfield 15, 3) := by decide +kernel
theorem dX10_init_17 : decode cX10_init 17 = .ok (.return_, 1) := by decide +kernel
theorem dX10_append_0 : decode cX10_append 0 = .ok (.iconst 0, 1) := by decide +kernel
theorem dX10_append_1 : decode cX10_append 1 = .ok (.istore_n 3, 1) := by decide +kernel
theorem dX10_append_2 : decode cX10_append 2 = .ok (.iconst 0, 1) := by decide +kernel
theorem dX10_append_3 : decode cX10_append 3 = .ok (.istore 4, 2) := by decide +kernel
theorem dX10_append_5 : decode cX10_append 5 = .ok (.iload 4, 2) := by decide +kernel
theorem dX10_append_7 : decode cX10_append 7 = .ok (.bipush 8, 2) := by decide +kernel
theorem dX10_append_9 : decode cX10_append 9 = .ok (.if_icmp .ge 51, 3) := by decide +kernel
theorem dX10_append_12 : decode cX10_append 12 = .ok (.lload_n 1, 1) := by decide +kernel
theorem dX10_append_13 : decode cX10_append 13 = .ok (.iload 4, 2) := by decide +kernel
theorem dX10_append_15 : decode cX10_append 15 = .ok (.invokestatic 19, 3) := by decide +kernel
theorem dX10_append_18 : decode cX10_append 18 = .ok (.istore 5, 2) := by decide +kernel
theorem dX10_append_20 : decode cX10_append 20 = .ok (.iload 5, 2) := by decide +kernel
theorem dX10_append_22 : decode cX10_append 22 = .ok (.ifCond .eq 19, 3) := by decide +kernel
theorem dX10_append_25 : decode cX10_append 25 = .ok (.iload 5, 2) := by decide +kernel
theorem dX10_append_27 : decode cX10_append 27 = .ok (.bipush 32, 2) := by decide +kernel
theorem dX10_append_29 : decode cX10_append 29 = .ok (.if_icmp .lt 10, 3) := by decide +kernel
theorem dX10_append_32 : decode cX10_append 32 = .ok (.iload 5, 2) := by decide +kernel
theorem dX10_append_34 : decode cX10_append 34 = .ok (.bipush 126, 2) := by decide +kernel
theorem dX10_append_36 : decode cX10_append 36 = .ok (.if_icmp .le 5, 3) := by decide +kernel
theorem dX10_append_39 : decode cX10_append 39 = .ok (.iconst 0, 1) := by decide +kernel
theorem dX10_append_40 : decode cX10_append 40 = .ok (.ireturn, 1) := by decide +kernel
theorem dX10_append_41 : decode cX10_append 41 = .ok (.iload_n 3, 1) := by decide +kernel
theorem dX10_append_42 : decode cX10_append 42 = .ok (.iload 5, 2) := by decide +kernel
theorem dX10_append_44 : decode cX10_append 44 = .ok (.ifCond .ne 7, 3) := by decide +kernel
theorem dX10_append_47 : decode cX10_append 47 = .ok (.iconst 0, 1) := by decide +kernel
theorem dX10_append_48 : decode cX10_append 48 = .ok (.goto 4, 3) := by decide +kernel
theorem dX10_append_51 : decode cX10_append 51 = .ok (.iconst 1, 1) := by decide +kernel
theorem dX10_append_52 : decode cX10_append 52 = .ok (.iadd, 1) := by decide +kernel
theorem dX10_append_53 : decode cX10_append 53 = .ok (.istore_n 3, 1) := by decide +kernel
theorem dX10_append_54 : decode cX10_append 54 = .ok (.iinc 4 1, 3) := by decide +kernel
theorem dX10_append_57 : decode cX10_append 57 = .ok (.goto (-52), 3) := by decide +kernel
theorem dX10_append_60 : decode cX10_append 60 = .ok (.iload_n 3, 1) := by decide +kernel
theorem dX10_append_61 : decode cX10_append 61 = .ok (.aload_n 0, 1) := by decide +kernel
theorem dX10_append_62 : decode cX10_append 62 = .ok (.getfield 9, 3) := by decide +kernel
theorem dX10_append_65 : decode cX10_append 65 = .ok (.arraylength, 1) := by decide +kernel
theorem dX10_append_66 : decode cX10_append 66 = .ok (.aload_n 0, 1) := by decide +kernel
theorem dX10_append_67 : decode cX10_append 67 = .ok (.getfield 15, 3) := by decide +kernel
theorem dX10_append_70 : decode cX10_append 70 = .ok (.isub, 1) := by decide +kernel
theorem dX10_append_71 : decode cX10_append 71 = .ok (.if_icmp .le 5, 3) := by decide +kernel
theorem dX10_append_74 : decode cX10_append 74 = .ok (.iconst 0, 1) := by decide +kernel
theorem dX10_append_75 : decode cX10_append 75 = .ok (.ireturn, 1) := by decide +kernel
theorem dX10_append_76 : decode cX10_append 76 = .ok (.iconst 0, 1) := by decide +kernel
theorem dX10_append_77 : decode cX10_append 77 = .ok (.istore 4, 2) := by decide +kernel
theorem dX10_append_79 : decode cX10_append 79 = .ok (.iload 4, 2) := by decide +kernel
theorem dX10_append_81 : decode cX10_append 81 = .ok (.bipush 8, 2) := by decide +kernel
theorem dX10_append_83 : decode cX10_append 83 = .ok (.if_icmp .ge 19, 3) := by decide +kernel
theorem dX10_append_86 : decode cX10_append 86 = .ok (.aload_n 0, 1) := by decide +kernel
theorem dX10_append_87 : decode cX10_append 87 = .ok (.lload_n 1, 1) := by decide +kernel
theorem dX10_append_88 : decode cX10_append 88 = .ok (.iload 4, 2) := by decide +kernel
theorem dX10_append_90 : decode cX10_append 90 = .ok (.invokestatic 19, 3) := by decide +kernel
theorem dX10_append_93 : decode cX10_append 93 = .ok (.invokevirtual 23, 3) := by decide +kernel
theorem dX10_append_96 : decode cX10_append 96 = .ok (.iinc 4 1, 3) := by decide +kernel
theorem dX10_append_99 : decode cX10_append 99 = .ok (.goto (-20), 3) := by decide +kernel
theorem dX10_append_102 : decode cX10_append 102 = .ok (.iconst 1, 1) := by decide +kernel
theorem dX10_append_103 : decode cX10_append 103 = .ok (.ireturn, 1) := by decide +kernel
theorem dX10_appendCode_0 : decode cX10_appendCode 0 = .ok (.iload_n 1, 1) := by decide +kernel
theorem dX10_appendCode_1 : decode cX10_appendCode 1 = .ok (.ifCond .eq 35, 3) := by decide +kernel
theorem dX10_appendCode_4 : decode cX10_appendCode 4 = .ok (.aload_n 0, 1) := by decide +kernel
theorem dX10_appendCode_5 : decode cX10_appendCode 5 = .ok (.getfield 15, 3) := by decide +kernel
theorem dX10_appendCode_8 : decode cX10_appendCode 8 = .ok (.aload_n 0, 1) := by decide +kernel
theorem dX10_appendCode_9 : decode cX10_appendCode 9 = .ok (.getfield 9, 3) := by decide +kernel
theorem dX10_appendCode_12 : decode cX10_appendCode 12 = .ok (.arraylength, 1) := by decide +kernel
theorem dX10_appendCode_13 : decode cX10_appendCode 13 = .ok (.if_icmp .ge 23, 3) := by decide +kernel
theorem dX10_appendCode_16 : decode cX10_appendCode 16 = .ok (.aload_n 0, 1) := by decide +kernel
theorem dX10_appendCode_17 : decode cX10_appendCode 17 = .ok (.getfield 9, 3) := by decide +kernel
theorem dX10_appendCode_20 : decode cX10_appendCode 20 = .ok (.aload_n 0, 1) := by decide +kernel
theorem dX10_appendCode_21 : decode cX10_appendCode 21 = .ok (.getfield 15, 3) := by decide +kernel
theorem dX10_appendCode_24 : decode cX10_appendCode 24 = .ok (.iload_n 1, 1) := by decide +kernel
theorem dX10_appendCode_25 : decode cX10_appendCode 25 = .ok (.iastore, 1) := by decide +kernel
theorem dX10_appendCode_26 : decode cX10_appendCode 26 = .ok (.aload_n 0, 1) := by decide +kernel
theorem dX10_appendCode_27 : decode cX10_appendCode 27 = .ok (.dup, 1) := by decide +kernel
theorem dX10_appendCode_28 : decode cX10_appendCode 28 = .ok (.getfield 15, 3) := by decide +kernel
theorem dX10_appendCode_31 : decode cX10_appendCode 31 = .ok (.iconst 1, 1) := by decide +kernel
theorem dX10_appendCode_32 : decode cX10_appendCode 32 = .ok (.iadd, 1) := by decide +kernel
theorem dX10_appendCode_33 : decode cX10_appendCode 33 = .ok (.putfield 15, 3) := by decide +kernel
theorem dX10_appendCode_36 : decode cX10_appendCode 36 = .ok (.return_, 1) := by decide +kernel
theorem dX10_codeAt_0 : decode cX10_codeAt 0 = .ok (.iload_n 1, 1) := by decide +kernel
theorem dX10_codeAt_1 : decode cX10_codeAt 1 = .ok (.ifCond .lt 20, 3) := by decide +kernel
theorem dX10_codeAt_4 : decode cX10_codeAt 4 = .ok (.iload_n 1, 1) := by decide +kernel
theorem dX10_codeAt_5 : decode cX10_codeAt 5 = .ok (.aload_n 0, 1) := by decide +kernel
theorem dX10_codeAt_6 : decode cX10_codeAt 6 = .ok (.getfield 15, 3) := by decide +kernel
theorem dX10_codeAt_9 : decode cX10_codeAt 9 = .ok (.if_icmp .ge 12, 3) := by decide +kernel
theorem dX10_codeAt_12 : decode cX10_codeAt 12 = .ok (.aload_n 0, 1) := by decide +kernel
theorem dX10_codeAt_13 : decode cX10_codeAt 13 = .ok (.getfield 9, 3) := by decide +kernel
theorem dX10_codeAt_16 : decode cX10_codeAt 16 = .ok (.iload_n 1, 1) := by decide +kernel
theorem dX10_codeAt_17 : decode cX10_codeAt 17 = .ok (.iaload, 1) := by decide +kernel
theorem dX10_codeAt_18 : decode cX10_codeAt 18 = .ok (.goto 4, 3) := by decide +kernel
theorem dX10_codeAt_21 : decode cX10_codeAt 21 = .ok (.iconst (-1), 1) := by decide +kernel
theorem dX10_codeAt_22 : decode cX10_codeAt 22 = .ok (.ireturn, 1) := by decide +kernel
theorem dX10_length_0 : decode cX10_length 0 = .ok (.aload_n 0, 1) := by decide +kernel
theorem dX10_length_1 : decode cX10_length 1 = .ok (.getfield 15, 3) := by decide +kernel
theorem dX10_length_4 : decode cX10_length 4 = .ok (.ireturn, 1) := by decide +kernel
theorem dX10_clear_0 : decode cX10_clear 0 = .ok (.aload_n 0, 1) := by decide +kernel
theorem dX10_clear_1 : decode cX10_clear 1 = .ok (.iconst 0, 1) := by decide +kernel
theorem dX10_clear_2 : decode cX10_clear 2 = .ok (.putfield 15, 3) := by decide +kernel
theorem dX10_clear_5 : decode cX10_clear 5 = .ok (.return_, 1) := by decide +kernel
theorem dX11_init_0 : decode cX11_init 0 = .ok (.aload_n 0, 1) := by decide +kernel
theorem dX11_init_1 : decode cX11_init 1 = .ok (.invokespecial 1, 3) := by decide +kernel
theorem dX11_init_4 : decode cX11_init 4 = .ok (.aload_n 0, 1) := by decide +kernel
theorem dX11_init_5 : decode cX11_init 5 = .ok (.new 7, 3) := by decide +kernel
theorem dX11_init_8 : decode cX11_init 8 = .ok (.dup, 1) := by decide +kernel
theorem dX11_init_9 : decode cX11_init 9 = .ok (.invokespecial 9, 3) := by decide +kernel
theorem dX11_init_12 : decode cX11_init 12 = .ok (.putfield 10, 3) := by decide +kernel
theorem dX11_init_15 : decode cX11_init 15 = .ok (.aload_n 0, 1) := by decide +kernel
theorem dX11_init_16 : decode cX11_init 16 = .ok (.new 16, 3) := by decide +kernel
theorem dX11_init_19 : decode cX11_init 19 = .ok (.dup, 1) := by decide +kernel
theorem dX11_init_20 : decode cX11_init 20 = .ok (.aload_n 0, 1) := by decide +kernel
theorem dX11_init_21 : decode cX11_init 21 = .ok (.getfield 10, 3) := by decide +kernel
theorem dX11_init_24 : decode cX11_init 24 = .ok (.invokespecial 18, 3) := by decide +kernel
theorem dX11_init_27 : decode cX11_init 27 = .ok (.putfield 21, 3) := by decide +kernel
theorem dX11_init_30 : decode cX11_init 30 = .ok (.aload_n 0, 1) := by decide +kernel
theorem dX11_init_31 : decode cX11_init 31 = .ok (.new 25, 3) := by decide +kernel
theorem dX11_init_34 : decode cX11_init 34 = .ok (.dup, 1) := by decide +kernel
theorem dX11_init_35 : decode cX11_init 35 = .ok (.invokespecial 27, 3) := by decide +kernel
theorem dX11_init_38 : decode cX11_init 38 = .ok (.putfield 28, 3) := by decide +kernel
theorem dX11_init_41 : decode cX11_init 41 = .ok (.aload_n 0, 1) := by decide +kernel
theorem dX11_init_42 : decode cX11_init 42 = .ok (.new 32, 3) := by decide +kernel
theorem dX11_init_45 : decode cX11_init 45 = .ok (.dup, 1) := by decide +kernel
theorem dX11_init_46 : decode cX11_init 46 = .ok (.iconst 1, 1) := by decide +kernel
theorem dX11_init_47 : decode cX11_init 47 = .ok (.bipush 8, 2) := by decide +kernel
theorem dX11_init_49 : decode cX11_init 49 = .ok (.iload_n 1, 1) := by decide +kernel
theorem dX11_init_50 : decode cX11_init 50 = .ok (.invokestatic 34, 3) := by decide +kernel
theorem dX11_init_53 : decode cX11_init 53 = .ok (.invokestatic 40, 3) := by decide +kernel
theorem dX11_init_56 : decode cX11_init 56 = .ok (.invokespecial 43, 3) := by decide +kernel
theorem dX11_init_59 : decode cX11_init 59 = .ok (.putfield 46, 3) := by decide +kernel
theorem dX11_init_62 : decode cX11_init 62 = .ok (.aload_n 0, 1) := by decide +kernel
theorem dX11_init_63 : decode cX11_init 63 = .ok (.new 50, 3) := by decide +kernel
theorem dX11_init_66 : decode cX11_init 66 = .ok (.dup, 1) := by decide +kernel
theorem dX11_init_67 : decode cX11_init 67 = .ok (.invokespecial 52, 3) := by decide +kernel
theorem dX11_init_70 : decode cX11_init 70 = .ok (.putfield 53, 3) := by decide +kernel
theorem dX11_init_73 : decode cX11_init 73 = .ok (.aload_n 0, 1) := by decide +kernel
theorem dX11_init_74 : decode cX11_init 74 = .ok (.new 50, 3) := by decide +kernel
theorem dX11_init_77 : decode cX11_init 77 = .ok (.dup, 1) := by decide +kernel
theorem dX11_init_78 : decode cX11_init 78 = .ok (.invokespecial 52, 3) := by decide +kernel
theorem dX11_init_81 : decode cX11_init 81 = .ok (.putfield 57, 3) := by decide +kernel
theorem dX11_init_84 : decode cX11_init 84 = .ok (.aload_n 0, 1) := by decide +kernel
theorem dX11_init_85 : decode cX11_init 85 = .ok (.new 60, 3) := by decide +kernel
theorem dX11_init_88 : decode cX11_init 88 = .ok (.dup, 1) := by decide +kernel
theorem dX11_init_89 : decode cX11_init 89 = .ok (.invokespecial 62, 3) := by decide +kernel
theorem dX11_init_92 : decode cX11_init 92 = .ok (.putfield 63, 3) := by decide +kernel
theorem dX11_init_95 : decode cX11_init 95 = .ok (.aload_n 0, 1) := by decide +kernel
theorem dX11_init_96 : decode cX11_init 96 = .ok (.new 60, 3) := by decide +kernel
theorem dX11_init_99 : decode cX11_init 99 = .ok (.dup, 1) := by decide +kernel
theorem dX11_init_100 : decode cX11_init 100 = .ok (.invokespecial 62, 3) := by decide +kernel
theorem dX11_init_103 : decode cX11_init 103 = .ok (.putfield 67, 3) := by decide +kernel
theorem dX11_init_106 : decode cX11_init 106 = .ok (.aload_n 0, 1) := by decide +kernel
theorem dX11_init_107 : decode cX11_init 107 = .ok (.iconst (-1), 1) := by decide +kernel
theorem dX11_init_108 : decode cX11_init 108 = .ok (.putfield 70, 3) := by decide +kernel
theorem dX11_init_111 : decode cX11_init 111 = .ok (.aload_n 0, 1) := by decide +kernel
theorem dX11_init_112 : decode cX11_init 112 = .ok (.iconst (-1), 1) := by decide +kernel
theorem dX11_init_113 : decode cX11_init 113 = .ok (.putfield 74, 3) := by decide +kernel
theorem dX11_init_116 : decode cX11_init 116 = .ok (.return_, 1) := by decide +kernel
theorem dX11_write_0 : decode cX11_write 0 = .ok (.aload_n 0, 1) := by decide +kernel
theorem dX11_write_1 : decode cX11_write 1 = .ok (.getfield 10, 3) := by decide +kernel
theorem dX11_write_4 : decode cX11_write 4 = .ok (.lload_n 1, 1) := by decide +kernel
theorem dX11_write_5 : decode cX11_write 5 = .ok (.invokevirtual 77, 3) := by decide +kernel
theorem dX11_write_8 : decode cX11_write 8 = .ok (.ireturn, 1) := by decide +kernel
theorem dX11_add_0 : decode cX11_add 0 = .ok (.aload_n 0, 1) := by decide +kernel
theorem dX11_add_1 : decode cX11_add 1 = .ok (.getfield 21, 3) := by decide +kernel
theorem dX11_add_4 : decode cX11_add 4 = .ok (.aload_n 0, 1) := by decide +kernel
theorem dX11_add_5 : decode cX11_add 5 = .ok (.getfield 28, 3) := by decide +kernel
theorem dX11_add_8 : decode cX11_add 8 = .ok (.invokevirtual 81, 3) := by decide +kernel
theorem dX11_add_11 : decode cX11_add 11 = .ok (.invokevirtual 85, 3) := by decide +kernel
theorem dX11_add_14 : decode cX11_add 14 = .ok (.istore_n 1, 1) := by decide +kernel
theorem dX11_add_15 : decode cX11_add 15 = .ok (.aload_n 0, 1) := by decide +kernel
theorem dX11_add_16 : decode cX11_add 16 = .ok (.iload_n 1, 1) := by decide +kernel
theorem dX11_add_17 : decode cX11_add 17 = .ok (.ifCond .eq 7, 3) := by decide +kernel
theorem dX11_add_20 : decode cX11_add 20 = .ok (.iconst (-1), 1) := by decide +kernel
theorem dX11_add_21 : decode cX11_add 21 = .ok (.goto 10, 3) := by decide +kernel
theorem dX11_add_24 : decode cX11_add 24 = .ok (.aload_n 0, 1) := by decide +kernel
theorem dX11_add_25 : decode cX11_add 25 = .ok (.getfield 21, 3) := by decide +kernel
theorem dX11_add_28 : decode cX11_add 28 = .ok (.invokevirtual 89, 3) := by decide +kernel
theorem dX11_add_31 : decode cX11_add 31 = .ok (.putfield 70, 3) := by decide +kernel
theorem dX11_add_34 : decode cX11_add 34 = .ok (.aload_n 0, 1) := by decide +kernel
theorem dX11_add_35 : decode cX11_add 35 = .ok (.getfield 10, 3) := by decide +kernel
theorem dX11_add_38 : decode cX11_add 38 = .ok (.invokevirtual 93, 3) := by decide +kernel
theorem dX11_add_41 : decode cX11_add 41 = .ok (.iload_n 1, 1) := by decide +kernel
theorem dX11_add_42 : decode cX11_add 42 = .ok (.ifCond .ne 13, 3) := by decide +kernel
theorem dX11_add_45 : decode cX11_add 45 = .ok (.new 96, 3) := by decide +kernel
theorem dX11_add_48 : decode cX11_add 48 = .ok (.dup, 1) := by decide +kernel
theorem dX11_add_49 : decode cX11_add 49 = .ok (.ldc 98, 2) := by decide +kernel
theorem dX11_add_51 : decode cX11_add 51 = .ok (.invokespecial 100, 3) := by decide +kernel
theorem dX11_add_54 : decode cX11_add 54 = .ok (.athrow, 1) := by decide +kernel
theorem dX11_add_55 : decode cX11_add 55 = .ok (.aload_n 0, 1) := by decide +kernel
theorem dX11_add_56 : decode cX11_add 56 = .ok (.getfield 28, 3) := by decide +kernel
theorem dX11_add_59 : decode cX11_add 59 = .ok (.invokevirtual 103, 3) := by decide +kernel
theorem dX11_add_62 : decode cX11_add 62 = .ok (.ifCond .ne 13, 3) := by decide +kernel
theorem dX11_add_65 : decode cX11_add 65 = .ok (.new 107, 3) := by decide +kernel
theorem dX11_add_68 : decode cX11_add 68 = .ok (.dup, 1) := by decide +kernel
theorem dX11_add_69 : decode cX11_add 69 = .ok (.ldc 109, 2) := by decide +kernel
theorem dX11_add_71 : decode cX11_add 71 = .ok (.invokespecial 111, 3) := by decide +kernel
theorem dX11_add_74 : decode cX11_add 74 = .ok (.athrow, 1) := by decide +kernel
theorem dX11_add_75 : decode cX11_add 75 = .ok (.aload_n 0, 1) := by decide +kernel
theorem dX11_add_76 : decode cX11_add 76 = .ok (.getfield 28, 3) := by decide +kernel
theorem dX11_add_79 : decode cX11_add 79 = .ok (.invokevirtual 112, 3) := by decide +kernel
theorem dX11_add_82 : decode cX11_add 82 = .ok (.ireturn, 1) := by decide +kernel
theorem dX11_position_0 : decode cX11_position 0 = .ok (.aload_n 0, 1) := by decide +kernel
theorem dX11_position_1 : decode cX11_position 1 = .ok (.getfield 70, 3) := by decide +kernel
theorem dX11_position_4 : decode cX11_position 4 = .ok (.ireturn, 1) := by decide +kernel
theorem dX11_cut_0 : decode cX11_cut 0 = .ok (.aload_n 0, 1) := by decide +kernel
theorem dX11_cut_1 : decode cX11_cut 1 = .ok (.getfield 28, 3) := by decide +kernel
theorem dX11_cut_4 : decode cX11_cut 4 = .ok (.iload_n 1, 1) := by decide +kernel
theorem dX11_cut_5 : decode cX11_cut 5 = .ok (.invokevirtual 115, 3) := by decide +kernel
theorem dX11_cut_8 : decode cX11_cut 8 = .ok (.ireturn, 1) := by decide +kernel
theorem dX11_accept_0 : decode cX11_accept 0 = .ok (.aload_n 0, 1) := by decide +kernel
theorem dX11_accept_1 : decode cX11_accept 1 = .ok (.aload_n 0, 1) := by decide +kernel
theorem dX11_accept_2 : decode cX11_accept 2 = .ok (.getfield 28, 3) := by decide +kernel
theorem dX11_accept_5 : decode cX11_accept 5 = .ok (.invokevirtual 119, 3) := by decide +kernel
theorem dX11_accept_8 : decode cX11_accept 8 = .ok (.putfield 74, 3) := by decide +kernel
theorem dX11_accept_11 : decode cX11_accept 11 = .ok (.aload_n 0, 1) := by decide +kernel
theorem dX11_accept_12 : decode cX11_accept 12 = .ok (.getfield 74, 3) := by decide +kernel
theorem dX11_accept_15 : decode cX11_accept 15 = .ok (.iconst (-1), 1) := by decide +kernel
theorem dX11_accept_16 : decode cX11_accept 16 = .ok (.if_icmp .eq 13, 3) := by decide +kernel
theorem dX11_accept_19 : decode cX11_accept 19 = .ok (.new 96, 3) := by decide +kernel
theorem dX11_accept_22 : decode cX11_accept 22 = .ok (.dup, 1) := by decide +kernel
theorem dX11_accept_23 : decode cX11_accept 23 = .ok (.ldc 122, 2) := by decide +kernel
theorem dX11_accept_25 : decode cX11_accept 25 = .ok (.invokespecial 100, 3) := by decide +kernel
theorem dX11_accept_28 : decode cX11_accept 28 = .ok (.athrow, 1) := by decide +kernel
theorem dX11_accept_29 : decode cX11_accept 29 = .ok (.aload_n 0, 1) := by decide +kernel
theorem dX11_accept_30 : decode cX11_accept 30 = .ok (.getfield 28, 3) := by decide +kernel
theorem dX11_accept_33 : decode cX11_accept 33 = .ok (.aload_n 0, 1) := by decide +kernel
theorem dX11_accept_34 : decode cX11_accept 34 = .ok (.getfield 67, 3) := by decide +kernel
theorem dX11_accept_37 : decode cX11_accept 37 = .ok (.invokestatic 124, 3) := by decide +kernel
theorem dX11_accept_40 : decode cX11_accept 40 = .ok (.aload_n 0, 1) := by decide +kernel
theorem dX11_accept_41 : decode cX11_accept 41 = .ok (.aload_n 0, 1) := by decide +kernel
theorem dX11_accept_42 : decode cX11_accept 42 = .ok (.getfield 28, 3) := by decide +kernel
theorem dX11_accept_45 : decode cX11_accept 45 = .ok (.aload_n 0, 1) := by decide +kernel
theorem dX11_accept_46 : decode cX11_accept 46 = .ok (.getfield 67, 3) := by decide +kernel
theorem dX11_accept_49 : decode cX11_accept 49 = .ok (.invokestatic 130, 3) := by decide +kernel
theorem dX11_accept_52 : decode cX11_accept 52 = .ok (.putfield 74, 3) := by decide +kernel
theorem dX11_accept_55 : decode cX11_accept 55 = .ok (.aload_n 0, 1) := by decide +kernel
theorem dX11_accept_56 : decode cX11_accept 56 = .ok (.getfield 74, 3) := by decide +kernel
theorem dX11_accept_59 : decode cX11_accept 59 = .ok (.iconst (-1), 1) := by decide +kernel
theorem dX11_accept_60 : decode cX11_accept 60 = .ok (.if_icmp .eq 13, 3) := by decide +kernel
theorem dX11_accept_63 : decode cX11_accept 63 = .ok (.new 107, 3) := by decide +kernel
theorem dX11_accept_66 : decode cX11_accept 66 = .ok (.dup, 1) := by decide +kernel
theorem dX11_accept_67 : decode cX11_accept 67 = .ok (.ldc 134, 2) := by decide +kernel
theorem dX11_accept_69 : decode cX11_accept 69 = .ok (.invokespecial 111, 3) := by decide +kernel
theorem dX11_accept_72 : decode cX11_accept 72 = .ok (.athrow, 1) := by decide +kernel
theorem dX11_accept_73 : decode cX11_accept 73 = .ok (.aload_n 0, 1) := by decide +kernel
theorem dX11_accept_74 : decode cX11_accept 74 = .ok (.invokevirtual 136, 3) := by decide +kernel
theorem dX11_accept_77 : decode cX11_accept 77 = .ok (.ireturn, 1) := by decide +kernel
theorem dX11_fault_0 : decode cX11_fault 0 = .ok (.aload_n 0, 1) := by decide +kernel
theorem dX11_fault_1 : decode cX11_fault 1 = .ok (.getfield 74, 3) := by decide +kernel
theorem dX11_fault_4 : decode cX11_fault 4 = .ok (.ireturn, 1) := by decide +kernel
theorem dX11_may_0 : decode cX11_may 0 = .ok (.aload_n 0, 1) := by decide +kernel
theorem dX11_may_1 : decode cX11_may 1 = .ok (.getfield 63, 3) := by decide +kernel
theorem dX11_may_4 : decode cX11_may 4 = .ok (.iload_n 1, 1) := by decide +kernel
theorem dX11_may_5 : decode cX11_may 5 = .ok (.iload_n 2, 1) := by decide +kernel
theorem dX11_may_6 : decode cX11_may 6 = .ok (.iload_n 3, 1) := by decide +kernel
theorem dX11_may_7 : decode cX11_may 7 = .ok (.invokevirtual 139, 3) := by decide +kernel
theorem dX11_may_10 : decode cX11_may 10 = .ok (.ifCond .ne 13, 3) := by decide +kernel
theorem dX11_may_13 : decode cX11_may 13 = .ok (.new 143, 3) := by decide +kernel
theorem dX11_may_16 : decode cX11_may 16 = .ok (.dup, 1) := by decide +kernel
theorem dX11_may_17 : decode cX11_may 17 = .ok (.ldc 145, 2) := by decide +kernel
theorem dX11_may_19 : decode cX11_may 19 = .ok (.invokespecial 147, 3) := by decide +kernel
theorem dX11_may_22 : decode cX11_may 22 = .ok (.athrow, 1) := by decide +kernel
theorem dX11_may_23 : decode cX11_may 23 = .ok (.iload_n 1, 1) := by decide +kernel
theorem dX11_may_24 : decode cX11_may 24 = .ok (.iload_n 2, 1) := by decide +kernel
theorem dX11_may_25 : decode cX11_may 25 = .ok (.iload_n 3, 1) := by decide +kernel
theorem dX11_may_26 : decode cX11_may 26 = .ok (.invokestatic 148, 3) := by decide +kernel
theorem dX11_may_29 : decode cX11_may 29 = .ok (.istore 4, 2) := by decide +kernel
theorem dX11_may_31 : decode cX11_may 31 = .ok (.aload_n 0, 1) := by decide +kernel
theorem dX11_may_32 : decode cX11_may 32 = .ok (.getfield 46, 3) := by decide +kernel
theorem dX11_may_35 : decode cX11_may 35 = .ok (.iload 4, 2) := by decide +kernel
theorem dX11_may_37 : decode cX11_may 37 = .ok (.invokevirtual 152, 3) := by decide +kernel
theorem dX11_may_40 : decode cX11_may 40 = .ok (.istore 5, 2) := by decide +kernel
theorem dX11_may_42 : decode cX11_may 42 = .ok (.iload 5, 2) := by decide +kernel
theorem dX11_may_44 : decode cX11_may 44 = .ok (.iconst (-1), 1) := by decide +kernel
theorem dX11_may_45 : decode cX11_may 45 = .ok (.if_icmp .eq 6, 3) := by decide +kernel
theorem dX11_may_48 : decode cX11_may 48 = .ok (.iload 5, 2) := by decide +kernel
theorem dX11_may_50 : decode cX11_may 50 = .ok (.ireturn, 1) := by decide +kernel
theorem dX11_may_51 : decode cX11_may 51 = .ok (.aload_n 0, 1) := by decide +kernel
theorem dX11_may_52 : decode cX11_may 52 = .ok (.getfield 63, 3) := by decide +kernel
theorem dX11_may_55 : decode cX11_may 55 = .ok (.iload_n 1, 1) := by decide +kernel
theorem dX11_may_56 : decode cX11_may 56 = .ok (.iload_n 2, 1) := by decide +kernel
theorem dX11_may_57 : decode cX11_may 57 = .ok (.iload_n 3, 1) := by decide +kernel
theorem dX11_may_58 : decode cX11_may 58 = .ok (.invokevirtual 156, 3) := by decide +kernel
theorem dX11_may_61 : decode cX11_may 61 = .ok (.istore 6, 2) := by decide +kernel
theorem dX11_may_63 : decode cX11_may 63 = .ok (.aload_n 0, 1) := by decide +kernel
theorem dX11_may_64 : decode cX11_may 64 = .ok (.getfield 46, 3) := by decide +kernel
theorem dX11_may_67 : decode cX11_may 67 = .ok (.iload 4, 2) := by decide +kernel
theorem dX11_may_69 : decode cX11_may 69 = .ok (.iload 6, 2) := by decide +kernel
theorem dX11_may_71 : decode cX11_may 71 = .ok (.invokevirtual 159, 3) := by decide +kernel
theorem dX11_may_74 : decode cX11_may 74 = .ok (.iload 6, 2) := by decide +kernel
theorem dX11_may_76 : decode cX11_may 76 = .ok (.ireturn, 1) := by decide +kernel
theorem dX11_made_0 : decode cX11_made 0 = .ok (.aload_n 0, 1) := by decide +kernel
theorem dX11_made_1 : decode cX11_made 1 = .ok (.getfield 63, 3) := by decide +kernel
theorem dX11_made_4 : decode cX11_made 4 = .ok (.iload_n 1, 1) := by decide +kernel
theorem dX11_made_5 : decode cX11_made 5 = .ok (.iload_n 2, 1) := by decide +kernel
theorem dX11_made_6 : decode cX11_made 6 = .ok (.iload_n 3, 1) := by decide +kernel
theorem dX11_made_7 : decode cX11_made 7 = .ok (.invokevirtual 163, 3) := by decide +kernel
theorem dX11_made_10 : decode cX11_made 10 = .ok (.iconst 1, 1) := by decide +kernel
theorem dX11_made_11 : decode cX11_made 11 = .ok (.isub, 1) := by decide +kernel
theorem dX11_made_12 : decode cX11_made 12 = .ok (.ireturn, 1) := by decide +kernel
theorem dX11_flow_0 : decode cX11_flow 0 = .ok (.aload_n 0, 1) := by decide +kernel
theorem dX11_flow_1 : decode cX11_flow 1 = .ok (.getfield 63, 3) := by decide +kernel
theorem dX11_flow_4 : decode cX11_flow 4 = .ok (.iload_n 1, 1) := by decide +kernel
theorem dX11_flow_5 : decode cX11_flow 5 = .ok (.invokevirtual 166, 3) := by decide +kernel
theorem dX11_flow_8 : decode cX11_flow 8 = .ok (.ifCond .eq 26, 3) := by decide +kernel
theorem dX11_flow_11 : decode cX11_flow 11 = .ok (.aload_n 0, 1) := by decide +kernel
theorem dX11_flow_12 : decode cX11_flow 12 = .ok (.getfield 63, 3) := by decide +kernel
theorem dX11_flow_15 : decode cX11_flow 15 = .ok (.iload_n 2, 1) := by decide +kernel
theorem dX11_flow_16 : decode cX11_flow 16 = .ok (.invokevirtual 166, 3) := by decide +kernel
theorem dX11_flow_19 : decode cX11_flow 19 = .ok (.ifCond .eq 15, 3) := by decide +kernel
theorem dX11_flow_22 : decode cX11_flow 22 = .ok (.aload_n 0, 1) := by decide +kernel
theorem dX11_flow_23 : decode cX11_flow 23 = .ok (.getfield 63, 3) := by decide +kernel
theorem dX11_flow_26 : decode cX11_flow 26 = .ok (.iload_n 1, 1) := by decide +kernel
theorem dX11_flow_27 : decode cX11_flow 27 = .ok (.iload_n 2, 1) := by decide +kernel
theorem dX11_flow_28 : decode cX11_flow 28 = .ok (.invokevirtual 169, 3) := by decide +kernel
theorem dX11_flow_31 : decode cX11_flow 31 = .ok (.goto 4, 3) := by decide +kernel
theorem dX11_flow_34 : decode cX11_flow 34 = .ok (.iconst (-1), 1) := by decide +kernel
theorem dX11_flow_35 : decode cX11_flow 35 = .ok (.ireturn, 1) := by decide +kernel
theorem dX11_count_0 : decode cX11_count 0 = .ok (.iload_n 1, 1) := by decide +kernel
theorem dX11_count_1 : decode cX11_count 1 = .ok (.tableswitch 87 0 5 #[39, 47, 55, 63, 71, 79], 39) := by decide +kernel
theorem dX11_count_40 : decode cX11_count 40 = .ok (.aload_n 0, 1) := by decide +kernel
theorem dX11_count_41 : decode cX11_count 41 = .ok (.getfield 63, 3) := by decide +kernel
theorem dX11_count_44 : decode cX11_count 44 = .ok (.invokevirtual 172, 3) := by decide +kernel
theorem dX11_count_47 : decode cX11_count 47 = .ok (.ireturn, 1) := by decide +kernel
theorem dX11_count_48 : decode cX11_count 48 = .ok (.aload_n 0, 1) := by decide +kernel
theorem dX11_count_49 : decode cX11_count 49 = .ok (.getfield 63, 3) := by decide +kernel
theorem dX11_count_52 : decode cX11_count 52 = .ok (.invokevirtual 175, 3) := by decide +kernel
theorem dX11_count_55 : decode cX11_count 55 = .ok (.ireturn, 1) := by decide +kernel
theorem dX11_count_56 : decode cX11_count 56 = .ok (.aload_n 0, 1) := by decide +kernel
theorem dX11_count_57 : decode cX11_count 57 = .ok (.getfield 46, 3) := by decide +kernel
theorem dX11_count_60 : decode cX11_count 60 = .ok (.invokevirtual 178, 3) := by decide +kernel
theorem dX11_count_63 : decode cX11_count 63 = .ok (.ireturn, 1) := by decide +kernel
theorem dX11_count_64 : decode cX11_count 64 = .ok (.aload_n 0, 1) := by decide +kernel
theorem dX11_count_65 : decode cX11_count 65 = .ok (.getfield 46, 3) := by decide +kernel
theorem dX11_count_68 : decode cX11_count 68 = .ok (.invokevirtual 181, 3) := by decide +kernel
theorem dX11_count_71 : decode cX11_count 71 = .ok (.ireturn, 1) := by decide +kernel
theorem dX11_count_72 : decode cX11_count 72 = .ok (.aload_n 0, 1) := by decide +kernel
theorem dX11_count_73 : decode cX11_count 73 = .ok (.getfield 46, 3) := by decide +kernel
theorem dX11_count_76 : decode cX11_count 76 = .ok (.invokevirtual 184, 3) := by decide +kernel
theorem dX11_count_79 : decode cX11_count 79 = .ok (.ireturn, 1) := by decide +kernel
theorem dX11_count_80 : decode cX11_count 80 = .ok (.aload_n 0, 1) := by decide +kernel
theorem dX11_count_81 : decode cX11_count 81 = .ok (.getfield 28, 3) := by decide +kernel
theorem dX11_count_84 : decode cX11_count 84 = .ok (.invokevirtual 187, 3) := by decide +kernel
theorem dX11_count_87 : decode cX11_count 87 = .ok (.ireturn, 1) := by decide +kernel
theorem dX11_count_88 : decode cX11_count 88 = .ok (.iconst 0, 1) := by decide +kernel
theorem dX11_count_89 : decode cX11_count 89 = .ok (.ireturn, 1) := by decide +kernel
theorem dX11_image_0 : decode cX11_image 0 = .ok (.aload_n 0, 1) := by decide +kernel
theorem dX11_image_1 : decode cX11_image 1 = .ok (.getfield 63, 3) := by decide +kernel
theorem dX11_image_4 : decode cX11_image 4 = .ok (.invokevirtual 172, 3) := by decide +kernel
theorem dX11_image_7 : decode cX11_image 7 = .ok (.ifCond .ne 5, 3) := by decide +kernel
theorem dX11_image_10 : decode cX11_image 10 = .ok (.iconst 0, 1) := by decide +kernel
theorem dX11_image_11 : decode cX11_image 11 = .ok (.ireturn, 1) := by decide +kernel
theorem dX11_image_12 : decode cX11_image 12 = .ok (.aload_n 0, 1) := by decide +kernel
theorem dX11_image_13 : decode cX11_image 13 = .ok (.getfield 63, 3) := by decide +kernel
theorem dX11_image_16 : decode cX11_image 16 = .ok (.aload_n 0, 1) := by decide +kernel
theorem dX11_image_17 : decode cX11_image 17 = .ok (.getfield 53, 3) := by decide +kernel
theorem dX11_image_20 : decode cX11_image 20 = .ok (.invokestatic 188, 3) := by decide +kernel
theorem dX11_image_23 : decode cX11_image 23 = .ok (.aload_n 0, 1) := by decide +kernel
theorem dX11_image_24 : decode cX11_image 24 = .ok (.getfield 53, 3) := by decide +kernel
theorem dX11_image_27 : decode cX11_image 27 = .ok (.invokevirtual 194, 3) := by decide +kernel
theorem dX11_image_30 : decode cX11_image 30 = .ok (.ireturn, 1) := by decide +kernel
theorem dX11_imageAt_0 : decode cX11_imageAt 0 = .ok (.aload_n 0, 1) := by decide +kernel
theorem dX11_imageAt_1 : decode cX11_imageAt 1 = .ok (.getfield 53, 3) := by decide +kernel
theorem dX11_imageAt_4 : decode cX11_imageAt 4 = .ok (.iload_n 1, 1) := by decide +kernel
theorem dX11_imageAt_5 : decode cX11_imageAt 5 = .ok (.invokevirtual 197, 3) := by decide +kernel
theorem dX11_imageAt_8 : decode cX11_imageAt 8 = .ok (.ireturn, 1) := by decide +kernel
theorem dX11_feed_0 : decode cX11_feed 0 = .ok (.iload_n 3, 1) := by decide +kernel
theorem dX11_feed_1 : decode cX11_feed 1 = .ok (.iconst 1, 1) := by decide +kernel
theorem dX11_feed_2 : decode cX11_feed 2 = .ok (.if_icmp .lt 20, 3) := by decide +kernel
theorem dX11_feed_5 : decode cX11_feed 5 = .ok (.iload_n 3, 1) := by decide +kernel
theorem dX11_feed_6 : decode cX11_feed 6 = .ok (.bipush 8, 2) := by decide +kernel
theorem dX11_feed_8 : decode cX11_feed 8 = .ok (.if_icmp .gt 14, 3) := by decide +kernel
theorem dX11_feed_11 : decode cX11_feed 11 = .ok (.iload_n 3, 1) := by decide +kernel
theorem dX11_feed_12 : decode cX11_feed 12 = .ok (.aload_n 0, 1) := by decide +kernel
theorem dX11_feed_13 : decode cX11_feed 13 = .ok (.getfield 57, 3) := by decide +kernel
theorem dX11_feed_16 : decode cX11_feed 16 = .ok (.invokevirtual 200, 3) := by decide +kernel
theorem dX11_feed_19 : decode cX11_feed 19 = .ok (.if_icmp .le 5, 3) := by decide +kernel
theorem dX11_feed_22 : decode cX11_feed 22 = .ok (.iconst (-1), 1) := by decide +kernel
theorem dX11_feed_23 : decode cX11_feed 23 = .ok (.ireturn, 1) := by decide +kernel
theorem dX11_feed_24 : decode cX11_feed 24 = .ok (.iconst 0, 1) := by decide +kernel
theorem dX11_feed_25 : decode cX11_feed 25 = .ok (.istore 4, 2) := by decide +kernel
theorem dX11_feed_27 : decode cX11_feed 27 = .ok (.iload 4, 2) := by decide +kernel
theorem dX11_feed_29 : decode cX11_feed 29 = .ok (.iload_n 3, 1) := by decide +kernel
theorem dX11_feed_30 : decode cX11_feed 30 = .ok (.if_icmp .ge 22, 3) := by decide +kernel
theorem dX11_feed_33 : decode cX11_feed 33 = .ok (.aload_n 0, 1) := by decide +kernel
theorem dX11_feed_34 : decode cX11_feed 34 = .ok (.getfield 57, 3) := by decide +kernel
theorem dX11_feed_37 : decode cX11_feed 37 = .ok (.lload_n 1, 1) := by decide +kernel
theorem dX11_feed_38 : decode cX11_feed 38 = .ok (.iload 4, 2) := by decide +kernel
theorem dX11_feed_40 : decode cX11_feed 40 = .ok (.invokestatic 203, 3) := by decide +kernel
theorem dX11_feed_43 : decode cX11_feed 43 = .ok (.invokevirtual 207, 3) := by decide +kernel
theorem dX11_feed_46 : decode cX11_feed 46 = .ok (.iinc 4 1, 3) := by decide +kernel
theorem dX11_feed_49 : decode cX11_feed 49 = .ok (.goto (-22), 3) := by decide +kernel
theorem dX11_feed_52 : decode cX11_feed 52 = .ok (.aload_n 0, 1) := by decide +kernel
theorem dX11_feed_53 : decode cX11_feed 53 = .ok (.getfield 57, 3) := by decide +kernel
theorem dX11_feed_56 : decode cX11_feed 56 = .ok (.invokevirtual 194, 3) := by decide +kernel
theorem dX11_feed_59 : decode cX11_feed 59 = .ok (.ireturn, 1) := by decide +kernel
theorem dX11_read_0 : decode cX11_read 0 = .ok (.aload_n 0, 1) := by decide +kernel
theorem dX11_read_1 : decode cX11_read 1 = .ok (.getfield 57, 3) := by decide +kernel
theorem dX11_read_4 : decode cX11_read 4 = .ok (.aload_n 0, 1) := by decide +kernel
theorem dX11_read_5 : decode cX11_read 5 = .ok (.getfield 67, 3) := by decide +kernel
theorem dX11_read_8 : decode cX11_read 8 = .ok (.invokestatic 210, 3) := by decide +kernel
theorem dX11_read_11 : decode cX11_read 11 = .ok (.istore_n 1, 1) := by decide +kernel
theorem dX11_read_12 : decode cX11_read 12 = .ok (.aload_n 0, 1) := by decide +kernel
theorem dX11_read_13 : decode cX11_read 13 = .ok (.getfield 57, 3) := by decide +kernel
theorem dX11_read_16 : decode cX11_read 16 = .ok (.invokevirtual 214, 3) := by decide +kernel
theorem dX11_read_19 : decode cX11_read 19 = .ok (.iload_n 1, 1) := by decide +kernel
theorem dX11_read_20 : decode cX11_read 20 = .ok (.ifCond .ne 13, 3) := by decide +kernel
theorem dX11_read_23 : decode cX11_read 23 = .ok (.new 96, 3) := by decide +kernel
theorem dX11_read_26 : decode cX11_read 26 = .ok (.dup, 1) := by decide +kernel
theorem dX11_read_27 : decode cX11_read 27 = .ok (.ldc 215, 2) := by decide +kernel
theorem dX11_read_29 : decode cX11_read 29 = .ok (.invokespecial 100, 3) := by decide +kernel
theorem dX11_read_32 : decode cX11_read 32 = .ok (.athrow, 1) := by decide +kernel
theorem dX11_read_33 : decode cX11_read 33 = .ok (.aload_n 0, 1) := by decide +kernel
theorem dX11_read_34 : decode cX11_read 34 = .ok (.invokevirtual 136, 3) := by decide +kernel
theorem dX11_read_37 : decode cX11_read 37 = .ok (.ireturn, 1) := by decide +kernel
theorem dX11_putInForce_0 : decode cX11_putInForce 0 = .ok (.aload_n 0, 1) := by decide +kernel
theorem dX11_putInForce_1 : decode cX11_putInForce 1 = .ok (.getfield 63, 3) := by decide +kernel
theorem dX11_putInForce_4 : decode cX11_putInForce 4 = .ok (.astore_n 1, 1) := by decide +kernel
theorem dX11_putInForce_5 : decode cX11_putInForce 5 = .ok (.aload_n 0, 1) := by decide +kernel
theorem dX11_putInForce_6 : decode cX11_putInForce 6 = .ok (.aload_n 0, 1) := by decide +kernel
theorem dX11_putInForce_7 : decode cX11_putInForce 7 = .ok (.getfield 67, 3) := by decide +kernel
theorem dX11_putInForce_10 : decode cX11_putInForce 10 = .ok (.putfield 63, 3) := by decide +kernel
theorem dX11_putInForce_13 : decode cX11_putInForce 13 = .ok (.aload_n 0, 1) := by decide +kernel
theorem dX11_putInForce_14 : decode cX11_putInForce 14 = .ok (.aload_n 1, 1) := by decide +kernel
theorem dX11_putInForce_15 : decode cX11_putInForce 15 = .ok (.putfield 67, 3) := by decide +kernel
theorem dX11_putInForce_18 : decode cX11_putInForce 18 = .ok (.aload_n 0, 1) := by decide +kernel
theorem dX11_putInForce_19 : decode cX11_putInForce 19 = .ok (.getfield 46, 3) := by decide +kernel
theorem dX11_putInForce_22 : decode cX11_putInForce 22 = .ok (.invokevirtual 217, 3) := by decide +kernel
theorem dX11_putInForce_25 : decode cX11_putInForce 25 = .ok (.aload_n 0, 1) := by decide +kernel
theorem dX11_putInForce_26 : decode cX11_putInForce 26 = .ok (.getfield 63, 3) := by decide +kernel
theorem dX11_putInForce_29 : decode cX11_putInForce 29 = .ok (.invokevirtual 172, 3) := by decide +kernel
theorem dX11_putInForce_32 : decode cX11_putInForce 32 = .ok (.ireturn, 1) := by decide +kernel
theorem dX11_byteOf_0 : decode cX11_byteOf 0 = .ok (.lload_n 0, 1) := by decide +kernel
theorem dX11_byteOf_1 : decode cX11_byteOf 1 = .ok (.bipush 56, 2) := by decide +kernel
theorem dX11_byteOf_3 : decode cX11_byteOf 3 = .ok (.bipush 8, 2) := by decide +kernel
theorem dX11_byteOf_5 : decode cX11_byteOf 5 = .ok (.iload_n 2, 1) := by decide +kernel
theorem dX11_byteOf_6 : decode cX11_byteOf 6 = .ok (.imul, 1) := by decide +kernel
theorem dX11_byteOf_7 : decode cX11_byteOf 7 = .ok (.isub, 1) := by decide +kernel
theorem dX11_byteOf_8 : decode cX11_byteOf 8 = .ok (.lushr, 1) := by decide +kernel
theorem dX11_byteOf_9 : decode cX11_byteOf 9 = .ok (.l2i, 1) := by decide +kernel
theorem dX11_byteOf_10 : decode cX11_byteOf 10 = .ok (.sipush 255, 3) := by decide +kernel
theorem dX11_byteOf_13 : decode cX11_byteOf 13 = .ok (.iand, 1) := by decide +kernel
theorem dX11_byteOf_14 : decode cX11_byteOf 14 = .ok (.ireturn, 1) := by decide +kernel
theorem dX11_cellOf_0 : decode cX11_cellOf 0 = .ok (.iload_n 2, 1) := by decide +kernel
theorem dX11_cellOf_1 : decode cX11_cellOf 1 = .ok (.bipush 8, 2) := by decide +kernel
theorem dX11_cellOf_3 : decode cX11_cellOf 3 = .ok (.imul, 1) := by decide +kernel
theorem dX11_cellOf_4 : decode cX11_cellOf 4 = .ok (.iload_n 0, 1) := by decide +kernel
theorem dX11_cellOf_5 : decode cX11_cellOf 5 = .ok (.iadd, 1) := by decide +kernel
theorem dX11_cellOf_6 : decode cX11_cellOf 6 = .ok (.bipush 8, 2) := by decide +kernel
theorem dX11_cellOf_8 : decode cX11_cellOf 8 = .ok (.imul, 1) := by decide +kernel
theorem dX11_cellOf_9 : decode cX11_cellOf 9 = .ok (.iload_n 1, 1) := by decide +kernel
theorem dX11_cellOf_10 : decode cX11_cellOf 10 = .ok (.iadd, 1) := by decide +kernel
theorem dX11_cellOf_11 : decode cX11_cellOf 11 = .ok (.ireturn, 1) := by decide +kernel
theorem dX11_hasBit_0 : decode cX11_hasBit 0 = .ok (.iload_n 0, 1) := by decide +kernel
theorem dX11_hasBit_1 : decode cX11_hasBit 1 = .ok (.iload_n 1, 1) := by decide +kernel
theorem dX11_hasBit_2 : decode cX11_hasBit 2 = .ok (.ishr, 1) := by decide +kernel
theorem dX11_hasBit_3 : decode cX11_hasBit 3 = .ok (.iconst 1, 1) := by decide +kernel
theorem dX11_hasBit_4 : decode cX11_hasBit 4 = .ok (.iand, 1) := by decide +kernel
theorem dX11_hasBit_5 : decode cX11_hasBit 5 = .ok (.ifCond .eq 7, 3) := by decide +kernel
theorem dX11_hasBit_8 : decode cX11_hasBit 8 = .ok (.iconst 1, 1) := by decide +kernel
theorem dX11_hasBit_9 : decode cX11_hasBit 9 = .ok (.goto 4, 3) := by decide +kernel
theorem dX11_hasBit_12 : decode cX11_hasBit 12 = .ok (.iconst 0, 1) := by decide +kernel
theorem dX11_hasBit_13 : decode cX11_hasBit 13 = .ok (.ireturn, 1) := by decide +kernel
theorem dX12_init_0 : decode cX12_init 0 = .ok (.aload_n 0, 1) := by decide +kernel
theorem dX12_init_1 : decode cX12_init 1 = .ok (.invokespecial 1, 3) := by decide +kernel
theorem dX12_init_4 : decode cX12_init 4 = .ok (.aload_n 0, 1) := by decide +kernel
theorem dX12_init_5 : decode cX12_init 5 = .ok (.bipush 72, 2) := by decide +kernel
theorem dX12_init_7 : decode cX12_init 7 = .ok (.newarray .char, 2) := by decide +kernel
theorem dX12_init_9 : decode cX12_init 9 = .ok (.putfield 7, 3) := by decide +kernel
theorem dX12_init_12 : decode cX12_init 12 = .ok (.aload_n 0, 1) := by decide +kernel
theorem dX12_init_13 : decode cX12_init 13 = .ok (.iconst (-1), 1) := by decide +kernel
theorem dX12_init_14 : decode cX12_init 14 = .ok (.putfield 13, 3) := by decide +kernel
theorem dX12_init_17 : decode cX12_init 17 = .ok (.aload_n 0, 1) := by decide +kernel
theorem dX12_init_18 : decode cX12_init 18 = .ok (.bipush 41, 2) := by decide +kernel
theorem dX12_init_20 : decode cX12_init 20 = .ok (.newarray .int, 2) := by decide +kernel
theorem dX12_init_22 : decode cX12_init 22 = .ok (.putfield 17, 3) := by decide +kernel
theorem dX12_init_25 : decode cX12_init 25 = .ok (.aload_n 0, 1) := by decide +kernel
theorem dX12_init_26 : decode cX12_init 26 = .ok (.bipush 41, 2) := by decide +kernel
theorem dX12_init_28 : decode cX12_init 28 = .ok (.newarray .int, 2) := by decide +kernel
theorem dX12_init_30 : decode cX12_init 30 = .ok (.putfield 21, 3) := by decide +kernel
theorem dX12_init_33 : decode cX12_init 33 = .ok (.aload_n 0, 1) := by decide +kernel
theorem dX12_init_34 : decode cX12_init 34 = .ok (.sipush 410, 3) := by decide +kernel
theorem dX12_init_37 : decode cX12_init 37 = .ok (.newarray .int, 2) := by decide +kernel
theorem dX12_init_39 : decode cX12_init 39 = .ok (.putfield 24, 3) := by decide +kernel
theorem dX12_init_42 : decode cX12_init 42 = .ok (.aload_n 0, 1) := by decide +kernel
theorem dX12_init_43 : decode cX12_init 43 = .ok (.bipush 41, 2) := by decide +kernel
theorem dX12_init_45 : decode cX12_init 45 = .ok (.newarray .int, 2) := by decide +kernel
theorem dX12_init_47 : decode cX12_init 47 = .ok (.putfield 27, 3) := by decide +kernel
theorem dX12_init_50 : decode cX12_init 50 = .ok (.aload_n 0, 1) := by decide +kernel
theorem dX12_init_51 : decode cX12_init 51 = .ok (.iconst (-1), 1) := by decide +kernel
theorem dX12_init_52 : decode cX12_init 52 = .ok (.putfield 30, 3) := by decide +kernel
theorem dX12_init_55 : decode cX12_init 55 = .ok (.aload_n 0, 1) := by decide +kernel
theorem dX12_init_56 : decode cX12_init 56 = .ok (.iconst 3, 1) := by decide +kernel
theorem dX12_init_57 : decode cX12_init 57 = .ok (.newarray .int, 2) := by decide +kernel
theorem dX12_init_59 : decode cX12_init 59 = .ok (.putfield 33, 3) := by decide +kernel
theorem dX12_init_62 : decode cX12_init 62 = .ok (.aload_n 0, 1) := by decide +kernel
theorem dX12_init_63 : decode cX12_init 63 = .ok (.bipush 8, 2) := by decide +kernel
theorem dX12_init_65 : decode cX12_init 65 = .ok (.newarray .int, 2) := by decide +kernel
theorem dX12_init_67 : decode cX12_init 67 = .ok (.putfield 36, 3) := by decide +kernel
theorem dX12_init_70 : decode cX12_init 70 = .ok (.aload_n 0, 1) := by decide +kernel
theorem dX12_init_71 : decode cX12_init 71 = .ok (.sipush 192, 3) := by decide +kernel
theorem dX12_init_74 : decode cX12_init 74 = .ok (.newarray .int, 2) := by decide +kernel
theorem dX12_init_76 : decode cX12_init 76 = .ok (.putfield 39, 3) := by decide +kernel
theorem dX12_init_79 : decode cX12_init 79 = .ok (.aload_n 0, 1) := by decide +kernel
theorem dX12_init_80 : decode cX12_init 80 = .ok (.sipush 192, 3) := by decide +kernel
theorem dX12_init_83 : decode cX12_init 83 = .ok (.newarray .int, 2) := by decide +kernel
theorem dX12_init_85 : decode cX12_init 85 = .ok (.putfield 42, 3) := by decide +kernel
theorem dX12_init_88 : decode cX12_init 88 = .ok (.aload_n 0, 1) := by decide +kernel
theorem dX12_init_89 : decode cX12_init 89 = .ok (.bipush 15, 2) := by decide +kernel
theorem dX12_init_91 : decode cX12_init 91 = .ok (.newarray .int, 2) := by decide +kernel
theorem dX12_init_93 : decode cX12_init 93 = .ok (.putfield 45, 3) := by decide +kernel
theorem dX12_init_96 : decode cX12_init 96 = .ok (.aload_n 0, 1) := by decide +kernel
theorem dX12_init_97 : decode cX12_init 97 = .ok (.bipush 8, 2) := by decide +kernel
theorem dX12_init_99 : decode cX12_init 99 = .ok (.newarray .int, 2) := by decide +kernel
theorem dX12_init_101 : decode cX12_init 101 = .ok (.putfield 48, 3) := by decide +kernel
theorem dX12_init_104 : decode cX12_init 104 = .ok (.aload_n 0, 1) := by decide +kernel
theorem dX12_init_105 : decode cX12_init 105 = .ok (.iconst 3, 1) := by decide +kernel
theorem dX12_init_106 : decode cX12_init 106 = .ok (.newarray .int, 2) := by decide +kernel
theorem dX12_init_108 : decode cX12_init 108 = .ok (.putfield 51, 3) := by decide +kernel
theorem dX12_init_111 : decode cX12_init 111 = .ok (.aload_n 0, 1) := by decide +kernel
theorem dX12_init_112 : decode cX12_init 112 = .ok (.bipush 9, 2) := by decide +kernel
theorem dX12_init_114 : decode cX12_init 114 = .ok (.newarray .int, 2) := by decide +kernel
theorem dX12_init_116 : decode cX12_init 116 = .ok (.putfield 54, 3) := by decide +kernel
theorem dX12_init_119 : decode cX12_init 119 = .ok (.aload_n 0, 1) := by decide +kernel
theorem dX12_init_120 : decode cX12_init 120 = .ok (.bipush 9, 2) := by decide +kernel
theorem dX12_init_122 : decode cX12_init 122 = .ok (.newarray .int, 2) := by decide +kernel
theorem dX12_init_124 : decode cX12_init 124 = .ok (.putfield 57, 3) := by decide +kernel
theorem dX12_init_127 : decode cX12_init 127 = .ok (.aload_n 0, 1) := by decide +kernel
theorem dX12_init_128 : decode cX12_init 128 = .ok (.sipush 420, 3) := by decide +kernel
theorem dX12_init_131 : decode cX12_init 131 = .ok (.newarray .int, 2) := by decide +kernel
theorem dX12_init_133 : decode cX12_init 133 = .ok (.putfield 60, 3) := by decide +kernel
theorem dX12_init_136 : decode cX12_init 136 = .ok (.aload_n 0, 1) := by decide +kernel
theorem dX12_init_137 : decode cX12_init 137 = .ok (.sipush 420, 3) := by decide +kernel
theorem dX12_init_140 : decode cX12_init 140 = .ok (.newarray .int, 2) := by decide +kernel
theorem dX12_init_142 : decode cX12_init 142 = .ok (.putfield 63, 3) := by decide +kernel
theorem dX12_init_145 : decode cX12_init 145 = .ok (.aload_n 0, 1) := by decide +kernel
theorem dX12_init_146 : decode cX12_init 146 = .ok (.bipush 8, 2) := by decide +kernel
theorem dX12_init_148 : decode cX12_init 148 = .ok (.newarray .boolean, 2) := by decide +kernel
theorem dX12_init_150 : decode cX12_init 150 = .ok (.putfield 66, 3) := by decide +kernel
theorem dX12_init_153 : decode cX12_init 153 = .ok (.aload_n 0, 1) := by decide +kernel
theorem dX12_init_154 : decode cX12_init 154 = .ok (.bipush 8, 2) := by decide +kernel
theorem dX12_init_156 : decode cX12_init 156 = .ok (.newarray .boolean, 2) := by decide +kernel
theorem dX12_init_158 : decode cX12_init 158 = .ok (.putfield 70, 3) := by decide +kernel
theorem dX12_init_161 : decode cX12_init 161 = .ok (.aload_n 0, 1) := by decide +kernel
theorem dX12_init_162 : decode cX12_init 162 = .ok (.iload_n 1, 1) := by decide +kernel
theorem dX12_init_163 : decode cX12_init 163 = .ok (.iconst 1, 1) := by decide +kernel
theorem dX12_init_164 : decode cX12_init 164 = .ok (.if_icmp .ge 7, 3) := by decide +kernel
theorem dX12_init_167 : decode cX12_init 167 = .ok (.iconst 1, 1) := by decide +kernel
theorem dX12_init_168 : decode cX12_init 168 = .ok (.goto 15, 3) := by decide +kernel
theorem dX12_init_171 : decode cX12_init 171 = .ok (.iload_n 1, 1) := by decide +kernel
theorem dX12_init_172 : decode cX12_init 172 = .ok (.bipush 8, 2) := by decide +kernel
theorem dX12_init_174 : decode cX12_init 174 = .ok (.if_icmp .le 8, 3) := by decide +kernel
theorem dX12_init_177 : decode cX12_init 177 = .ok (.bipush 8, 2) := by decide +kernel
theorem dX12_init_179 : decode cX12_init 179 = .ok (.goto 4, 3) := by decide +kernel
theorem dX12_init_182 : decode cX12_init 182 = .ok (.iload_n 1, 1) := by decide +kernel
theorem dX12_init_183 : decode cX12_init 183 = .ok (.putfield 73, 3) := by decide +kernel
theorem dX12_init_186 : decode cX12_init 186 = .ok (.return_, 1) := by decide +kernel
theorem dX12_thrown_0 : decode cX12_thrown 0 = .ok (.aload_n 0, 1) := by decide +kernel
theorem dX12_thrown_1 : decode cX12_thrown 1 = .ok (.getfield 76, 3) := by decide +kernel
theorem dX12_thrown_4 : decode cX12_thrown 4 = .ok (.ireturn, 1) := by decide +kernel
theorem dX12_write_0 : decode cX12_write 0 = .ok (.aload_n 0, 1) := by decide +kernel
theorem dX12_write_1 : decode cX12_write 1 = .ok (.iconst 0, 1) := by decide +kernel
theorem dX12_write_2 : decode cX12_write 2 = .ok (.putfield 76, 3) := by decide +kernel
theorem dX12_write_5 : decode cX12_write 5 = .ok (.iconst 0, 1) := by decide +kernel
theorem dX12_write_6 : decode cX12_write 6 = .ok (.istore_n 3, 1) := by decide +kernel
theorem dX12_write_7 : decode cX12_write 7 = .ok (.bipush 56, 2) := by decide +kernel
theorem dX12_write_9 : decode cX12_write 9 = .ok (.istore 4, 2) := by decide +kernel
theorem dX12_write_11 : decode cX12_write 11 = .ok (.iload 4, 2) := by decide +kernel
theorem dX12_write_13 : decode cX12_write 13 = .ok (.ifCond .lt 58, 3) := by decide +kernel
theorem dX12_write_16 : decode cX12_write 16 = .ok (.lload_n 1, 1) := by decide +kernel
theorem dX12_write_17 : decode cX12_write 17 = .ok (.iload 4, 2) := by decide +kernel
theorem dX12_write_19 : decode cX12_write 19 = .ok (.lushr, 1) := by decide +kernel
theorem dX12_write_20 : decode cX12_write 20 = .ok (.ldc2_w 79, 3) := by decide +kernel
theorem dX12_write_23 : decode cX12_write 23 = .ok (.land, 1) := by decide +kernel
theorem dX12_write_24 : decode cX12_write 24 = .ok (.l2i, 1) := by decide +kernel
theorem dX12_write_25 : decode cX12_write 25 = .ok (.istore 5, 2) := by decide +kernel
theorem dX12_write_27 : decode cX12_write 27 = .ok (.iload 5, 2) := by decide +kernel
theorem dX12_write_29 : decode cX12_write 29 = .ok (.ifCond .eq 19, 3) := by decide +kernel
theorem dX12_write_32 : decode cX12_write 32 = .ok (.iload 5, 2) := by decide +kernel
theorem dX12_write_34 : decode cX12_write 34 = .ok (.bipush 32, 2) := by decide +kernel
theorem dX12_write_36 : decode cX12_write 36 = .ok (.if_icmp .lt 10, 3) := by decide +kernel
theorem dX12_write_39 : decode cX12_write 39 = .ok (.iload 5, 2) := by decide +kernel
theorem dX12_write_41 : decode cX12_write 41 = .ok (.bipush 126, 2) := by decide +kernel
theorem dX12_write_43 : decode cX12_write 43 = .ok (.if_icmp .le 5, 3) := by decide +kernel
theorem dX12_write_46 : decode cX12_write 46 = .ok (.iconst 0, 1) := by decide +kernel
theorem dX12_write_47 : decode cX12_write 47 = .ok (.ireturn, 1) := by decide +kernel
theorem dX12_write_48 : decode cX12_write 48 = .ok (.iload 5, 2) := by decide +kernel
theorem dX12_write_50 : decode cX12_write 50 = .ok (.ifCond .eq 9, 3) := by decide +kernel
theorem dX12_write_53 : decode cX12_write 53 = .ok (.iload_n 3, 1) := by decide +kernel
theorem dX12_write_54 : decode cX12_write 54 = .ok (.iconst 1, 1) := by decide +kernel
theorem dX12_write_55 : decode cX12_write 55 = .ok (.iadd, 1) := by decide +kernel
theorem dX12_write_56 : decode cX12_write 56 = .ok (.goto 4, 3) := by decide +kernel
theorem dX12_write_59 : decode cX12_write 59 = .ok (.iload_n 3, 1) := by decide +kernel
theorem dX12_write_60 : decode cX12_write 60 = .ok (.istore_n 3, 1) := by decide +kernel
theorem dX12_write_61 : decode cX12_write 61 = .ok (.iload 4, 2) := by decide +kernel
theorem dX12_write_63 : decode cX12_write 63 = .ok (.bipush 8, 2) := by decide +kernel
theorem dX12_write_65 : decode cX12_write 65 = .ok (.isub, 1) := by decide +kernel
theorem dX12_write_66 : decode cX12_write 66 = .ok (.istore 4, 2) := by decide +kernel
theorem dX12_write_68 : decode cX12_write 68 = .ok (.goto (-57), 3) := by decide +kernel
theorem dX12_write_71 : decode cX12_write 71 = .ok (.aload_n 0, 1) := by decide +kernel
theorem dX12_write_72 : decode cX12_write 72 = .ok (.getfield 81, 3) := by decide +kernel
theorem dX12_write_75 : decode cX12_write 75 = .ok (.iload_n 3, 1) := by decide +kernel
theorem dX12_write_76 : decode cX12_write 76 = .ok (.iadd, 1) := by decide +kernel
theorem dX12_write_77 : decode cX12_write 77 = .ok (.bipush 72, 2) := by decide +kernel
theorem dX12_write_79 : decode cX12_write 79 = .ok (.if_icmp .le 5, 3) := by decide +kernel
theorem dX12_write_82 : decode cX12_write 82 = .ok (.iconst 0, 1) := by decide +kernel
theorem dX12_write_83 : decode cX12_write 83 = .ok (.ireturn, 1) := by decide +kernel
theorem dX12_write_84 : decode cX12_write 84 = .ok (.bipush 56, 2) := by decide +kernel
theorem dX12_write_86 : decode cX12_write 86 = .ok (.istore 4, 2) := by decide +kernel
theorem dX12_write_88 : decode cX12_write 88 = .ok (.iload 4, 2) := by decide +kernel
theorem dX12_write_90 : decode cX12_write 90 = .ok (.ifCond .lt 51, 3) := by decide +kernel
theorem dX12_write_93 : decode cX12_write 93 = .ok (.lload_n 1, 1) := by decide +kernel
theorem dX12_write_94 : decode cX12_write 94 = .ok (.iload 4, 2) := by decide +kernel
theorem dX12_write_96 : decode cX12_write 96 = .ok (.lushr, 1) := by decide +kernel
theorem dX12_write_97 : decode cX12_write 97 = .ok (.ldc2_w 79, 3) := by decide +kernel
theorem dX12_write_100 : decode cX12_write 100 = .ok (.land, 1) := by decide +kernel
theorem dX12_write_101 : decode cX12_write 101 = .ok (.l2i, 1) := by decide +kernel
theorem dX12_write_102 : decode cX12_write 102 = .ok (.istore 5, 2) := by decide +kernel
theorem dX12_write_104 : decode cX12_write 104 = .ok (.iload 5, 2) := by decide +kernel
theorem dX12_write_106 : decode cX12_write 106 = .ok (.ifCond .eq 25, 3) := by decide +kernel
theorem dX12_write_109 : decode cX12_write 109 = .ok (.aload_n 0, 1) := by decide +kernel
theorem dX12_write_110 : decode cX12_write 110 = .ok (.getfield 7, 3) := by decide +kernel
theorem dX12_write_113 : decode cX12_write 113 = .ok (.aload_n 0, 1) := by decide +kernel
theorem dX12_write_114 : decode cX12_write 114 = .ok (.getfield 81, 3) := by decide +kernel
theorem dX12_write_117 : decode cX12_write 117 = .ok (.iload 5, 2) := by decide +kernel
theorem dX12_write_119 : decode cX12_write 119 = .ok (.i2c, 1) := by decide +kernel
theorem dX12_write_120 : decode cX12_write 120 = .ok (.castore, 1) := by decide +kernel
theorem dX12_write_121 : decode cX12_write 121 = .ok (.aload_n 0, 1) := by decide +kernel
theorem dX12_write_122 : decode cX12_write 122 = .ok (.dup, 1) := by decide +kernel
theorem dX12_write_123 : decode cX12_write 123 = .ok (.getfield 81, 3) := by decide +kernel
theorem dX12_write_126 : decode cX12_write 126 = .ok (.iconst 1, 1) := by decide +kernel
theorem dX12_write_127 : decode cX12_write 127 = .ok (.iadd, 1) := by decide +kernel
theorem dX12_write_128 : decode cX12_write 128 = .ok (.putfield 81, 3) := by decide +kernel
theorem dX12_write_131 : decode cX12_write 131 = .ok (.iload 4, 2) := by decide +kernel
theorem dX12_write_133 : decode cX12_write 133 = .ok (.bipush 8, 2) := by decide +kernel
theorem dX12_write_135 : decode cX12_write 135 = .ok (.isub, 1) := by decide +kernel
theorem dX12_write_136 : decode cX12_write 136 = .ok (.istore 4, 2) := by decide +kernel
theorem dX12_write_138 : decode cX12_write 138 = .ok (.goto (-50), 3) := by decide +kernel
theorem dX12_write_141 : decode cX12_write 141 = .ok (.iconst 1, 1) := by decide +kernel
theorem dX12_write_142 : decode cX12_write 142 = .ok (.ireturn, 1) := by decide +kernel
theorem dX12_here_0 : decode cX12_here 0 = .ok (.aload_n 0, 1) := by decide +kernel
theorem dX12_here_1 : decode cX12_here 1 = .ok (.getfield 84, 3) := by decide +kernel
theorem dX12_here_4 : decode cX12_here 4 = .ok (.aload_n 0, 1) := by decide +kernel
theorem dX12_here_5 : decode cX12_here 5 = .ok (.getfield 81, 3) := by decide +kernel
theorem dX12_here_8 : decode cX12_here 8 = .ok (.if_icmp .ge 15, 3) := by decide +kernel
theorem dX12_here_11 : decode cX12_here 11 = .ok (.aload_n 0, 1) := by decide +kernel
theorem dX12_here_12 : decode cX12_here 12 = .ok (.getfield 7, 3) := by decide +kernel
theorem dX12_here_15 : decode cX12_here 15 = .ok (.aload_n 0, 1) := by decide +kernel
theorem dX12_here_16 : decode cX12_here 16 = .ok (.getfield 84, 3) := by decide +kernel
theorem dX12_here_19 : decode cX12_here 19 = .ok (.caload, 1) := by decide +kernel
theorem dX12_here_20 : decode cX12_here 20 = .ok (.goto 4, 3) := by decide +kernel
theorem dX12_here_23 : decode cX12_here 23 = .ok (.iconst 0, 1) := by decide +kernel
theorem dX12_here_24 : decode cX12_here 24 = .ok (.ireturn, 1) := by decide +kernel
theorem dX12_isLetter_0 : decode cX12_isLetter 0 = .ok (.aload_n 0, 1) := by decide +kernel
theorem dX12_isLetter_1 : decode cX12_isLetter 1 = .ok (.invokevirtual 87, 3) := by decide +kernel
theorem dX12_isLetter_4 : decode cX12_isLetter 4 = .ok (.bipush 97, 2) := by decide +kernel
theorem dX12_isLetter_6 : decode cX12_isLetter 6 = .ok (.if_icmp .lt 16, 3) := by decide +kernel
theorem dX12_isLetter_9 : decode cX12_isLetter 9 = .ok (.aload_n 0, 1) := by decide +kernel
theorem dX12_isLetter_10 : decode cX12_isLetter 10 = .ok (.invokevirtual 87, 3) := by decide +kernel
theorem dX12_isLetter_13 : decode cX12_isLetter 13 = .ok (.bipush 122, 2) := by decide +kernel
theorem dX12_isLetter_15 : decode cX12_isLetter 15 = .ok (.if_icmp .gt 7, 3) := by decide +kernel
theorem dX12_isLetter_18 : decode cX12_isLetter 18 = .ok (.iconst 1, 1) := by decide +kernel
theorem dX12_isLetter_19 : decode cX12_isLetter 19 = .ok (.goto 4, 3) := by decide +kernel
theorem dX12_isLetter_22 : decode cX12_isLetter 22 = .ok (.iconst 0, 1) := by decide +kernel
theorem dX12_isLetter_23 : decode cX12_isLetter 23 = .ok (.ireturn, 1) := by decide +kernel
theorem dX12_word_0 : decode cX12_word 0 = .ok (.iload 4, 2) := by decide +kernel
theorem dX12_word_2 : decode cX12_word 2 = .ok (.ifCond .ne 7, 3) := by decide +kernel
theorem dX12_word_5 : decode cX12_word 5 = .ok (.iconst 0, 1) := by decide +kernel
theorem dX12_word_6 : decode cX12_word 6 = .ok (.goto 8, 3) := by decide +kernel
theorem dX12_word_9 : decode cX12_word 9 = .ok (.iload 4, 2) := by decide +kernel
theorem dX12_word_11 : decode cX12_word 11 = .ok (.bipush 96, 2) := by decide +kernel
theorem dX12_word_13 : decode cX12_word 13 = .ok (.isub, 1) := by decide +kernel
theorem dX12_word_14 : decode cX12_word 14 = .ok (.istore 5, 2) := by decide +kernel
theorem dX12_word_16 : decode cX12_word 16 = .ok (.iload_n 0, 1) := by decide +kernel
theorem dX12_word_17 : decode cX12_word 17 = .ok (.bipush 96, 2) := by decide +kernel
theorem dX12_word_19 : decode cX12_word 19 = .ok (.isub, 1) := by decide +kernel
theorem dX12_word_20 : decode cX12_word 20 = .ok (.iload_n 1, 1) := by decide +kernel
theorem dX12_word_21 : decode cX12_word 21 = .ok (.bipush 96, 2) := by decide +kernel
theorem dX12_word_23 : decode cX12_word 23 = .ok (.isub, 1) := by decide +kernel
theorem dX12_word_24 : decode cX12_word 24 = .ok (.iconst 5, 1) := by decide +kernel
theorem dX12_word_25 : decode cX12_word 25 = .ok (.ishl, 1) := by decide +kernel
theorem dX12_word_26 : decode cX12_word 26 = .ok (.ior, 1) := by decide +kernel
theorem dX12_word_27 : decode cX12_word 27 = .ok (.iload_n 2, 1) := by decide +kernel
theorem dX12_word_28 : decode cX12_word 28 = .ok (.bipush 96, 2) := by decide +kernel
theorem dX12_word_30 : decode cX12_word 30 = .ok (.isub, 1) := by decide +kernel
theorem dX12_word_31 : decode cX12_word 31 = .ok (.bipush 10, 2) := by decide +kernel
theorem dX12_word_33 : decode cX12_word 33 = .ok (.ishl, 1) := by decide +kernel
theorem dX12_word_34 : decode cX12_word 34 = .ok (.ior, 1) := by decide +kernel
theorem dX12_word_35 : decode cX12_word 35 = .ok (.iload_n 3, 1) := by decide +kernel
theorem dX12_word_36 : decode cX12_word 36 = .ok (.bipush 96, 2) := by decide +kernel
theorem dX12_word_38 : decode cX12_word 38 = .ok (.isub, 1) := by decide +kernel
theorem dX12_word_39 : decode cX12_word 39 = .ok (.bipush 15, 2) := by decide +kernel
theorem dX12_word_41 : decode cX12_word 41 = .ok (.ishl, 1) := by decide +kernel
theorem dX12_word_42 : decode cX12_word 42 = .ok (.ior, 1) := by decide +kernel
theorem dX12_word_43 : decode cX12_word 43 = .ok (.iload 5, 2) := by decide +kernel
theorem dX12_word_45 : decode cX12_word 45 = .ok (.bipush 20, 2) := by decide +kernel
theorem dX12_word_47 : decode cX12_word 47 = .ok (.ishl, 1) := by decide +kernel
theorem dX12_word_48 : decode cX12_word 48 = .ok (.ior, 1) := by decide +kernel
theorem dX12_word_49 : decode cX12_word 49 = .ok (.ireturn, 1) := by decide +kernel
theorem dX12_keyword_0 : decode cX12_keyword 0 = .ok (.iload_n 0, 1) := by decide +kernel
theorem dX12_keyword_1 : decode cX12_keyword 1 = .ok (.tableswitch 154 0 7 #[47, 61, 74, 88, 102, 115, 128, 141], 47) := by decide +kernel
theorem dX12_keyword_48 : decode cX12_keyword 48 = .ok (.bipush 99, 2) := by decide +kernel
theorem dX12_keyword_50 : decode cX12_keyword 50 = .ok (.bipush 108, 2) := by decide +kernel
theorem dX12_keyword_52 : decode cX12_keyword 52 = .ok (.bipush 97, 2) := by decide +kernel
theorem dX12_keyword_54 : decode cX12_keyword 54 = .ok (.bipush 115, 2) := by decide +kernel
theorem dX12_keyword_56 : decode cX12_keyword 56 = .ok (.bipush 115, 2) := by decide +kernel
theorem dX12_keyword_58 : decode cX12_keyword 58 = .ok (.invokestatic 91, 3) := by decide +kernel
theorem dX12_keyword_61 : decode cX12_keyword 61 = .ok (.ireturn, 1) := by decide +kernel
theorem dX12_keyword_62 : decode cX12_keyword 62 = .ok (.bipush 116, 2) := by decide +kernel
theorem dX12_keyword_64 : decode cX12_keyword 64 = .ok (.bipush 121, 2) := by decide +kernel
theorem dX12_keyword_66 : decode cX12_keyword 66 = .ok (.bipush 112, 2) := by decide +kernel
theorem dX12_keyword_68 : decode cX12_keyword 68 = .ok (.bipush 101, 2) := by decide +kernel
theorem dX12_keyword_70 : decode cX12_keyword 70 = .ok (.iconst 0, 1) := by decide +kernel
theorem dX12_keyword_71 : decode cX12_keyword 71 = .ok (.invokestatic 91, 3) := by decide +kernel
theorem dX12_keyword_74 : decode cX12_keyword 74 = .ok (.ireturn, 1) := by decide +kernel
theorem dX12_keyword_75 : decode cX12_keyword 75 = .ok (.bipush 97, 2) := by decide +kernel
theorem dX12_keyword_77 : decode cX12_keyword 77 = .ok (.bipush 108, 2) := by decide +kernel
theorem dX12_keyword_79 : decode cX12_keyword 79 = .ok (.bipush 108, 2) := by decide +kernel
theorem dX12_keyword_81 : decode cX12_keyword 81 = .ok (.bipush 111, 2) := by decide +kernel
theorem dX12_keyword_83 : decode cX12_keyword 83 = .ok (.bipush 119, 2) := by decide +kernel
theorem dX12_keyword_85 : decode cX12_keyword 85 = .ok (.invokestatic 91, 3) := by decide +kernel
theorem dX12_keyword_88 : decode cX12_keyword 88 = .ok (.ireturn, 1) := by decide +kernel
theorem dX12_keyword_89 : decode cX12_keyword 89 = .ok (.bipush 110, 2) := by decide +kernel
theorem dX12_keyword_91 : decode cX12_keyword 91 = .ok (.bipush 101, 2) := by decide +kernel
theorem dX12_keyword_93 : decode cX12_keyword 93 = .ok (.bipush 118, 2) := by decide +kernel
theorem dX12_keyword_95 : decode cX12_keyword 95 = .ok (.bipush 101, 2) := by decide +kernel
theorem dX12_keyword_97 : decode cX12_keyword 97 = .ok (.bipush 114, 2) := by decide +kernel
theorem dX12_keyword_99 : decode cX12_keyword 99 = .ok (.invokestatic 91, 3) := by decide +kernel
theorem dX12_keyword_102 : decode cX12_keyword 102 = .ok (.ireturn, 1) := by decide +kernel
theorem dX12_keyword_103 : decode cX12_keyword 103 = .ok (.bipush 109, 2) := by decide +kernel
theorem dX12_keyword_105 : decode cX12_keyword 105 = .ok (.bipush 97, 2) := by decide +kernel
theorem dX12_keyword_107 : decode cX12_keyword 107 = .ok (.bipush 107, 2) := by decide +kernel
theorem dX12_keyword_109 : decode cX12_keyword 109 = .ok (.bipush 101, 2) := by decide +kernel
theorem dX12_keyword_111 : decode cX12_keyword 111 = .ok (.iconst 0, 1) := by decide +kernel
theorem dX12_keyword_112 : decode cX12_keyword 112 = .ok (.invokestatic 91, 3) := by decide +kernel
theorem dX12_keyword_115 : decode cX12_keyword 115 = .ok (.ireturn, 1) := by decide +kernel
theorem dX12_keyword_116 : decode cX12_keyword 116 = .ok (.bipush 114, 2) := by decide +kernel
theorem dX12_keyword_118 : decode cX12_keyword 118 = .ok (.bipush 97, 2) := by decide +kernel
theorem dX12_keyword_120 : decode cX12_keyword 120 = .ok (.bipush 110, 2) := by decide +kernel
theorem dX12_keyword_122 : decode cX12_keyword 122 = .ok (.bipush 107, 2) := by decide +kernel
theorem dX12_keyword_124 : decode cX12_keyword 124 = .ok (.iconst 0, 1) := by decide +kernel
theorem dX12_keyword_125 : decode cX12_keyword 125 = .ok (.invokestatic 91, 3) := by decide +kernel
theorem dX12_keyword_128 : decode cX12_keyword 128 = .ok (.ireturn, 1) := by decide +kernel
theorem dX12_keyword_129 : decode cX12_keyword 129 = .ok (.bipush 110, 2) := by decide +kernel
theorem dX12_keyword_131 : decode cX12_keyword 131 = .ok (.bipush 101, 2) := by decide +kernel
theorem dX12_keyword_133 : decode cX12_keyword 133 = .ok (.bipush 101, 2) := by decide +kernel
theorem dX12_keyword_135 : decode cX12_keyword 135 = .ok (.bipush 100, 2) := by decide +kernel
theorem dX12_keyword_137 : decode cX12_keyword 137 = .ok (.iconst 0, 1) := by decide +kernel
theorem dX12_keyword_138 : decode cX12_keyword 138 = .ok (.invokestatic 91, 3) := by decide +kernel
theorem dX12_keyword_141 : decode cX12_keyword 141 = .ok (.ireturn, 1) := by decide +kernel
theorem dX12_keyword_142 : decode cX12_keyword 142 = .ok (.bipush 115, 2) := by decide +kernel
theorem dX12_keyword_144 : decode cX12_keyword 144 = .ok (.bipush 101, 2) := by decide +kernel
theorem dX12_keyword_146 : decode cX12_keyword 146 = .ok (.bipush 101, 2) := by decide +kernel
theorem dX12_keyword_148 : decode cX12_keyword 148 = .ok (.bipush 115, 2) := by decide +kernel
theorem dX12_keyword_150 : decode cX12_keyword 150 = .ok (.iconst 0, 1) := by decide +kernel
theorem dX12_keyword_151 : decode cX12_keyword 151 = .ok (.invokestatic 91, 3) := by decide +kernel
theorem dX12_keyword_154 : decode cX12_keyword 154 = .ok (.ireturn, 1) := by decide +kernel
theorem dX12_keyword_155 : decode cX12_keyword 155 = .ok (.bipush 112, 2) := by decide +kernel
theorem dX12_keyword_157 : decode cX12_keyword 157 = .ok (.bipush 117, 2) := by decide +kernel
theorem dX12_keyword_159 : decode cX12_keyword 159 = .ok (.bipush 116, 2) := by decide +kernel
theorem dX12_keyword_161 : decode cX12_keyword 161 = .ok (.bipush 115, 2) := by decide +kernel
theorem dX12_keyword_163 : decode cX12_keyword 163 = .ok (.iconst 0, 1) := by decide +kernel
theorem dX12_keyword_164 : decode cX12_keyword 164 = .ok (.invokestatic 91, 3) := by decide +kernel
theorem dX12_keyword_167 : decode cX12_keyword 167 = .ok (.ireturn, 1) := by decide +kernel
theorem dX12_readKind_0 : decode cX12_readKind 0 = .ok (.iconst 0, 1) := by decide +kernel
theorem dX12_readKind_1 : decode cX12_readKind 1 = .ok (.istore_n 1, 1) := by decide +kernel
theorem dX12_readKind_2 : decode cX12_readKind 2 = .ok (.iconst 0, 1) := by decide +kernel
theorem dX12_readKind_3 : decode cX12_readKind 3 = .ok (.istore_n 2, 1) := by decide +kernel
theorem dX12_readKind_4 : decode cX12_readKind 4 = .ok (.iconst 0, 1) := by decide +kernel
theorem dX12_readKind_5 : decode cX12_readKind 5 = .ok (.istore_n 3, 1) := by decide +kernel
theorem dX12_readKind_6 : decode cX12_readKind 6 = .ok (.iload_n 3, 1) := by decide +kernel
theorem dX12_readKind_7 : decode cX12_readKind 7 = .ok (.bipush 6, 2) := by decide +kernel
theorem dX12_readKind_9 : decode cX12_readKind 9 = .ok (.if_icmp .ge 152, 3) := by decide +kernel
theorem dX12_readKind_12 : decode cX12_readKind 12 = .ok (.iconst (-1), 1) := by decide +kernel
theorem dX12_readKind_13 : decode cX12_readKind 13 = .ok (.istore 4, 2) := by decide +kernel
theorem dX12_readKind_15 : decode cX12_readKind 15 = .ok (.iconst 0, 1) := by decide +kernel
theorem dX12_readKind_16 : decode cX12_readKind 16 = .ok (.istore 5, 2) := by decide +kernel
theorem dX12_readKind_18 : decode cX12_readKind 18 = .ok (.iload 5, 2) := by decide +kernel
theorem dX12_readKind_20 : decode cX12_readKind 20 = .ok (.bipush 9, 2) := by decide +kernel
theorem dX12_readKind_22 : decode cX12_readKind 22 = .ok (.if_icmp .ge 27, 3) := by decide +kernel
theorem dX12_readKind_25 : decode cX12_readKind 25 = .ok (.iload 5, 2) := by decide +kernel
theorem dX12_readKind_27 : decode cX12_readKind 27 = .ok (.invokestatic 95, 3) := by decide +kernel
theorem dX12_readKind_30 : decode cX12_readKind 30 = .ok (.iload_n 1, 1) := by decide +kernel
theorem dX12_readKind_31 : decode cX12_readKind 31 = .ok (.if_icmp .ne 8, 3) := by decide +kernel
theorem dX12_readKind_34 : decode cX12_readKind 34 = .ok (.iload 5, 2) := by decide +kernel
theorem dX12_readKind_36 : decode cX12_readKind 36 = .ok (.goto 5, 3) := by decide +kernel
theorem dX12_readKind_39 : decode cX12_readKind 39 = .ok (.iload 4, 2) := by decide +kernel
theorem dX12_readKind_41 : decode cX12_readKind 41 = .ok (.istore 4, 2) := by decide +kernel
theorem dX12_readKind_43 : decode cX12_readKind 43 = .ok (.iinc 5 1, 3) := by decide +kernel
theorem dX12_readKind_46 : decode cX12_readKind 46 = .ok (.goto (-28), 3) := by decide +kernel
theorem dX12_readKind_49 : decode cX12_readKind 49 = .ok (.iload 4, 2) := by decide +kernel
theorem dX12_readKind_51 : decode cX12_readKind 51 = .ok (.ifCond .lt 6, 3) := by decide +kernel
theorem dX12_readKind_54 : decode cX12_readKind 54 = .ok (.iload 4, 2) := by decide +kernel
theorem dX12_readKind_56 : decode cX12_readKind 56 = .ok (.ireturn, 1) := by decide +kernel
theorem dX12_readKind_57 : decode cX12_readKind 57 = .ok (.aload_n 0, 1) := by decide +kernel
theorem dX12_readKind_58 : decode cX12_readKind 58 = .ok (.invokevirtual 99, 3) := by decide +kernel
theorem dX12_readKind_61 : decode cX12_readKind 61 = .ok (.ifCond .ne 5, 3) := by decide +kernel
theorem dX12_readKind_64 : decode cX12_readKind 64 = .ok (.iconst (-1), 1) := by decide +kernel
theorem dX12_readKind_65 : decode cX12_readKind 65 = .ok (.ireturn, 1) := by decide +kernel
theorem dX12_readKind_66 : decode cX12_readKind 66 = .ok (.iload_n 1, 1) := by decide +kernel
theorem dX12_readKind_67 : decode cX12_readKind 67 = .ok (.aload_n 0, 1) := by decide +kernel
theorem dX12_readKind_68 : decode cX12_readKind 68 = .ok (.invokevirtual 87, 3) := by decide +kernel
theorem dX12_readKind_71 : decode cX12_readKind 71 = .ok (.bipush 96, 2) := by decide +kernel
theorem dX12_readKind_73 : decode cX12_readKind 73 = .ok (.isub, 1) := by decide +kernel
theorem dX12_readKind_74 : decode cX12_readKind 74 = .ok (.iconst 5, 1) := by decide +kernel
theorem dX12_readKind_75 : decode cX12_readKind 75 = .ok (.iload_n 2, 1) := by decide +kernel
theorem dX12_readKind_76 : decode cX12_readKind 76 = .ok (.imul, 1) := by decide +kernel
theorem dX12_readKind_77 : decode cX12_readKind 77 = .ok (.ishl, 1) := by decide +kernel
theorem dX12_readKind_78 : decode cX12_readKind 78 = .ok (.ior, 1) := by decide +kernel
theorem dX12_readKind_79 : decode cX12_readKind 79 = .ok (.istore 5, 2) := by decide +kernel
theorem dX12_readKind_81 : decode cX12_readKind 81 = .ok (.iconst 0, 1) := by decide +kernel
theorem dX12_readKind_82 : decode cX12_readKind 82 = .ok (.istore 6, 2) := by decide +kernel
theorem dX12_readKind_84 : decode cX12_readKind 84 = .ok (.iconst 0, 1) := by decide +kernel
theorem dX12_readKind_85 : decode cX12_readKind 85 = .ok (.istore 7, 2) := by decide +kernel
theorem dX12_readKind_87 : decode cX12_readKind 87 = .ok (.iload 7, 2) := by decide +kernel
theorem dX12_readKind_89 : decode cX12_readKind 89 = .ok (.bipush 9, 2) := by decide +kernel
theorem dX12_readKind_91 : decode cX12_readKind 91 = .ok (.if_icmp .ge 41, 3) := by decide +kernel
theorem dX12_readKind_94 : decode cX12_readKind 94 = .ok (.iload 6, 2) := by decide +kernel
theorem dX12_readKind_96 : decode cX12_readKind 96 = .ok (.ifCond .ne 23, 3) := by decide +kernel
theorem dX12_readKind_99 : decode cX12_readKind 99 = .ok (.iload 7, 2) := by decide +kernel
theorem dX12_readKind_101 : decode cX12_readKind 101 = .ok (.invokestatic 95, 3) := by decide +kernel
theorem dX12_readKind_104 : decode cX12_readKind 104 = .ok (.iconst 1, 1) := by decide +kernel
theorem dX12_readKind_105 : decode cX12_readKind 105 = .ok (.iconst 5, 1) := by decide +kernel
theorem dX12_readKind_106 : decode cX12_readKind 106 = .ok (.iload_n 2, 1) := by decide +kernel
theorem dX12_readKind_107 : decode cX12_readKind 107 = .ok (.imul, 1) := by decide +kernel
theorem dX12_readKind_108 : decode cX12_readKind 108 = .ok (.iconst 5, 1) := by decide +kernel
theorem dX12_readKind_109 : decode cX12_readKind 109 = .ok (.iadd, 1) := by decide +kernel
theorem dX12_readKind_110 : decode cX12_readKind 110 = .ok (.ishl, 1) := by decide +kernel
theorem dX12_readKind_111 : decode cX12_readKind 111 = .ok (.iconst 1, 1) := by decide +kernel
theorem dX12_readKind_112 : decode cX12_readKind 112 = .ok (.isub, 1) := by decide +kernel
theorem dX12_readKind_113 : decode cX12_readKind 113 = .ok (.iand, 1) := by decide +kernel
theorem dX12_readKind_114 : decode cX12_readKind 114 = .ok (.iload 5, 2) := by decide +kernel
theorem dX12_readKind_116 : decode cX12_readKind 116 = .ok (.if_icmp .ne 7, 3) := by decide +kernel
theorem dX12_readKind_119 : decode cX12_readKind 119 = .ok (.iconst 1, 1) := by decide +kernel
theorem dX12_readKind_120 : decode cX12_readKind 120 = .ok (.goto 4, 3) := by decide +kernel
theorem dX12_readKind_123 : decode cX12_readKind 123 = .ok (.iconst 0, 1) := by decide +kernel
theorem dX12_readKind_124 : decode cX12_readKind 124 = .ok (.istore 6, 2) := by decide +kernel
theorem dX12_readKind_126 : decode cX12_readKind 126 = .ok (.iinc 7 1, 3) := by decide +kernel
theorem dX12_readKind_129 : decode cX12_readKind 129 = .ok (.goto (-42), 3) := by decide +kernel
theorem dX12_readKind_132 : decode cX12_readKind 132 = .ok (.iload 6, 2) := by decide +kernel
theorem dX12_readKind_134 : decode cX12_readKind 134 = .ok (.ifCond .ne 5, 3) := by decide +kernel
theorem dX12_readKind_137 : decode cX12_readKind 137 = .ok (.iconst (-1), 1) := by decide +kernel
theorem dX12_readKind_138 : decode cX12_readKind 138 = .ok (.ireturn, 1) := by decide +kernel
theorem dX12_readKind_139 : decode cX12_readKind 139 = .ok (.iload 5, 2) := by decide +kernel
theorem dX12_readKind_141 : decode cX12_readKind 141 = .ok (.istore_n 1, 1) := by decide +kernel
theorem dX12_readKind_142 : decode cX12_readKind 142 = .ok (.iinc 2 1, 3) := by decide +kernel
theorem dX12_readKind_145 : decode cX12_readKind 145 = .ok (.aload_n 0, 1) := by decide +kernel
theorem dX12_readKind_146 : decode cX12_readKind 146 = .ok (.dup, 1) := by decide +kernel
theorem dX12_readKind_147 : decode cX12_readKind 147 = .ok (.getfield 84, 3) := by decide +kernel
theorem dX12_readKind_150 : decode cX12_readKind 150 = .ok (.iconst 1, 1) := by decide +kernel
theorem dX12_readKind_151 : decode cX12_readKind 151 = .ok (.iadd, 1) := by decide +kernel
theorem dX12_readKind_152 : decode cX12_readKind 152 = .ok (.putfield 84, 3) := by decide +kernel
theorem dX12_readKind_155 : decode cX12_readKind 155 = .ok (.iinc 3 1, 3) := by decide +kernel
theorem dX12_readKind_158 : decode cX12_readKind 158 = .ok (.goto (-152), 3) := by decide +kernel
theorem dX12_readKind_161 : decode cX12_readKind 161 = .ok (.iconst (-1), 1) := by decide +kernel
theorem dX12_readKind_162 : decode cX12_readKind 162 = .ok (.ireturn, 1) := by decide +kernel
theorem dX12_readName_0 : decode cX12_readName 0 = .ok (.aload_n 0, 1) := by decide +kernel
theorem dX12_readName_1 : decode cX12_readName 1 = .ok (.invokevirtual 87, 3) := by decide +kernel
theorem dX12_readName_4 : decode cX12_readName 4 = .ok (.bipush 32, 2) := by decide +kernel
theorem dX12_readName_6 : decode cX12_readName 6 = .ok (.if_icmp .eq 5, 3) := by decide +kernel
theorem dX12_readName_9 : decode cX12_readName 9 = .ok (.iconst 0, 1) := by decide +kernel
theorem dX12_readName_10 : decode cX12_readName 10 = .ok (.ireturn, 1) := by decide +kernel
theorem dX12_readName_11 : decode cX12_readName 11 = .ok (.aload_n 0, 1) := by decide +kernel
theorem dX12_readName_12 : decode cX12_readName 12 = .ok (.dup, 1) := by decide +kernel
theorem dX12_readName_13 : decode cX12_readName 13 = .ok (.getfield 84, 3) := by decide +kernel
theorem dX12_readName_16 : decode cX12_readName 16 = .ok (.iconst 1, 1) := by decide +kernel
theorem dX12_readName_17 : decode cX12_readName 17 = .ok (.iadd, 1) := by decide +kernel
theorem dX12_readName_18 : decode cX12_readName 18 = .ok (.putfield 84, 3) := by decide +kernel
theorem dX12_readName_21 : decode cX12_readName 21 = .ok (.iconst 0, 1) := by decide +kernel
theorem dX12_readName_22 : decode cX12_readName 22 = .ok (.istore_n 1, 1) := by decide +kernel
theorem dX12_readName_23 : decode cX12_readName 23 = .ok (.iconst 0, 1) := by decide +kernel
theorem dX12_readName_24 : decode cX12_readName 24 = .ok (.istore_n 2, 1) := by decide +kernel
theorem dX12_readName_25 : decode cX12_readName 25 = .ok (.iload_n 2, 1) := by decide +kernel
theorem dX12_readName_26 : decode cX12_readName 26 = .ok (.iconst 4, 1) := by decide +kernel
theorem dX12_readName_27 : decode cX12_readName 27 = .ok (.if_icmp .ge 40, 3) := by decide +kernel
theorem dX12_readName_30 : decode cX12_readName 30 = .ok (.aload_n 0, 1) := by decide +kernel
theorem dX12_readName_31 : decode cX12_readName 31 = .ok (.invokevirtual 99, 3) := by decide +kernel
theorem dX12_readName_34 : decode cX12_readName 34 = .ok (.ifCond .eq 33, 3) := by decide +kernel
theorem dX12_readName_37 : decode cX12_readName 37 = .ok (.iload_n 1, 1) := by decide +kernel
theorem dX12_readName_38 : decode cX12_readName 38 = .ok (.aload_n 0, 1) := by decide +kernel
theorem dX12_readName_39 : decode cX12_readName 39 = .ok (.invokevirtual 87, 3) := by decide +kernel
theorem dX12_readName_42 : decode cX12_readName 42 = .ok (.bipush 96, 2) := by decide +kernel
theorem dX12_readName_44 : decode cX12_readName 44 = .ok (.isub, 1) := by decide +kernel
theorem dX12_readName_45 : decode cX12_readName 45 = .ok (.iconst 5, 1) := by decide +kernel
theorem dX12_readName_46 : decode cX12_readName 46 = .ok (.iload_n 2, 1) := by decide +kernel
theorem dX12_readName_47 : decode cX12_readName 47 = .ok (.imul, 1) := by decide +kernel
theorem dX12_readName_48 : decode cX12_readName 48 = .ok (.ishl, 1) := by decide +kernel
theorem dX12_readName_49 : decode cX12_readName 49 = .ok (.ior, 1) := by decide +kernel
theorem dX12_readName_50 : decode cX12_readName 50 = .ok (.istore_n 1, 1) := by decide +kernel
theorem dX12_readName_51 : decode cX12_readName 51 = .ok (.iinc 2 1, 3) := by decide +kernel
theorem dX12_readName_54 : decode cX12_readName 54 = .ok (.aload_n 0, 1) := by decide +kernel
theorem dX12_readName_55 : decode cX12_readName 55 = .ok (.dup, 1) := by decide +kernel
theorem dX12_readName_56 : decode cX12_readName 56 = .ok (.getfield 84, 3) := by decide +kernel
theorem dX12_readName_59 : decode cX12_readName 59 = .ok (.iconst 1, 1) := by decide +kernel
theorem dX12_readName_60 : decode cX12_readName 60 = .ok (.iadd, 1) := by decide +kernel
theorem dX12_readName_61 : decode cX12_readName 61 = .ok (.putfield 84, 3) := by decide +kernel
theorem dX12_readName_64 : decode cX12_readName 64 = .ok (.goto (-39), 3) := by decide +kernel
theorem dX12_readName_67 : decode cX12_readName 67 = .ok (.iload_n 1, 1) := by decide +kernel
theorem dX12_readName_68 : decode cX12_readName 68 = .ok (.ireturn, 1) := by decide +kernel
theorem dX12_readNames_0 : decode cX12_readNames 0 = .ok (.iconst 0, 1) := by decide +kernel
theorem dX12_readNames_1 : decode cX12_readNames 1 = .ok (.istore 4, 2) := by decide +kernel
theorem dX12_readNames_3 : decode cX12_readNames 3 = .ok (.iload 4, 2) := by decide +kernel
theorem dX12_readNames_5 : decode cX12_readNames 5 = .ok (.iload_n 2, 1) := by decide +kernel
theorem dX12_readNames_6 : decode cX12_readNames 6 = .ok (.if_icmp .lt 20, 3) := by decide +kernel
theorem dX12_readNames_9 : decode cX12_readNames 9 = .ok (.iload 4, 2) := by decide +kernel
theorem dX12_readNames_11 : decode cX12_readNames 11 = .ok (.iload_n 3, 1) := by decide +kernel
theorem dX12_readNames_12 : decode cX12_readNames 12 = .ok (.if_icmp .ge 61, 3) := by decide +kernel
theorem dX12_readNames_15 : decode cX12_readNames 15 = .ok (.aload_n 0, 1) := by decide +kernel
theorem dX12_readNames_16 : decode cX12_readNames 16 = .ok (.getfield 84, 3) := by decide +kernel
theorem dX12_readNames_19 : decode cX12_readNames 19 = .ok (.aload_n 0, 1) := by decide +kernel
theorem dX12_readNames_20 : decode cX12_readNames 20 = .ok (.getfield 81, 3) := by decide +kernel
theorem dX12_readNames_23 : decode cX12_readNames 23 = .ok (.if_icmp .ge 50, 3) := by decide +kernel
theorem dX12_readNames_26 : decode cX12_readNames 26 = .ok (.aload_n 0, 1) := by decide +kernel
theorem dX12_readNames_27 : decode cX12_readNames 27 = .ok (.invokevirtual 103, 3) := by decide +kernel
theorem dX12_readNames_30 : decode cX12_readNames 30 = .ok (.istore 5, 2) := by decide +kernel
theorem dX12_readNames_32 : decode cX12_readNames 32 = .ok (.iload 5, 2) := by decide +kernel
theorem dX12_readNames_34 : decode cX12_readNames 34 = .ok (.ifCond .ne 5, 3) := by decide +kernel
theorem dX12_readNames_37 : decode cX12_readNames 37 = .ok (.iconst 0, 1) := by decide +kernel
theorem dX12_readNames_38 : decode cX12_readNames 38 = .ok (.ireturn, 1) := by decide +kernel
theorem dX12_readNames_39 : decode cX12_readNames 39 = .ok (.aload_n 0, 1) := by decide +kernel
theorem dX12_readNames_40 : decode cX12_readNames 40 = .ok (.getfield 24, 3) := by decide +kernel
theorem dX12_readNames_43 : decode cX12_readNames 43 = .ok (.bipush 10, 2) := by decide +kernel
theorem dX12_readNames_45 : decode cX12_readNames 45 = .ok (.iload_n 1, 1) := by decide +kernel
theorem dX12_readNames_46 : decode cX12_readNames 46 = .ok (.imul, 1) := by decide +kernel
theorem dX12_readNames_47 : decode cX12_readNames 47 = .ok (.aload_n 0, 1) := by decide +kernel
theorem dX12_readNames_48 : decode cX12_readNames 48 = .ok (.getfield 21, 3) := by decide +kernel
theorem dX12_readNames_51 : decode cX12_readNames 51 = .ok (.iload_n 1, 1) := by decide +kernel
theorem dX12_readNames_52 : decode cX12_readNames 52 = .ok (.iaload, 1) := by decide +kernel
theorem dX12_readNames_53 : decode cX12_readNames 53 = .ok (.iadd, 1) := by decide +kernel
theorem dX12_readNames_54 : decode cX12_readNames 54 = .ok (.iload 5, 2) := by decide +kernel
theorem dX12_readNames_56 : decode cX12_readNames 56 = .ok (.iastore, 1) := by decide +kernel
theorem dX12_readNames_57 : decode cX12_readNames 57 = .ok (.aload_n 0, 1) := by decide +kernel
theorem dX12_readNames_58 : decode cX12_readNames 58 = .ok (.getfield 21, 3) := by decide +kernel
theorem dX12_readNames_61 : decode cX12_readNames 61 = .ok (.iload_n 1, 1) := by decide +kernel
theorem dX12_readNames_62 : decode cX12_readNames 62 = .ok (.dup2, 1) := by decide +kernel
theorem dX12_readNames_63 : decode cX12_readNames 63 = .ok (.iaload, 1) := by decide +kernel
theorem dX12_readNames_64 : decode cX12_readNames 64 = .ok (.iconst 1, 1) := by decide +kernel
theorem dX12_readNames_65 : decode cX12_readNames 65 = .ok (.iadd, 1) := by decide +kernel
theorem dX12_readNames_66 : decode cX12_readNames 66 = .ok (.iastore, 1) := by decide +kernel
theorem dX12_readNames_67 : decode cX12_readNames 67 = .ok (.iinc 4 1, 3) := by decide +kernel
theorem dX12_readNames_70 : decode cX12_readNames 70 = .ok (.goto (-67), 3) := by decide +kernel
theorem dX12_readNames_73 : decode cX12_readNames 73 = .ok (.iconst 1, 1) := by decide +kernel
theorem dX12_readNames_74 : decode cX12_readNames 74 = .ok (.ireturn, 1) := by decide +kernel
theorem dX12_readStatement_0 : decode cX12_readStatement 0 = .ok (.aload_n 0, 1) := by decide +kernel
theorem dX12_readStatement_1 : decode cX12_readStatement 1 = .ok (.iconst 0, 1) := by decide +kernel
theorem dX12_readStatement_2 : decode cX12_readStatement 2 = .ok (.putfield 84, 3) := by decide +kernel
theorem dX12_readStatement_5 : decode cX12_readStatement 5 = .ok (.aload_n 0, 1) := by decide +kernel
theorem dX12_readStatement_6 : decode cX12_readStatement 6 = .ok (.getfield 107, 3) := by decide +kernel
theorem dX12_readStatement_9 : decode cX12_readStatement 9 = .ok (.istore_n 1, 1) := by decide +kernel
theorem dX12_readStatement_10 : decode cX12_readStatement 10 = .ok (.aload_n 0, 1) := by decide +kernel
theorem dX12_readStatement_11 : decode cX12_readStatement 11 = .ok (.invokevirtual 110, 3) := by decide +kernel
theorem dX12_readStatement_14 : decode cX12_readStatement 14 = .ok (.istore_n 2, 1) := by decide +kernel
theorem dX12_readStatement_15 : decode cX12_readStatement 15 = .ok (.iload_n 2, 1) := by decide +kernel
theorem dX12_readStatement_16 : decode cX12_readStatement 16 = .ok (.ifCond .ge 5, 3) := by decide +kernel
theorem dX12_readStatement_19 : decode cX12_readStatement 19 = .ok (.iconst 0, 1) := by decide +kernel
theorem dX12_readStatement_20 : decode cX12_readStatement 20 = .ok (.ireturn, 1) := by decide +kernel
theorem dX12_readStatement_21 : decode cX12_readStatement 21 = .ok (.aload_n 0, 1) := by decide +kernel
theorem dX12_readStatement_22 : decode cX12_readStatement 22 = .ok (.getfield 17, 3) := by decide +kernel
theorem dX12_readStatement_25 : decode cX12_readStatement 25 = .ok (.iload_n 1, 1) := by decide +kernel
theorem dX12_readStatement_26 : decode cX12_readStatement 26 = .ok (.iload_n 2, 1) := by decide +kernel
theorem dX12_readStatement_27 : decode cX12_readStatement 27 = .ok (.iastore, 1) := by decide +kernel
theorem dX12_readStatement_28 : decode cX12_readStatement 28 = .ok (.aload_n 0, 1) := by decide +kernel
theorem dX12_readStatement_29 : decode cX12_readStatement 29 = .ok (.getfield 21, 3) := by decide +kernel
theorem dX12_readStatement_32 : decode cX12_readStatement 32 = .ok (.iload_n 1, 1) := by decide +kernel
theorem dX12_readStatement_33 : decode cX12_readStatement 33 = .ok (.iconst 0, 1) := by decide +kernel
theorem dX12_readStatement_34 : decode cX12_readStatement 34 = .ok (.iastore, 1) := by decide +kernel
theorem dX12_readStatement_35 : decode cX12_readStatement 35 = .ok (.aload_n 0, 1) := by decide +kernel
theorem dX12_readStatement_36 : decode cX12_readStatement 36 = .ok (.getfield 27, 3) := by decide +kernel
theorem dX12_readStatement_39 : decode cX12_readStatement 39 = .ok (.iload_n 1, 1) := by decide +kernel
theorem dX12_readStatement_40 : decode cX12_readStatement 40 = .ok (.iconst 0, 1) := by decide +kernel
theorem dX12_readStatement_41 : decode cX12_readStatement 41 = .ok (.iastore, 1) := by decide +kernel
theorem dX12_readStatement_42 : decode cX12_readStatement 42 = .ok (.iconst 1, 1) := by decide +kernel
theorem dX12_readStatement_43 : decode cX12_readStatement 43 = .ok (.istore_n 3, 1) := by decide +kernel
theorem dX12_readStatement_44 : decode cX12_readStatement 44 = .ok (.iload_n 2, 1) := by decide +kernel
theorem dX12_readStatement_45 : decode cX12_readStatement 45 = .ok (.ifCond .eq 15, 3) := by decide +kernel
theorem dX12_readStatement_48 : decode cX12_readStatement 48 = .ok (.iload_n 2, 1) := by decide +kernel
theorem dX12_readStatement_49 : decode cX12_readStatement 49 = .ok (.bipush 7, 2) := by decide +kernel
theorem dX12_readStatement_51 : decode cX12_readStatement 51 = .ok (.if_icmp .eq 9, 3) := by decide +kernel
theorem dX12_readStatement_54 : decode cX12_readStatement 54 = .ok (.iload_n 2, 1) := by decide +kernel
theorem dX12_readStatement_55 : decode cX12_readStatement 55 = .ok (.bipush 8, 2) := by decide +kernel
theorem dX12_readStatement_57 : decode cX12_readStatement 57 = .ok (.if_icmp .ne 15, 3) := by decide +kernel
theorem dX12_readStatement_60 : decode cX12_readStatement 60 = .ok (.aload_n 0, 1) := by decide +kernel
theorem dX12_readStatement_61 : decode cX12_readStatement 61 = .ok (.iload_n 1, 1) := by decide +kernel
theorem dX12_readStatement_62 : decode cX12_readStatement 62 = .ok (.iconst 2, 1) := by decide +kernel
theorem dX12_readStatement_63 : decode cX12_readStatement 63 = .ok (.bipush 7, 2) := by decide +kernel
theorem dX12_readStatement_65 : decode cX12_readStatement 65 = .ok (.invokevirtual 113, 3) := by decide +kernel
theorem dX12_readStatement_68 : decode cX12_readStatement 68 = .ok (.istore_n 3, 1) := by decide +kernel
theorem dX12_readStatement_69 : decode cX12_readStatement 69 = .ok (.goto 98, 3) := by decide +kernel
theorem dX12_readStatement_72 : decode cX12_readStatement 72 = .ok (.iload_n 2, 1) := by decide +kernel
theorem dX12_readStatement_73 : decode cX12_readStatement 73 = .ok (.iconst 1, 1) := by decide +kernel
theorem dX12_readStatement_74 : decode cX12_readStatement 74 = .ok (.if_icmp .ne 14, 3) := by decide +kernel
theorem dX12_readStatement_77 : decode cX12_readStatement 77 = .ok (.aload_n 0, 1) := by decide +kernel
theorem dX12_readStatement_78 : decode cX12_readStatement 78 = .ok (.iload_n 1, 1) := by decide +kernel
theorem dX12_readStatement_79 : decode cX12_readStatement 79 = .ok (.iconst 1, 1) := by decide +kernel
theorem dX12_readStatement_80 : decode cX12_readStatement 80 = .ok (.iconst 5, 1) := by decide +kernel
theorem dX12_readStatement_81 : decode cX12_readStatement 81 = .ok (.invokevirtual 113, 3) := by decide +kernel
theorem dX12_readStatement_84 : decode cX12_readStatement 84 = .ok (.istore_n 3, 1) := by decide +kernel
theorem dX12_readStatement_85 : decode cX12_readStatement 85 = .ok (.goto 82, 3) := by decide +kernel
theorem dX12_readStatement_88 : decode cX12_readStatement 88 = .ok (.iload_n 2, 1) := by decide +kernel
theorem dX12_readStatement_89 : decode cX12_readStatement 89 = .ok (.iconst 2, 1) := by decide +kernel
theorem dX12_readStatement_90 : decode cX12_readStatement 90 = .ok (.if_icmp .eq 8, 3) := by decide +kernel
theorem dX12_readStatement_93 : decode cX12_readStatement 93 = .ok (.iload_n 2, 1) := by decide +kernel
theorem dX12_readStatement_94 : decode cX12_readStatement 94 = .ok (.iconst 3, 1) := by decide +kernel
theorem dX12_readStatement_95 : decode cX12_readStatement 95 = .ok (.if_icmp .ne 15, 3) := by decide +kernel
theorem dX12_readStatement_98 : decode cX12_readStatement 98 = .ok (.aload_n 0, 1) := by decide +kernel
theorem dX12_readStatement_99 : decode cX12_readStatement 99 = .ok (.iload_n 1, 1) := by decide +kernel
theorem dX12_readStatement_100 : decode cX12_readStatement 100 = .ok (.iconst 4, 1) := by decide +kernel
theorem dX12_readStatement_101 : decode cX12_readStatement 101 = .ok (.bipush 9, 2) := by decide +kernel
theorem dX12_readStatement_103 : decode cX12_readStatement 103 = .ok (.invokevirtual 113, 3) := by decide +kernel
theorem dX12_readStatement_106 : decode cX12_readStatement 106 = .ok (.istore_n 3, 1) := by decide +kernel
theorem dX12_readStatement_107 : decode cX12_readStatement 107 = .ok (.goto 60, 3) := by decide +kernel
theorem dX12_readStatement_110 : decode cX12_readStatement 110 = .ok (.iload_n 2, 1) := by decide +kernel
theorem dX12_readStatement_111 : decode cX12_readStatement 111 = .ok (.iconst 4, 1) := by decide +kernel
theorem dX12_readStatement_112 : decode cX12_readStatement 112 = .ok (.if_icmp .ne 14, 3) := by decide +kernel
theorem dX12_readStatement_115 : decode cX12_readStatement 115 = .ok (.aload_n 0, 1) := by decide +kernel
end
section
theorem dX12_readStatement_116 : decode cX12_readStatement 116 = .ok (.iload_n 1, 1) := by decide +kernel
theorem dX12_readStatement_117 : decode cX12_readStatement 117 = .ok (.iconst 4, 1) := by decide +kernel
theorem dX12_readStatement_118 : decode cX12_readStatement 118 = .ok (.iconst 4, 1) := by decide +kernel
theorem dX12_readStatement_119 : decode cX12_readStatement 119 = .ok (.invokevirtual 113, 3) := by decide +kernel
theorem dX12_readStatement_122 : decode cX12_readStatement 122 = .ok (.istore_n 3, 1) := by decide +kernel
theorem dX12_readStatement_123 : decode cX12_readStatement 123 = .ok (.goto 44, 3) := by decide +kernel
theorem dX12_readStatement_126 : decode cX12_readStatement 126 = .ok (.aload_n 0, 1) := by decide +kernel
theorem dX12_readStatement_127 : decode cX12_readStatement 127 = .ok (.iload_n 1, 1) := by decide +kernel
theorem dX12_readStatement_128 : decode cX12_readStatement 128 = .ok (.iconst 1, 1) := by decide +kernel
theorem dX12_readStatement_129 : decode cX12_readStatement 129 = .ok (.iconst 1, 1) := by decide +kernel
theorem dX12_readStatement_130 : decode cX12_readStatement 130 = .ok (.invokevirtual 113, 3) := by decide +kernel
theorem dX12_readStatement_133 : decode cX12_readStatement 133 = .ok (.ifCond .eq 32, 3) := by decide +kernel
theorem dX12_readStatement_136 : decode cX12_readStatement 136 = .ok (.aload_n 0, 1) := by decide +kernel
theorem dX12_readStatement_137 : decode cX12_readStatement 137 = .ok (.iload_n 1, 1) := by decide +kernel
theorem dX12_readStatement_138 : decode cX12_readStatement 138 = .ok (.iload_n 2, 1) := by decide +kernel
theorem dX12_readStatement_139 : decode cX12_readStatement 139 = .ok (.invokevirtual 117, 3) := by decide +kernel
theorem dX12_readStatement_142 : decode cX12_readStatement 142 = .ok (.ifCond .eq 23, 3) := by decide +kernel
theorem dX12_readStatement_145 : decode cX12_readStatement 145 = .ok (.iload_n 2, 1) := by decide +kernel
theorem dX12_readStatement_146 : decode cX12_readStatement 146 = .ok (.iconst 5, 1) := by decide +kernel
theorem dX12_readStatement_147 : decode cX12_readStatement 147 = .ok (.if_icmp .eq 14, 3) := by decide +kernel
theorem dX12_readStatement_150 : decode cX12_readStatement 150 = .ok (.aload_n 0, 1) := by decide +kernel
theorem dX12_readStatement_151 : decode cX12_readStatement 151 = .ok (.iload_n 1, 1) := by decide +kernel
theorem dX12_readStatement_152 : decode cX12_readStatement 152 = .ok (.iconst 1, 1) := by decide +kernel
theorem dX12_readStatement_153 : decode cX12_readStatement 153 = .ok (.bipush 6, 2) := by decide +kernel
theorem dX12_readStatement_155 : decode cX12_readStatement 155 = .ok (.invokevirtual 113, 3) := by decide +kernel
theorem dX12_readStatement_158 : decode cX12_readStatement 158 = .ok (.ifCond .eq 7, 3) := by decide +kernel
theorem dX12_readStatement_161 : decode cX12_readStatement 161 = .ok (.iconst 1, 1) := by decide +kernel
theorem dX12_readStatement_162 : decode cX12_readStatement 162 = .ok (.goto 4, 3) := by decide +kernel
theorem dX12_readStatement_165 : decode cX12_readStatement 165 = .ok (.iconst 0, 1) := by decide +kernel
theorem dX12_readStatement_166 : decode cX12_readStatement 166 = .ok (.istore_n 3, 1) := by decide +kernel
theorem dX12_readStatement_167 : decode cX12_readStatement 167 = .ok (.iload_n 3, 1) := by decide +kernel
theorem dX12_readStatement_168 : decode cX12_readStatement 168 = .ok (.ifCond .eq 18, 3) := by decide +kernel
theorem dX12_readStatement_171 : decode cX12_readStatement 171 = .ok (.aload_n 0, 1) := by decide +kernel
theorem dX12_readStatement_172 : decode cX12_readStatement 172 = .ok (.getfield 84, 3) := by decide +kernel
theorem dX12_readStatement_175 : decode cX12_readStatement 175 = .ok (.aload_n 0, 1) := by decide +kernel
theorem dX12_readStatement_176 : decode cX12_readStatement 176 = .ok (.getfield 81, 3) := by decide +kernel
theorem dX12_readStatement_179 : decode cX12_readStatement 179 = .ok (.if_icmp .ne 7, 3) := by decide +kernel
theorem dX12_readStatement_182 : decode cX12_readStatement 182 = .ok (.iconst 1, 1) := by decide +kernel
theorem dX12_readStatement_183 : decode cX12_readStatement 183 = .ok (.goto 4, 3) := by decide +kernel
theorem dX12_readStatement_186 : decode cX12_readStatement 186 = .ok (.iconst 0, 1) := by decide +kernel
theorem dX12_readStatement_187 : decode cX12_readStatement 187 = .ok (.ireturn, 1) := by decide +kernel
theorem dX12_readExtra_0 : decode cX12_readExtra 0 = .ok (.aload_n 0, 1) := by decide +kernel
theorem dX12_readExtra_1 : decode cX12_readExtra 1 = .ok (.invokevirtual 87, 3) := by decide +kernel
theorem dX12_readExtra_4 : decode cX12_readExtra 4 = .ok (.bipush 32, 2) := by decide +kernel
theorem dX12_readExtra_6 : decode cX12_readExtra 6 = .ok (.if_icmp .eq 5, 3) := by decide +kernel
theorem dX12_readExtra_9 : decode cX12_readExtra 9 = .ok (.iconst 0, 1) := by decide +kernel
theorem dX12_readExtra_10 : decode cX12_readExtra 10 = .ok (.ireturn, 1) := by decide +kernel
theorem dX12_readExtra_11 : decode cX12_readExtra 11 = .ok (.aload_n 0, 1) := by decide +kernel
theorem dX12_readExtra_12 : decode cX12_readExtra 12 = .ok (.dup, 1) := by decide +kernel
theorem dX12_readExtra_13 : decode cX12_readExtra 13 = .ok (.getfield 84, 3) := by decide +kernel
theorem dX12_readExtra_16 : decode cX12_readExtra 16 = .ok (.iconst 1, 1) := by decide +kernel
theorem dX12_readExtra_17 : decode cX12_readExtra 17 = .ok (.iadd, 1) := by decide +kernel
theorem dX12_readExtra_18 : decode cX12_readExtra 18 = .ok (.putfield 84, 3) := by decide +kernel
theorem dX12_readExtra_21 : decode cX12_readExtra 21 = .ok (.aload_n 0, 1) := by decide +kernel
theorem dX12_readExtra_22 : decode cX12_readExtra 22 = .ok (.invokevirtual 87, 3) := by decide +kernel
theorem dX12_readExtra_25 : decode cX12_readExtra 25 = .ok (.istore_n 3, 1) := by decide +kernel
theorem dX12_readExtra_26 : decode cX12_readExtra 26 = .ok (.iload_n 2, 1) := by decide +kernel
theorem dX12_readExtra_27 : decode cX12_readExtra 27 = .ok (.iconst 5, 1) := by decide +kernel
theorem dX12_readExtra_28 : decode cX12_readExtra 28 = .ok (.if_icmp .ne 23, 3) := by decide +kernel
theorem dX12_readExtra_31 : decode cX12_readExtra 31 = .ok (.iload_n 3, 1) := by decide +kernel
theorem dX12_readExtra_32 : decode cX12_readExtra 32 = .ok (.bipush 48, 2) := by decide +kernel
theorem dX12_readExtra_34 : decode cX12_readExtra 34 = .ok (.if_icmp .lt 13, 3) := by decide +kernel
theorem dX12_readExtra_37 : decode cX12_readExtra 37 = .ok (.iload_n 3, 1) := by decide +kernel
theorem dX12_readExtra_38 : decode cX12_readExtra 38 = .ok (.bipush 55, 2) := by decide +kernel
theorem dX12_readExtra_40 : decode cX12_readExtra 40 = .ok (.if_icmp .gt 7, 3) := by decide +kernel
theorem dX12_readExtra_43 : decode cX12_readExtra 43 = .ok (.iconst 1, 1) := by decide +kernel
theorem dX12_readExtra_44 : decode cX12_readExtra 44 = .ok (.goto 30, 3) := by decide +kernel
theorem dX12_readExtra_47 : decode cX12_readExtra 47 = .ok (.iconst 0, 1) := by decide +kernel
theorem dX12_readExtra_48 : decode cX12_readExtra 48 = .ok (.goto 26, 3) := by decide +kernel
theorem dX12_readExtra_51 : decode cX12_readExtra 51 = .ok (.iload_n 3, 1) := by decide +kernel
theorem dX12_readExtra_52 : decode cX12_readExtra 52 = .ok (.bipush 62, 2) := by decide +kernel
theorem dX12_readExtra_54 : decode cX12_readExtra 54 = .ok (.if_icmp .eq 15, 3) := by decide +kernel
theorem dX12_readExtra_57 : decode cX12_readExtra 57 = .ok (.iload_n 3, 1) := by decide +kernel
theorem dX12_readExtra_58 : decode cX12_readExtra 58 = .ok (.bipush 61, 2) := by decide +kernel
theorem dX12_readExtra_60 : decode cX12_readExtra 60 = .ok (.if_icmp .eq 9, 3) := by decide +kernel
theorem dX12_readExtra_63 : decode cX12_readExtra 63 = .ok (.iload_n 3, 1) := by decide +kernel
theorem dX12_readExtra_64 : decode cX12_readExtra 64 = .ok (.bipush 60, 2) := by decide +kernel
theorem dX12_readExtra_66 : decode cX12_readExtra 66 = .ok (.if_icmp .ne 7, 3) := by decide +kernel
theorem dX12_readExtra_69 : decode cX12_readExtra 69 = .ok (.iconst 1, 1) := by decide +kernel
theorem dX12_readExtra_70 : decode cX12_readExtra 70 = .ok (.goto 4, 3) := by decide +kernel
theorem dX12_readExtra_73 : decode cX12_readExtra 73 = .ok (.iconst 0, 1) := by decide +kernel
theorem dX12_readExtra_74 : decode cX12_readExtra 74 = .ok (.istore 4, 2) := by decide +kernel
theorem dX12_readExtra_76 : decode cX12_readExtra 76 = .ok (.aload_n 0, 1) := by decide +kernel
theorem dX12_readExtra_77 : decode cX12_readExtra 77 = .ok (.getfield 27, 3) := by decide +kernel
theorem dX12_readExtra_80 : decode cX12_readExtra 80 = .ok (.iload_n 1, 1) := by decide +kernel
theorem dX12_readExtra_81 : decode cX12_readExtra 81 = .ok (.iload_n 2, 1) := by decide +kernel
theorem dX12_readExtra_82 : decode cX12_readExtra 82 = .ok (.iconst 5, 1) := by decide +kernel
theorem dX12_readExtra_83 : decode cX12_readExtra 83 = .ok (.if_icmp .ne 10, 3) := by decide +kernel
theorem dX12_readExtra_86 : decode cX12_readExtra 86 = .ok (.iload_n 3, 1) := by decide +kernel
theorem dX12_readExtra_87 : decode cX12_readExtra 87 = .ok (.bipush 48, 2) := by decide +kernel
theorem dX12_readExtra_89 : decode cX12_readExtra 89 = .ok (.isub, 1) := by decide +kernel
theorem dX12_readExtra_90 : decode cX12_readExtra 90 = .ok (.goto 24, 3) := by decide +kernel
theorem dX12_readExtra_93 : decode cX12_readExtra 93 = .ok (.iload_n 3, 1) := by decide +kernel
theorem dX12_readExtra_94 : decode cX12_readExtra 94 = .ok (.bipush 62, 2) := by decide +kernel
theorem dX12_readExtra_96 : decode cX12_readExtra 96 = .ok (.if_icmp .ne 7, 3) := by decide +kernel
theorem dX12_readExtra_99 : decode cX12_readExtra 99 = .ok (.iconst 0, 1) := by decide +kernel
theorem dX12_readExtra_100 : decode cX12_readExtra 100 = .ok (.goto 14, 3) := by decide +kernel
theorem dX12_readExtra_103 : decode cX12_readExtra 103 = .ok (.iload_n 3, 1) := by decide +kernel
theorem dX12_readExtra_104 : decode cX12_readExtra 104 = .ok (.bipush 61, 2) := by decide +kernel
theorem dX12_readExtra_106 : decode cX12_readExtra 106 = .ok (.if_icmp .ne 7, 3) := by decide +kernel
theorem dX12_readExtra_109 : decode cX12_readExtra 109 = .ok (.iconst 1, 1) := by decide +kernel
theorem dX12_readExtra_110 : decode cX12_readExtra 110 = .ok (.goto 4, 3) := by decide +kernel
theorem dX12_readExtra_113 : decode cX12_readExtra 113 = .ok (.iconst 2, 1) := by decide +kernel
theorem dX12_readExtra_114 : decode cX12_readExtra 114 = .ok (.iastore, 1) := by decide +kernel
theorem dX12_readExtra_115 : decode cX12_readExtra 115 = .ok (.aload_n 0, 1) := by decide +kernel
theorem dX12_readExtra_116 : decode cX12_readExtra 116 = .ok (.iload 4, 2) := by decide +kernel
theorem dX12_readExtra_118 : decode cX12_readExtra 118 = .ok (.ifCond .eq 12, 3) := by decide +kernel
theorem dX12_readExtra_121 : decode cX12_readExtra 121 = .ok (.aload_n 0, 1) := by decide +kernel
theorem dX12_readExtra_122 : decode cX12_readExtra 122 = .ok (.getfield 84, 3) := by decide +kernel
theorem dX12_readExtra_125 : decode cX12_readExtra 125 = .ok (.iconst 1, 1) := by decide +kernel
theorem dX12_readExtra_126 : decode cX12_readExtra 126 = .ok (.iadd, 1) := by decide +kernel
theorem dX12_readExtra_127 : decode cX12_readExtra 127 = .ok (.goto 7, 3) := by decide +kernel
theorem dX12_readExtra_130 : decode cX12_readExtra 130 = .ok (.aload_n 0, 1) := by decide +kernel
theorem dX12_readExtra_131 : decode cX12_readExtra 131 = .ok (.getfield 84, 3) := by decide +kernel
theorem dX12_readExtra_134 : decode cX12_readExtra 134 = .ok (.putfield 84, 3) := by decide +kernel
theorem dX12_readExtra_137 : decode cX12_readExtra 137 = .ok (.iload 4, 2) := by decide +kernel
theorem dX12_readExtra_139 : decode cX12_readExtra 139 = .ok (.ireturn, 1) := by decide +kernel
theorem dX12_add_0 : decode cX12_add 0 = .ok (.aload_n 0, 1) := by decide +kernel
theorem dX12_add_1 : decode cX12_add 1 = .ok (.invokevirtual 121, 3) := by decide +kernel
theorem dX12_add_4 : decode cX12_add 4 = .ok (.istore_n 1, 1) := by decide +kernel
theorem dX12_add_5 : decode cX12_add 5 = .ok (.aload_n 0, 1) := by decide +kernel
theorem dX12_add_6 : decode cX12_add 6 = .ok (.iload_n 1, 1) := by decide +kernel
theorem dX12_add_7 : decode cX12_add 7 = .ok (.ifCond .eq 7, 3) := by decide +kernel
theorem dX12_add_10 : decode cX12_add 10 = .ok (.iconst (-1), 1) := by decide +kernel
theorem dX12_add_11 : decode cX12_add 11 = .ok (.goto 7, 3) := by decide +kernel
theorem dX12_add_14 : decode cX12_add 14 = .ok (.aload_n 0, 1) := by decide +kernel
theorem dX12_add_15 : decode cX12_add 15 = .ok (.getfield 84, 3) := by decide +kernel
theorem dX12_add_18 : decode cX12_add 18 = .ok (.putfield 13, 3) := by decide +kernel
theorem dX12_add_21 : decode cX12_add 21 = .ok (.aload_n 0, 1) := by decide +kernel
theorem dX12_add_22 : decode cX12_add 22 = .ok (.iload_n 1, 1) := by decide +kernel
theorem dX12_add_23 : decode cX12_add 23 = .ok (.ifCond .ne 7, 3) := by decide +kernel
theorem dX12_add_26 : decode cX12_add 26 = .ok (.iconst 1, 1) := by decide +kernel
theorem dX12_add_27 : decode cX12_add 27 = .ok (.goto 17, 3) := by decide +kernel
theorem dX12_add_30 : decode cX12_add 30 = .ok (.aload_n 0, 1) := by decide +kernel
theorem dX12_add_31 : decode cX12_add 31 = .ok (.getfield 107, 3) := by decide +kernel
theorem dX12_add_34 : decode cX12_add 34 = .ok (.bipush 40, 2) := by decide +kernel
theorem dX12_add_36 : decode cX12_add 36 = .ok (.if_icmp .ne 7, 3) := by decide +kernel
theorem dX12_add_39 : decode cX12_add 39 = .ok (.iconst 2, 1) := by decide +kernel
theorem dX12_add_40 : decode cX12_add 40 = .ok (.goto 4, 3) := by decide +kernel
theorem dX12_add_43 : decode cX12_add 43 = .ok (.iconst 0, 1) := by decide +kernel
theorem dX12_add_44 : decode cX12_add 44 = .ok (.putfield 76, 3) := by decide +kernel
theorem dX12_add_47 : decode cX12_add 47 = .ok (.aload_n 0, 1) := by decide +kernel
theorem dX12_add_48 : decode cX12_add 48 = .ok (.iconst 0, 1) := by decide +kernel
theorem dX12_add_49 : decode cX12_add 49 = .ok (.putfield 81, 3) := by decide +kernel
theorem dX12_add_52 : decode cX12_add 52 = .ok (.aload_n 0, 1) := by decide +kernel
theorem dX12_add_53 : decode cX12_add 53 = .ok (.getfield 76, 3) := by decide +kernel
theorem dX12_add_56 : decode cX12_add 56 = .ok (.ifCond .le 5, 3) := by decide +kernel
theorem dX12_add_59 : decode cX12_add 59 = .ok (.iconst 0, 1) := by decide +kernel
theorem dX12_add_60 : decode cX12_add 60 = .ok (.ireturn, 1) := by decide +kernel
theorem dX12_add_61 : decode cX12_add 61 = .ok (.aload_n 0, 1) := by decide +kernel
theorem dX12_add_62 : decode cX12_add 62 = .ok (.dup, 1) := by decide +kernel
theorem dX12_add_63 : decode cX12_add 63 = .ok (.getfield 107, 3) := by decide +kernel
theorem dX12_add_66 : decode cX12_add 66 = .ok (.iconst 1, 1) := by decide +kernel
theorem dX12_add_67 : decode cX12_add 67 = .ok (.iadd, 1) := by decide +kernel
theorem dX12_add_68 : decode cX12_add 68 = .ok (.putfield 107, 3) := by decide +kernel
theorem dX12_add_71 : decode cX12_add 71 = .ok (.aload_n 0, 1) := by decide +kernel
theorem dX12_add_72 : decode cX12_add 72 = .ok (.getfield 107, 3) := by decide +kernel
theorem dX12_add_75 : decode cX12_add 75 = .ok (.iconst 1, 1) := by decide +kernel
theorem dX12_add_76 : decode cX12_add 76 = .ok (.isub, 1) := by decide +kernel
theorem dX12_add_77 : decode cX12_add 77 = .ok (.ireturn, 1) := by decide +kernel
theorem dX12_position_0 : decode cX12_position 0 = .ok (.aload_n 0, 1) := by decide +kernel
theorem dX12_position_1 : decode cX12_position 1 = .ok (.iconst 0, 1) := by decide +kernel
theorem dX12_position_2 : decode cX12_position 2 = .ok (.putfield 76, 3) := by decide +kernel
theorem dX12_position_5 : decode cX12_position 5 = .ok (.aload_n 0, 1) := by decide +kernel
theorem dX12_position_6 : decode cX12_position 6 = .ok (.getfield 13, 3) := by decide +kernel
theorem dX12_position_9 : decode cX12_position 9 = .ok (.ireturn, 1) := by decide +kernel
theorem dX12_cut_0 : decode cX12_cut 0 = .ok (.aload_n 0, 1) := by decide +kernel
theorem dX12_cut_1 : decode cX12_cut 1 = .ok (.iconst 0, 1) := by decide +kernel
theorem dX12_cut_2 : decode cX12_cut 2 = .ok (.putfield 76, 3) := by decide +kernel
theorem dX12_cut_5 : decode cX12_cut 5 = .ok (.iload_n 1, 1) := by decide +kernel
theorem dX12_cut_6 : decode cX12_cut 6 = .ok (.ifCond .lt 11, 3) := by decide +kernel
theorem dX12_cut_9 : decode cX12_cut 9 = .ok (.iload_n 1, 1) := by decide +kernel
theorem dX12_cut_10 : decode cX12_cut 10 = .ok (.aload_n 0, 1) := by decide +kernel
theorem dX12_cut_11 : decode cX12_cut 11 = .ok (.getfield 107, 3) := by decide +kernel
theorem dX12_cut_14 : decode cX12_cut 14 = .ok (.if_icmp .le 5, 3) := by decide +kernel
theorem dX12_cut_17 : decode cX12_cut 17 = .ok (.iconst 0, 1) := by decide +kernel
theorem dX12_cut_18 : decode cX12_cut 18 = .ok (.ireturn, 1) := by decide +kernel
theorem dX12_cut_19 : decode cX12_cut 19 = .ok (.aload_n 0, 1) := by decide +kernel
theorem dX12_cut_20 : decode cX12_cut 20 = .ok (.iload_n 1, 1) := by decide +kernel
theorem dX12_cut_21 : decode cX12_cut 21 = .ok (.putfield 107, 3) := by decide +kernel
theorem dX12_cut_24 : decode cX12_cut 24 = .ok (.iconst 1, 1) := by decide +kernel
theorem dX12_cut_25 : decode cX12_cut 25 = .ok (.ireturn, 1) := by decide +kernel
theorem dX12_nameAt_0 : decode cX12_nameAt 0 = .ok (.aload_n 0, 1) := by decide +kernel
theorem dX12_nameAt_1 : decode cX12_nameAt 1 = .ok (.getfield 24, 3) := by decide +kernel
theorem dX12_nameAt_4 : decode cX12_nameAt 4 = .ok (.bipush 10, 2) := by decide +kernel
theorem dX12_nameAt_6 : decode cX12_nameAt 6 = .ok (.iload_n 1, 1) := by decide +kernel
theorem dX12_nameAt_7 : decode cX12_nameAt 7 = .ok (.imul, 1) := by decide +kernel
theorem dX12_nameAt_8 : decode cX12_nameAt 8 = .ok (.iload_n 2, 1) := by decide +kernel
theorem dX12_nameAt_9 : decode cX12_nameAt 9 = .ok (.iadd, 1) := by decide +kernel
theorem dX12_nameAt_10 : decode cX12_nameAt 10 = .ok (.iaload, 1) := by decide +kernel
theorem dX12_nameAt_11 : decode cX12_nameAt 11 = .ok (.ireturn, 1) := by decide +kernel
theorem dX12_before_0 : decode cX12_before 0 = .ok (.iconst 0, 1) := by decide +kernel
theorem dX12_before_1 : decode cX12_before 1 = .ok (.istore 4, 2) := by decide +kernel
theorem dX12_before_3 : decode cX12_before 3 = .ok (.iconst 0, 1) := by decide +kernel
theorem dX12_before_4 : decode cX12_before 4 = .ok (.istore 5, 2) := by decide +kernel
theorem dX12_before_6 : decode cX12_before 6 = .ok (.iload 5, 2) := by decide +kernel
theorem dX12_before_8 : decode cX12_before 8 = .ok (.iload_n 3, 1) := by decide +kernel
theorem dX12_before_9 : decode cX12_before 9 = .ok (.if_icmp .ge 46, 3) := by decide +kernel
theorem dX12_before_12 : decode cX12_before 12 = .ok (.aload_n 0, 1) := by decide +kernel
theorem dX12_before_13 : decode cX12_before 13 = .ok (.getfield 17, 3) := by decide +kernel
theorem dX12_before_16 : decode cX12_before 16 = .ok (.iload 5, 2) := by decide +kernel
theorem dX12_before_18 : decode cX12_before 18 = .ok (.iaload, 1) := by decide +kernel
theorem dX12_before_19 : decode cX12_before 19 = .ok (.iload_n 1, 1) := by decide +kernel
theorem dX12_before_20 : decode cX12_before 20 = .ok (.if_icmp .ne 25, 3) := by decide +kernel
theorem dX12_before_23 : decode cX12_before 23 = .ok (.iload_n 2, 1) := by decide +kernel
theorem dX12_before_24 : decode cX12_before 24 = .ok (.ifCond .eq 14, 3) := by decide +kernel
theorem dX12_before_27 : decode cX12_before 27 = .ok (.aload_n 0, 1) := by decide +kernel
theorem dX12_before_28 : decode cX12_before 28 = .ok (.iload 5, 2) := by decide +kernel
theorem dX12_before_30 : decode cX12_before 30 = .ok (.iconst 0, 1) := by decide +kernel
theorem dX12_before_31 : decode cX12_before 31 = .ok (.invokevirtual 124, 3) := by decide +kernel
theorem dX12_before_34 : decode cX12_before 34 = .ok (.iload_n 2, 1) := by decide +kernel
theorem dX12_before_35 : decode cX12_before 35 = .ok (.if_icmp .ne 10, 3) := by decide +kernel
theorem dX12_before_38 : decode cX12_before 38 = .ok (.iload 4, 2) := by decide +kernel
theorem dX12_before_40 : decode cX12_before 40 = .ok (.iconst 1, 1) := by decide +kernel
theorem dX12_before_41 : decode cX12_before 41 = .ok (.iadd, 1) := by decide +kernel
theorem dX12_before_42 : decode cX12_before 42 = .ok (.goto 5, 3) := by decide +kernel
theorem dX12_before_45 : decode cX12_before 45 = .ok (.iload 4, 2) := by decide +kernel
theorem dX12_before_47 : decode cX12_before 47 = .ok (.istore 4, 2) := by decide +kernel
theorem dX12_before_49 : decode cX12_before 49 = .ok (.iinc 5 1, 3) := by decide +kernel
theorem dX12_before_52 : decode cX12_before 52 = .ok (.goto (-46), 3) := by decide +kernel
theorem dX12_before_55 : decode cX12_before 55 = .ok (.iload 4, 2) := by decide +kernel
theorem dX12_before_57 : decode cX12_before 57 = .ok (.ireturn, 1) := by decide +kernel
theorem dX12_isType_0 : decode cX12_isType 0 = .ok (.aload_n 0, 1) := by decide +kernel
theorem dX12_isType_1 : decode cX12_isType 1 = .ok (.iconst 1, 1) := by decide +kernel
theorem dX12_isType_2 : decode cX12_isType 2 = .ok (.iload_n 1, 1) := by decide +kernel
theorem dX12_isType_3 : decode cX12_isType 3 = .ok (.aload_n 0, 1) := by decide +kernel
theorem dX12_isType_4 : decode cX12_isType 4 = .ok (.getfield 107, 3) := by decide +kernel
theorem dX12_isType_7 : decode cX12_isType 7 = .ok (.invokevirtual 128, 3) := by decide +kernel
theorem dX12_isType_10 : decode cX12_isType 10 = .ok (.ifCond .le 7, 3) := by decide +kernel
theorem dX12_isType_13 : decode cX12_isType 13 = .ok (.iconst 1, 1) := by decide +kernel
theorem dX12_isType_14 : decode cX12_isType 14 = .ok (.goto 4, 3) := by decide +kernel
theorem dX12_isType_17 : decode cX12_isType 17 = .ok (.iconst 0, 1) := by decide +kernel
theorem dX12_isType_18 : decode cX12_isType 18 = .ok (.ireturn, 1) := by decide +kernel
theorem dX12_isClass_0 : decode cX12_isClass 0 = .ok (.aload_n 0, 1) := by decide +kernel
theorem dX12_isClass_1 : decode cX12_isClass 1 = .ok (.iconst 0, 1) := by decide +kernel
theorem dX12_isClass_2 : decode cX12_isClass 2 = .ok (.iload_n 1, 1) := by decide +kernel
theorem dX12_isClass_3 : decode cX12_isClass 3 = .ok (.aload_n 0, 1) := by decide +kernel
theorem dX12_isClass_4 : decode cX12_isClass 4 = .ok (.getfield 107, 3) := by decide +kernel
theorem dX12_isClass_7 : decode cX12_isClass 7 = .ok (.invokevirtual 128, 3) := by decide +kernel
theorem dX12_isClass_10 : decode cX12_isClass 10 = .ok (.ifCond .le 7, 3) := by decide +kernel
theorem dX12_isClass_13 : decode cX12_isClass 13 = .ok (.iconst 1, 1) := by decide +kernel
theorem dX12_isClass_14 : decode cX12_isClass 14 = .ok (.goto 4, 3) := by decide +kernel
theorem dX12_isClass_17 : decode cX12_isClass 17 = .ok (.iconst 0, 1) := by decide +kernel
theorem dX12_isClass_18 : decode cX12_isClass 18 = .ok (.ireturn, 1) := by decide +kernel
theorem dX12_isAttribute_0 : decode cX12_isAttribute 0 = .ok (.iconst 0, 1) := by decide +kernel
theorem dX12_isAttribute_1 : decode cX12_isAttribute 1 = .ok (.istore_n 2, 1) := by decide +kernel
theorem dX12_isAttribute_2 : decode cX12_isAttribute 2 = .ok (.iconst 0, 1) := by decide +kernel
theorem dX12_isAttribute_3 : decode cX12_isAttribute 3 = .ok (.istore_n 3, 1) := by decide +kernel
theorem dX12_isAttribute_4 : decode cX12_isAttribute 4 = .ok (.iload_n 3, 1) := by decide +kernel
theorem dX12_isAttribute_5 : decode cX12_isAttribute 5 = .ok (.aload_n 0, 1) := by decide +kernel
theorem dX12_isAttribute_6 : decode cX12_isAttribute 6 = .ok (.getfield 107, 3) := by decide +kernel
theorem dX12_isAttribute_9 : decode cX12_isAttribute 9 = .ok (.if_icmp .ge 60, 3) := by decide +kernel
theorem dX12_isAttribute_12 : decode cX12_isAttribute 12 = .ok (.iconst 1, 1) := by decide +kernel
theorem dX12_isAttribute_13 : decode cX12_isAttribute 13 = .ok (.istore 4, 2) := by decide +kernel
theorem dX12_isAttribute_15 : decode cX12_isAttribute 15 = .ok (.iload 4, 2) := by decide +kernel
theorem dX12_isAttribute_17 : decode cX12_isAttribute 17 = .ok (.aload_n 0, 1) := by decide +kernel
theorem dX12_isAttribute_18 : decode cX12_isAttribute 18 = .ok (.getfield 21, 3) := by decide +kernel
theorem dX12_isAttribute_21 : decode cX12_isAttribute 21 = .ok (.iload_n 3, 1) := by decide +kernel
theorem dX12_isAttribute_22 : decode cX12_isAttribute 22 = .ok (.iaload, 1) := by decide +kernel
theorem dX12_isAttribute_23 : decode cX12_isAttribute 23 = .ok (.if_icmp .ge 40, 3) := by decide +kernel
theorem dX12_isAttribute_26 : decode cX12_isAttribute 26 = .ok (.iload_n 2, 1) := by decide +kernel
theorem dX12_isAttribute_27 : decode cX12_isAttribute 27 = .ok (.ifCond .ne 24, 3) := by decide +kernel
theorem dX12_isAttribute_30 : decode cX12_isAttribute 30 = .ok (.aload_n 0, 1) := by decide +kernel
theorem dX12_isAttribute_31 : decode cX12_isAttribute 31 = .ok (.getfield 17, 3) := by decide +kernel
theorem dX12_isAttribute_34 : decode cX12_isAttribute 34 = .ok (.iload_n 3, 1) := by decide +kernel
theorem dX12_isAttribute_35 : decode cX12_isAttribute 35 = .ok (.iaload, 1) := by decide +kernel
theorem dX12_isAttribute_36 : decode cX12_isAttribute 36 = .ok (.iconst 1, 1) := by decide +kernel
theorem dX12_isAttribute_37 : decode cX12_isAttribute 37 = .ok (.if_icmp .ne 18, 3) := by decide +kernel
theorem dX12_isAttribute_40 : decode cX12_isAttribute 40 = .ok (.aload_n 0, 1) := by decide +kernel
theorem dX12_isAttribute_41 : decode cX12_isAttribute 41 = .ok (.iload_n 3, 1) := by decide +kernel
theorem dX12_isAttribute_42 : decode cX12_isAttribute 42 = .ok (.iload 4, 2) := by decide +kernel
theorem dX12_isAttribute_44 : decode cX12_isAttribute 44 = .ok (.invokevirtual 124, 3) := by decide +kernel
theorem dX12_isAttribute_47 : decode cX12_isAttribute 47 = .ok (.iload_n 1, 1) := by decide +kernel
theorem dX12_isAttribute_48 : decode cX12_isAttribute 48 = .ok (.if_icmp .ne 7, 3) := by decide +kernel
theorem dX12_isAttribute_51 : decode cX12_isAttribute 51 = .ok (.iconst 1, 1) := by decide +kernel
theorem dX12_isAttribute_52 : decode cX12_isAttribute 52 = .ok (.goto 4, 3) := by decide +kernel
theorem dX12_isAttribute_55 : decode cX12_isAttribute 55 = .ok (.iconst 0, 1) := by decide +kernel
theorem dX12_isAttribute_56 : decode cX12_isAttribute 56 = .ok (.istore_n 2, 1) := by decide +kernel
theorem dX12_isAttribute_57 : decode cX12_isAttribute 57 = .ok (.iinc 4 1, 3) := by decide +kernel
theorem dX12_isAttribute_60 : decode cX12_isAttribute 60 = .ok (.goto (-45), 3) := by decide +kernel
theorem dX12_isAttribute_63 : decode cX12_isAttribute 63 = .ok (.iinc 3 1, 3) := by decide +kernel
theorem dX12_isAttribute_66 : decode cX12_isAttribute 66 = .ok (.goto (-62), 3) := by decide +kernel
theorem dX12_isAttribute_69 : decode cX12_isAttribute 69 = .ok (.iload_n 2, 1) := by decide +kernel
theorem dX12_isAttribute_70 : decode cX12_isAttribute 70 = .ok (.ireturn, 1) := by decide +kernel
theorem dX12_isPermission_0 : decode cX12_isPermission 0 = .ok (.iconst 0, 1) := by decide +kernel
theorem dX12_isPermission_1 : decode cX12_isPermission 1 = .ok (.istore_n 3, 1) := by decide +kernel
theorem dX12_isPermission_2 : decode cX12_isPermission 2 = .ok (.iconst 0, 1) := by decide +kernel
theorem dX12_isPermission_3 : decode cX12_isPermission 3 = .ok (.istore 4, 2) := by decide +kernel
theorem dX12_isPermission_5 : decode cX12_isPermission 5 = .ok (.iload 4, 2) := by decide +kernel
theorem dX12_isPermission_7 : decode cX12_isPermission 7 = .ok (.aload_n 0, 1) := by decide +kernel
theorem dX12_isPermission_8 : decode cX12_isPermission 8 = .ok (.getfield 107, 3) := by decide +kernel
theorem dX12_isPermission_11 : decode cX12_isPermission 11 = .ok (.if_icmp .ge 73, 3) := by decide +kernel
theorem dX12_isPermission_14 : decode cX12_isPermission 14 = .ok (.iconst 1, 1) := by decide +kernel
theorem dX12_isPermission_15 : decode cX12_isPermission 15 = .ok (.istore 5, 2) := by decide +kernel
theorem dX12_isPermission_17 : decode cX12_isPermission 17 = .ok (.iload 5, 2) := by decide +kernel
theorem dX12_isPermission_19 : decode cX12_isPermission 19 = .ok (.aload_n 0, 1) := by decide +kernel
theorem dX12_isPermission_20 : decode cX12_isPermission 20 = .ok (.getfield 21, 3) := by decide +kernel
theorem dX12_isPermission_23 : decode cX12_isPermission 23 = .ok (.iload 4, 2) := by decide +kernel
theorem dX12_isPermission_25 : decode cX12_isPermission 25 = .ok (.iaload, 1) := by decide +kernel
theorem dX12_isPermission_26 : decode cX12_isPermission 26 = .ok (.if_icmp .ge 52, 3) := by decide +kernel
theorem dX12_isPermission_29 : decode cX12_isPermission 29 = .ok (.iload_n 3, 1) := by decide +kernel
theorem dX12_isPermission_30 : decode cX12_isPermission 30 = .ok (.ifCond .ne 36, 3) := by decide +kernel
theorem dX12_isPermission_33 : decode cX12_isPermission 33 = .ok (.aload_n 0, 1) := by decide +kernel
theorem dX12_isPermission_34 : decode cX12_isPermission 34 = .ok (.getfield 17, 3) := by decide +kernel
theorem dX12_isPermission_37 : decode cX12_isPermission 37 = .ok (.iload 4, 2) := by decide +kernel
theorem dX12_isPermission_39 : decode cX12_isPermission 39 = .ok (.iaload, 1) := by decide +kernel
theorem dX12_isPermission_40 : decode cX12_isPermission 40 = .ok (.ifCond .ne 30, 3) := by decide +kernel
theorem dX12_isPermission_43 : decode cX12_isPermission 43 = .ok (.aload_n 0, 1) := by decide +kernel
theorem dX12_isPermission_44 : decode cX12_isPermission 44 = .ok (.iload 4, 2) := by decide +kernel
theorem dX12_isPermission_46 : decode cX12_isPermission 46 = .ok (.iconst 0, 1) := by decide +kernel
theorem dX12_isPermission_47 : decode cX12_isPermission 47 = .ok (.invokevirtual 124, 3) := by decide +kernel
theorem dX12_isPermission_50 : decode cX12_isPermission 50 = .ok (.iload_n 1, 1) := by decide +kernel
theorem dX12_isPermission_51 : decode cX12_isPermission 51 = .ok (.if_icmp .ne 19, 3) := by decide +kernel
theorem dX12_isPermission_54 : decode cX12_isPermission 54 = .ok (.aload_n 0, 1) := by decide +kernel
theorem dX12_isPermission_55 : decode cX12_isPermission 55 = .ok (.iload 4, 2) := by decide +kernel
theorem dX12_isPermission_57 : decode cX12_isPermission 57 = .ok (.iload 5, 2) := by decide +kernel
theorem dX12_isPermission_59 : decode cX12_isPermission 59 = .ok (.invokevirtual 124, 3) := by decide +kernel
theorem dX12_isPermission_62 : decode cX12_isPermission 62 = .ok (.iload_n 2, 1) := by decide +kernel
theorem dX12_isPermission_63 : decode cX12_isPermission 63 = .ok (.if_icmp .ne 7, 3) := by decide +kernel
theorem dX12_isPermission_66 : decode cX12_isPermission 66 = .ok (.iconst 1, 1) := by decide +kernel
theorem dX12_isPermission_67 : decode cX12_isPermission 67 = .ok (.goto 4, 3) := by decide +kernel
theorem dX12_isPermission_70 : decode cX12_isPermission 70 = .ok (.iconst 0, 1) := by decide +kernel
theorem dX12_isPermission_71 : decode cX12_isPermission 71 = .ok (.istore_n 3, 1) := by decide +kernel
theorem dX12_isPermission_72 : decode cX12_isPermission 72 = .ok (.iinc 5 1, 3) := by decide +kernel
theorem dX12_isPermission_75 : decode cX12_isPermission 75 = .ok (.goto (-58), 3) := by decide +kernel
theorem dX12_isPermission_78 : decode cX12_isPermission 78 = .ok (.iinc 4 1, 3) := by decide +kernel
theorem dX12_isPermission_81 : decode cX12_isPermission 81 = .ok (.goto (-76), 3) := by decide +kernel
theorem dX12_isPermission_84 : decode cX12_isPermission 84 = .ok (.iload_n 3, 1) := by decide +kernel
theorem dX12_isPermission_85 : decode cX12_isPermission 85 = .ok (.ireturn, 1) := by decide +kernel
theorem dX12_isSelf_0 : decode cX12_isSelf 0 = .ok (.iload_n 0, 1) := by decide +kernel
theorem dX12_isSelf_1 : decode cX12_isSelf 1 = .ok (.bipush 115, 2) := by decide +kernel
theorem dX12_isSelf_3 : decode cX12_isSelf 3 = .ok (.bipush 101, 2) := by decide +kernel
theorem dX12_isSelf_5 : decode cX12_isSelf 5 = .ok (.bipush 108, 2) := by decide +kernel
theorem dX12_isSelf_7 : decode cX12_isSelf 7 = .ok (.bipush 102, 2) := by decide +kernel
theorem dX12_isSelf_9 : decode cX12_isSelf 9 = .ok (.iconst 0, 1) := by decide +kernel
theorem dX12_isSelf_10 : decode cX12_isSelf 10 = .ok (.invokestatic 91, 3) := by decide +kernel
theorem dX12_isSelf_13 : decode cX12_isSelf 13 = .ok (.if_icmp .ne 7, 3) := by decide +kernel
theorem dX12_isSelf_16 : decode cX12_isSelf 16 = .ok (.iconst 1, 1) := by decide +kernel
theorem dX12_isSelf_17 : decode cX12_isSelf 17 = .ok (.goto 4, 3) := by decide +kernel
theorem dX12_isSelf_20 : decode cX12_isSelf 20 = .ok (.iconst 0, 1) := by decide +kernel
theorem dX12_isSelf_21 : decode cX12_isSelf 21 = .ok (.ireturn, 1) := by decide +kernel
theorem dX12_allDifferent_0 : decode cX12_allDifferent 0 = .ok (.iconst 1, 1) := by decide +kernel
theorem dX12_allDifferent_1 : decode cX12_allDifferent 1 = .ok (.istore_n 2, 1) := by decide +kernel
theorem dX12_allDifferent_2 : decode cX12_allDifferent 2 = .ok (.iconst 1, 1) := by decide +kernel
theorem dX12_allDifferent_3 : decode cX12_allDifferent 3 = .ok (.istore_n 3, 1) := by decide +kernel
theorem dX12_allDifferent_4 : decode cX12_allDifferent 4 = .ok (.iload_n 3, 1) := by decide +kernel
theorem dX12_allDifferent_5 : decode cX12_allDifferent 5 = .ok (.aload_n 0, 1) := by decide +kernel
theorem dX12_allDifferent_6 : decode cX12_allDifferent 6 = .ok (.getfield 21, 3) := by decide +kernel
theorem dX12_allDifferent_9 : decode cX12_allDifferent 9 = .ok (.iload_n 1, 1) := by decide +kernel
theorem dX12_allDifferent_10 : decode cX12_allDifferent 10 = .ok (.iaload, 1) := by decide +kernel
theorem dX12_allDifferent_11 : decode cX12_allDifferent 11 = .ok (.if_icmp .ge 57, 3) := by decide +kernel
theorem dX12_allDifferent_14 : decode cX12_allDifferent 14 = .ok (.iload_n 3, 1) := by decide +kernel
theorem dX12_allDifferent_15 : decode cX12_allDifferent 15 = .ok (.iconst 1, 1) := by decide +kernel
theorem dX12_allDifferent_16 : decode cX12_allDifferent 16 = .ok (.iadd, 1) := by decide +kernel
theorem dX12_allDifferent_17 : decode cX12_allDifferent 17 = .ok (.istore 4, 2) := by decide +kernel
theorem dX12_allDifferent_19 : decode cX12_allDifferent 19 = .ok (.iload 4, 2) := by decide +kernel
theorem dX12_allDifferent_21 : decode cX12_allDifferent 21 = .ok (.aload_n 0, 1) := by decide +kernel
theorem dX12_allDifferent_22 : decode cX12_allDifferent 22 = .ok (.getfield 21, 3) := by decide +kernel
theorem dX12_allDifferent_25 : decode cX12_allDifferent 25 = .ok (.iload_n 1, 1) := by decide +kernel
theorem dX12_allDifferent_26 : decode cX12_allDifferent 26 = .ok (.iaload, 1) := by decide +kernel
theorem dX12_allDifferent_27 : decode cX12_allDifferent 27 = .ok (.if_icmp .ge 35, 3) := by decide +kernel
theorem dX12_allDifferent_30 : decode cX12_allDifferent 30 = .ok (.iload_n 2, 1) := by decide +kernel
theorem dX12_allDifferent_31 : decode cX12_allDifferent 31 = .ok (.ifCond .eq 23, 3) := by decide +kernel
theorem dX12_allDifferent_34 : decode cX12_allDifferent 34 = .ok (.aload_n 0, 1) := by decide +kernel
theorem dX12_allDifferent_35 : decode cX12_allDifferent 35 = .ok (.iload_n 1, 1) := by decide +kernel
theorem dX12_allDifferent_36 : decode cX12_allDifferent 36 = .ok (.iload_n 3, 1) := by decide +kernel
theorem dX12_allDifferent_37 : decode cX12_allDifferent 37 = .ok (.invokevirtual 124, 3) := by decide +kernel
theorem dX12_allDifferent_40 : decode cX12_allDifferent 40 = .ok (.aload_n 0, 1) := by decide +kernel
theorem dX12_allDifferent_41 : decode cX12_allDifferent 41 = .ok (.iload_n 1, 1) := by decide +kernel
theorem dX12_allDifferent_42 : decode cX12_allDifferent 42 = .ok (.iload 4, 2) := by decide +kernel
theorem dX12_allDifferent_44 : decode cX12_allDifferent 44 = .ok (.invokevirtual 124, 3) := by decide +kernel
theorem dX12_allDifferent_47 : decode cX12_allDifferent 47 = .ok (.if_icmp .eq 7, 3) := by decide +kernel
theorem dX12_allDifferent_50 : decode cX12_allDifferent 50 = .ok (.iconst 1, 1) := by decide +kernel
theorem dX12_allDifferent_51 : decode cX12_allDifferent 51 = .ok (.goto 4, 3) := by decide +kernel
theorem dX12_allDifferent_54 : decode cX12_allDifferent 54 = .ok (.iconst 0, 1) := by decide +kernel
theorem dX12_allDifferent_55 : decode cX12_allDifferent 55 = .ok (.istore_n 2, 1) := by decide +kernel
theorem dX12_allDifferent_56 : decode cX12_allDifferent 56 = .ok (.iinc 4 1, 3) := by decide +kernel
theorem dX12_allDifferent_59 : decode cX12_allDifferent 59 = .ok (.goto (-40), 3) := by decide +kernel
theorem dX12_allDifferent_62 : decode cX12_allDifferent 62 = .ok (.iinc 3 1, 3) := by decide +kernel
theorem dX12_allDifferent_65 : decode cX12_allDifferent 65 = .ok (.goto (-61), 3) := by decide +kernel
theorem dX12_allDifferent_68 : decode cX12_allDifferent 68 = .ok (.iload_n 2, 1) := by decide +kernel
theorem dX12_allDifferent_69 : decode cX12_allDifferent 69 = .ok (.ireturn, 1) := by decide +kernel
theorem dX12_arePermissions_0 : decode cX12_arePermissions 0 = .ok (.aload_n 0, 1) := by decide +kernel
theorem dX12_arePermissions_1 : decode cX12_arePermissions 1 = .ok (.iload_n 3, 1) := by decide +kernel
theorem dX12_arePermissions_2 : decode cX12_arePermissions 2 = .ok (.invokevirtual 132, 3) := by decide +kernel
theorem dX12_arePermissions_5 : decode cX12_arePermissions 5 = .ok (.istore 4, 2) := by decide +kernel
theorem dX12_arePermissions_7 : decode cX12_arePermissions 7 = .ok (.iload_n 2, 1) := by decide +kernel
theorem dX12_arePermissions_8 : decode cX12_arePermissions 8 = .ok (.istore 5, 2) := by decide +kernel
theorem dX12_arePermissions_10 : decode cX12_arePermissions 10 = .ok (.iload 5, 2) := by decide +kernel
theorem dX12_arePermissions_12 : decode cX12_arePermissions 12 = .ok (.aload_n 0, 1) := by decide +kernel
theorem dX12_arePermissions_13 : decode cX12_arePermissions 13 = .ok (.getfield 21, 3) := by decide +kernel
theorem dX12_arePermissions_16 : decode cX12_arePermissions 16 = .ok (.iload_n 1, 1) := by decide +kernel
theorem dX12_arePermissions_17 : decode cX12_arePermissions 17 = .ok (.iaload, 1) := by decide +kernel
theorem dX12_arePermissions_18 : decode cX12_arePermissions 18 = .ok (.if_icmp .ge 36, 3) := by decide +kernel
theorem dX12_arePermissions_21 : decode cX12_arePermissions 21 = .ok (.iload 4, 2) := by decide +kernel
theorem dX12_arePermissions_23 : decode cX12_arePermissions 23 = .ok (.ifCond .eq 22, 3) := by decide +kernel
theorem dX12_arePermissions_26 : decode cX12_arePermissions 26 = .ok (.aload_n 0, 1) := by decide +kernel
theorem dX12_arePermissions_27 : decode cX12_arePermissions 27 = .ok (.iload_n 3, 1) := by decide +kernel
theorem dX12_arePermissions_28 : decode cX12_arePermissions 28 = .ok (.aload_n 0, 1) := by decide +kernel
theorem dX12_arePermissions_29 : decode cX12_arePermissions 29 = .ok (.iload_n 1, 1) := by decide +kernel
theorem dX12_arePermissions_30 : decode cX12_arePermissions 30 = .ok (.iload 5, 2) := by decide +kernel
theorem dX12_arePermissions_32 : decode cX12_arePermissions 32 = .ok (.invokevirtual 124, 3) := by decide +kernel
theorem dX12_arePermissions_35 : decode cX12_arePermissions 35 = .ok (.invokevirtual 136, 3) := by decide +kernel
theorem dX12_arePermissions_38 : decode cX12_arePermissions 38 = .ok (.ifCond .eq 7, 3) := by decide +kernel
theorem dX12_arePermissions_41 : decode cX12_arePermissions 41 = .ok (.iconst 1, 1) := by decide +kernel
theorem dX12_arePermissions_42 : decode cX12_arePermissions 42 = .ok (.goto 4, 3) := by decide +kernel
theorem dX12_arePermissions_45 : decode cX12_arePermissions 45 = .ok (.iconst 0, 1) := by decide +kernel
theorem dX12_arePermissions_46 : decode cX12_arePermissions 46 = .ok (.istore 4, 2) := by decide +kernel
theorem dX12_arePermissions_48 : decode cX12_arePermissions 48 = .ok (.iinc 5 1, 3) := by decide +kernel
theorem dX12_arePermissions_51 : decode cX12_arePermissions 51 = .ok (.goto (-41), 3) := by decide +kernel
theorem dX12_arePermissions_54 : decode cX12_arePermissions 54 = .ok (.iload 4, 2) := by decide +kernel
theorem dX12_arePermissions_56 : decode cX12_arePermissions 56 = .ok (.ireturn, 1) := by decide +kernel
theorem dX12_twice_0 : decode cX12_twice 0 = .ok (.iconst 0, 1) := by decide +kernel
theorem dX12_twice_1 : decode cX12_twice 1 = .ok (.istore_n 2, 1) := by decide +kernel
theorem dX12_twice_2 : decode cX12_twice 2 = .ok (.iload_n 2, 1) := by decide +kernel
theorem dX12_twice_3 : decode cX12_twice 3 = .ok (.iload_n 1, 1) := by decide +kernel
theorem dX12_twice_4 : decode cX12_twice 4 = .ok (.if_icmp .ge 66, 3) := by decide +kernel
theorem dX12_twice_7 : decode cX12_twice 7 = .ok (.aload_n 0, 1) := by decide +kernel
theorem dX12_twice_8 : decode cX12_twice 8 = .ok (.getfield 17, 3) := by decide +kernel
theorem dX12_twice_11 : decode cX12_twice 11 = .ok (.iload_n 2, 1) := by decide +kernel
theorem dX12_twice_12 : decode cX12_twice 12 = .ok (.iaload, 1) := by decide +kernel
theorem dX12_twice_13 : decode cX12_twice 13 = .ok (.iconst 4, 1) := by decide +kernel
theorem dX12_twice_14 : decode cX12_twice 14 = .ok (.if_icmp .ne 50, 3) := by decide +kernel
theorem dX12_twice_17 : decode cX12_twice 17 = .ok (.aload_n 0, 1) := by decide +kernel
theorem dX12_twice_18 : decode cX12_twice 18 = .ok (.iload_n 2, 1) := by decide +kernel
theorem dX12_twice_19 : decode cX12_twice 19 = .ok (.iconst 0, 1) := by decide +kernel
theorem dX12_twice_20 : decode cX12_twice 20 = .ok (.invokevirtual 124, 3) := by decide +kernel
theorem dX12_twice_23 : decode cX12_twice 23 = .ok (.aload_n 0, 1) := by decide +kernel
theorem dX12_twice_24 : decode cX12_twice 24 = .ok (.iload_n 1, 1) := by decide +kernel
theorem dX12_twice_25 : decode cX12_twice 25 = .ok (.iconst 0, 1) := by decide +kernel
theorem dX12_twice_26 : decode cX12_twice 26 = .ok (.invokevirtual 124, 3) := by decide +kernel
theorem dX12_twice_29 : decode cX12_twice 29 = .ok (.if_icmp .ne 35, 3) := by decide +kernel
theorem dX12_twice_32 : decode cX12_twice 32 = .ok (.aload_n 0, 1) := by decide +kernel
theorem dX12_twice_33 : decode cX12_twice 33 = .ok (.iload_n 2, 1) := by decide +kernel
theorem dX12_twice_34 : decode cX12_twice 34 = .ok (.iconst 1, 1) := by decide +kernel
theorem dX12_twice_35 : decode cX12_twice 35 = .ok (.invokevirtual 124, 3) := by decide +kernel
theorem dX12_twice_38 : decode cX12_twice 38 = .ok (.aload_n 0, 1) := by decide +kernel
theorem dX12_twice_39 : decode cX12_twice 39 = .ok (.iload_n 1, 1) := by decide +kernel
theorem dX12_twice_40 : decode cX12_twice 40 = .ok (.iconst 1, 1) := by decide +kernel
theorem dX12_twice_41 : decode cX12_twice 41 = .ok (.invokevirtual 124, 3) := by decide +kernel
theorem dX12_twice_44 : decode cX12_twice 44 = .ok (.if_icmp .ne 20, 3) := by decide +kernel
theorem dX12_twice_47 : decode cX12_twice 47 = .ok (.aload_n 0, 1) := by decide +kernel
theorem dX12_twice_48 : decode cX12_twice 48 = .ok (.iload_n 2, 1) := by decide +kernel
theorem dX12_twice_49 : decode cX12_twice 49 = .ok (.iconst 2, 1) := by decide +kernel
theorem dX12_twice_50 : decode cX12_twice 50 = .ok (.invokevirtual 124, 3) := by decide +kernel
theorem dX12_twice_53 : decode cX12_twice 53 = .ok (.aload_n 0, 1) := by decide +kernel
theorem dX12_twice_54 : decode cX12_twice 54 = .ok (.iload_n 1, 1) := by decide +kernel
theorem dX12_twice_55 : decode cX12_twice 55 = .ok (.iconst 2, 1) := by decide +kernel
theorem dX12_twice_56 : decode cX12_twice 56 = .ok (.invokevirtual 124, 3) := by decide +kernel
theorem dX12_twice_59 : decode cX12_twice 59 = .ok (.if_icmp .ne 5, 3) := by decide +kernel
theorem dX12_twice_62 : decode cX12_twice 62 = .ok (.iconst 1, 1) := by decide +kernel
theorem dX12_twice_63 : decode cX12_twice 63 = .ok (.ireturn, 1) := by decide +kernel
theorem dX12_twice_64 : decode cX12_twice 64 = .ok (.iinc 2 1, 3) := by decide +kernel
theorem dX12_twice_67 : decode cX12_twice 67 = .ok (.goto (-65), 3) := by decide +kernel
theorem dX12_twice_70 : decode cX12_twice 70 = .ok (.iconst 0, 1) := by decide +kernel
theorem dX12_twice_71 : decode cX12_twice 71 = .ok (.ireturn, 1) := by decide +kernel
theorem dX12_isWrong_0 : decode cX12_isWrong 0 = .ok (.aload_n 0, 1) := by decide +kernel
theorem dX12_isWrong_1 : decode cX12_isWrong 1 = .ok (.iload_n 1, 1) := by decide +kernel
theorem dX12_isWrong_2 : decode cX12_isWrong 2 = .ok (.iconst 0, 1) := by decide +kernel
theorem dX12_isWrong_3 : decode cX12_isWrong 3 = .ok (.invokevirtual 124, 3) := by decide +kernel
theorem dX12_isWrong_6 : decode cX12_isWrong 6 = .ok (.istore_n 2, 1) := by decide +kernel
theorem dX12_isWrong_7 : decode cX12_isWrong 7 = .ok (.aload_n 0, 1) := by decide +kernel
theorem dX12_isWrong_8 : decode cX12_isWrong 8 = .ok (.iload_n 1, 1) := by decide +kernel
theorem dX12_isWrong_9 : decode cX12_isWrong 9 = .ok (.iconst 1, 1) := by decide +kernel
theorem dX12_isWrong_10 : decode cX12_isWrong 10 = .ok (.invokevirtual 124, 3) := by decide +kernel
theorem dX12_isWrong_13 : decode cX12_isWrong 13 = .ok (.istore_n 3, 1) := by decide +kernel
theorem dX12_isWrong_14 : decode cX12_isWrong 14 = .ok (.aload_n 0, 1) := by decide +kernel
theorem dX12_isWrong_15 : decode cX12_isWrong 15 = .ok (.iload_n 1, 1) := by decide +kernel
theorem dX12_isWrong_16 : decode cX12_isWrong 16 = .ok (.iconst 2, 1) := by decide +kernel
theorem dX12_isWrong_17 : decode cX12_isWrong 17 = .ok (.invokevirtual 124, 3) := by decide +kernel
theorem dX12_isWrong_20 : decode cX12_isWrong 20 = .ok (.istore 4, 2) := by decide +kernel
theorem dX12_isWrong_22 : decode cX12_isWrong 22 = .ok (.aload_n 0, 1) := by decide +kernel
theorem dX12_isWrong_23 : decode cX12_isWrong 23 = .ok (.getfield 17, 3) := by decide +kernel
theorem dX12_isWrong_26 : decode cX12_isWrong 26 = .ok (.iload_n 1, 1) := by decide +kernel
theorem dX12_isWrong_27 : decode cX12_isWrong 27 = .ok (.iaload, 1) := by decide +kernel
theorem dX12_isWrong_28 : decode cX12_isWrong 28 = .ok (.tableswitch 251 0 5 #[40, 75, 195, 195, 119, 171], 40) := by decide +kernel
theorem dX12_isWrong_68 : decode cX12_isWrong 68 = .ok (.aload_n 0, 1) := by decide +kernel
theorem dX12_isWrong_69 : decode cX12_isWrong 69 = .ok (.iconst 0, 1) := by decide +kernel
theorem dX12_isWrong_70 : decode cX12_isWrong 70 = .ok (.iload_n 2, 1) := by decide +kernel
theorem dX12_isWrong_71 : decode cX12_isWrong 71 = .ok (.iload_n 1, 1) := by decide +kernel
theorem dX12_isWrong_72 : decode cX12_isWrong 72 = .ok (.invokevirtual 128, 3) := by decide +kernel
theorem dX12_isWrong_75 : decode cX12_isWrong 75 = .ok (.ifCond .gt 22, 3) := by decide +kernel
theorem dX12_isWrong_78 : decode cX12_isWrong 78 = .ok (.aload_n 0, 1) := by decide +kernel
theorem dX12_isWrong_79 : decode cX12_isWrong 79 = .ok (.iload_n 1, 1) := by decide +kernel
theorem dX12_isWrong_80 : decode cX12_isWrong 80 = .ok (.invokevirtual 139, 3) := by decide +kernel
theorem dX12_isWrong_83 : decode cX12_isWrong 83 = .ok (.ifCond .eq 14, 3) := by decide +kernel
theorem dX12_isWrong_86 : decode cX12_isWrong 86 = .ok (.aload_n 0, 1) := by decide +kernel
theorem dX12_isWrong_87 : decode cX12_isWrong 87 = .ok (.iconst 0, 1) := by decide +kernel
theorem dX12_isWrong_88 : decode cX12_isWrong 88 = .ok (.iconst 0, 1) := by decide +kernel
theorem dX12_isWrong_89 : decode cX12_isWrong 89 = .ok (.iload_n 1, 1) := by decide +kernel
theorem dX12_isWrong_90 : decode cX12_isWrong 90 = .ok (.invokevirtual 128, 3) := by decide +kernel
theorem dX12_isWrong_93 : decode cX12_isWrong 93 = .ok (.iconst 3, 1) := by decide +kernel
theorem dX12_isWrong_94 : decode cX12_isWrong 94 = .ok (.if_icmp .lt 7, 3) := by decide +kernel
theorem dX12_isWrong_97 : decode cX12_isWrong 97 = .ok (.iconst 1, 1) := by decide +kernel
theorem dX12_isWrong_98 : decode cX12_isWrong 98 = .ok (.goto 4, 3) := by decide +kernel
theorem dX12_isWrong_101 : decode cX12_isWrong 101 = .ok (.iconst 0, 1) := by decide +kernel
theorem dX12_isWrong_102 : decode cX12_isWrong 102 = .ok (.ireturn, 1) := by decide +kernel
theorem dX12_isWrong_103 : decode cX12_isWrong 103 = .ok (.aload_n 0, 1) := by decide +kernel
theorem dX12_isWrong_104 : decode cX12_isWrong 104 = .ok (.iconst 1, 1) := by decide +kernel
theorem dX12_isWrong_105 : decode cX12_isWrong 105 = .ok (.iload_n 2, 1) := by decide +kernel
theorem dX12_isWrong_106 : decode cX12_isWrong 106 = .ok (.iload_n 1, 1) := by decide +kernel
theorem dX12_isWrong_107 : decode cX12_isWrong 107 = .ok (.invokevirtual 128, 3) := by decide +kernel
theorem dX12_isWrong_110 : decode cX12_isWrong 110 = .ok (.ifCond .gt 31, 3) := by decide +kernel
theorem dX12_isWrong_113 : decode cX12_isWrong 113 = .ok (.aload_n 0, 1) := by decide +kernel
theorem dX12_isWrong_114 : decode cX12_isWrong 114 = .ok (.iload_n 2, 1) := by decide +kernel
theorem dX12_isWrong_115 : decode cX12_isWrong 115 = .ok (.invokevirtual 142, 3) := by decide +kernel
theorem dX12_isWrong_118 : decode cX12_isWrong 118 = .ok (.ifCond .ne 23, 3) := by decide +kernel
theorem dX12_isWrong_121 : decode cX12_isWrong 121 = .ok (.aload_n 0, 1) := by decide +kernel
theorem dX12_isWrong_122 : decode cX12_isWrong 122 = .ok (.iload_n 1, 1) := by decide +kernel
theorem dX12_isWrong_123 : decode cX12_isWrong 123 = .ok (.invokevirtual 139, 3) := by decide +kernel
theorem dX12_isWrong_126 : decode cX12_isWrong 126 = .ok (.ifCond .eq 15, 3) := by decide +kernel
theorem dX12_isWrong_129 : decode cX12_isWrong 129 = .ok (.aload_n 0, 1) := by decide +kernel
theorem dX12_isWrong_130 : decode cX12_isWrong 130 = .ok (.iconst 1, 1) := by decide +kernel
theorem dX12_isWrong_131 : decode cX12_isWrong 131 = .ok (.iconst 0, 1) := by decide +kernel
theorem dX12_isWrong_132 : decode cX12_isWrong 132 = .ok (.iload_n 1, 1) := by decide +kernel
theorem dX12_isWrong_133 : decode cX12_isWrong 133 = .ok (.invokevirtual 128, 3) := by decide +kernel
theorem dX12_isWrong_136 : decode cX12_isWrong 136 = .ok (.bipush 8, 2) := by decide +kernel
theorem dX12_isWrong_138 : decode cX12_isWrong 138 = .ok (.if_icmp .lt 7, 3) := by decide +kernel
theorem dX12_isWrong_141 : decode cX12_isWrong 141 = .ok (.iconst 1, 1) := by decide +kernel
theorem dX12_isWrong_142 : decode cX12_isWrong 142 = .ok (.goto 4, 3) := by decide +kernel
theorem dX12_isWrong_145 : decode cX12_isWrong 145 = .ok (.iconst 0, 1) := by decide +kernel
theorem dX12_isWrong_146 : decode cX12_isWrong 146 = .ok (.ireturn, 1) := by decide +kernel
theorem dX12_isWrong_147 : decode cX12_isWrong 147 = .ok (.aload_n 0, 1) := by decide +kernel
theorem dX12_isWrong_148 : decode cX12_isWrong 148 = .ok (.iload_n 1, 1) := by decide +kernel
theorem dX12_isWrong_149 : decode cX12_isWrong 149 = .ok (.invokevirtual 145, 3) := by decide +kernel
theorem dX12_isWrong_152 : decode cX12_isWrong 152 = .ok (.ifCond .ne 41, 3) := by decide +kernel
theorem dX12_isWrong_155 : decode cX12_isWrong 155 = .ok (.aload_n 0, 1) := by decide +kernel
theorem dX12_isWrong_156 : decode cX12_isWrong 156 = .ok (.iload_n 2, 1) := by decide +kernel
theorem dX12_isWrong_157 : decode cX12_isWrong 157 = .ok (.invokevirtual 148, 3) := by decide +kernel
theorem dX12_isWrong_160 : decode cX12_isWrong 160 = .ok (.ifCond .eq 33, 3) := by decide +kernel
theorem dX12_isWrong_163 : decode cX12_isWrong 163 = .ok (.aload_n 0, 1) := by decide +kernel
theorem dX12_isWrong_164 : decode cX12_isWrong 164 = .ok (.iload_n 3, 1) := by decide +kernel
theorem dX12_isWrong_165 : decode cX12_isWrong 165 = .ok (.invokevirtual 148, 3) := by decide +kernel
theorem dX12_isWrong_168 : decode cX12_isWrong 168 = .ok (.ifCond .eq 25, 3) := by decide +kernel
theorem dX12_isWrong_171 : decode cX12_isWrong 171 = .ok (.aload_n 0, 1) := by decide +kernel
theorem dX12_isWrong_172 : decode cX12_isWrong 172 = .ok (.iload 4, 2) := by decide +kernel
theorem dX12_isWrong_174 : decode cX12_isWrong 174 = .ok (.invokevirtual 132, 3) := by decide +kernel
theorem dX12_isWrong_177 : decode cX12_isWrong 177 = .ok (.ifCond .eq 16, 3) := by decide +kernel
theorem dX12_isWrong_180 : decode cX12_isWrong 180 = .ok (.aload_n 0, 1) := by decide +kernel
theorem dX12_isWrong_181 : decode cX12_isWrong 181 = .ok (.aload_n 0, 1) := by decide +kernel
theorem dX12_isWrong_182 : decode cX12_isWrong 182 = .ok (.iload_n 1, 1) := by decide +kernel
theorem dX12_isWrong_183 : decode cX12_isWrong 183 = .ok (.iconst 3, 1) := by decide +kernel
theorem dX12_isWrong_184 : decode cX12_isWrong 184 = .ok (.invokevirtual 124, 3) := by decide +kernel
theorem dX12_isWrong_187 : decode cX12_isWrong 187 = .ok (.invokevirtual 148, 3) := by decide +kernel
theorem dX12_isWrong_190 : decode cX12_isWrong 190 = .ok (.ifCond .ne 7, 3) := by decide +kernel
theorem dX12_isWrong_193 : decode cX12_isWrong 193 = .ok (.iconst 1, 1) := by decide +kernel
theorem dX12_isWrong_194 : decode cX12_isWrong 194 = .ok (.goto 4, 3) := by decide +kernel
theorem dX12_isWrong_197 : decode cX12_isWrong 197 = .ok (.iconst 0, 1) := by decide +kernel
theorem dX12_isWrong_198 : decode cX12_isWrong 198 = .ok (.ireturn, 1) := by decide +kernel
theorem dX12_isWrong_199 : decode cX12_isWrong 199 = .ok (.aload_n 0, 1) := by decide +kernel
theorem dX12_isWrong_200 : decode cX12_isWrong 200 = .ok (.iconst 5, 1) := by decide +kernel
theorem dX12_isWrong_201 : decode cX12_isWrong 201 = .ok (.iload_n 2, 1) := by decide +kernel
theorem dX12_isWrong_202 : decode cX12_isWrong 202 = .ok (.iload_n 1, 1) := by decide +kernel
theorem dX12_isWrong_203 : decode cX12_isWrong 203 = .ok (.invokevirtual 128, 3) := by decide +kernel
theorem dX12_isWrong_206 : decode cX12_isWrong 206 = .ok (.ifCond .gt 11, 3) := by decide +kernel
theorem dX12_isWrong_209 : decode cX12_isWrong 209 = .ok (.aload_n 0, 1) := by decide +kernel
theorem dX12_isWrong_210 : decode cX12_isWrong 210 = .ok (.iload_n 2, 1) := by decide +kernel
theorem dX12_isWrong_211 : decode cX12_isWrong 211 = .ok (.invokevirtual 148, 3) := by decide +kernel
theorem dX12_isWrong_214 : decode cX12_isWrong 214 = .ok (.ifCond .ne 7, 3) := by decide +kernel
theorem dX12_isWrong_217 : decode cX12_isWrong 217 = .ok (.iconst 1, 1) := by decide +kernel
theorem dX12_isWrong_218 : decode cX12_isWrong 218 = .ok (.goto 4, 3) := by decide +kernel
theorem dX12_isWrong_221 : decode cX12_isWrong 221 = .ok (.iconst 0, 1) := by decide +kernel
theorem dX12_isWrong_222 : decode cX12_isWrong 222 = .ok (.ireturn, 1) := by decide +kernel
theorem dX12_isWrong_223 : decode cX12_isWrong 223 = .ok (.aload_n 0, 1) := by decide +kernel
theorem dX12_isWrong_224 : decode cX12_isWrong 224 = .ok (.iload_n 2, 1) := by decide +kernel
theorem dX12_isWrong_225 : decode cX12_isWrong 225 = .ok (.invokevirtual 148, 3) := by decide +kernel
theorem dX12_isWrong_228 : decode cX12_isWrong 228 = .ok (.ifCond .ne 11, 3) := by decide +kernel
theorem dX12_isWrong_231 : decode cX12_isWrong 231 = .ok (.aload_n 0, 1) := by decide +kernel
theorem dX12_isWrong_232 : decode cX12_isWrong 232 = .ok (.iload_n 2, 1) := by decide +kernel
theorem dX12_isWrong_233 : decode cX12_isWrong 233 = .ok (.invokevirtual 142, 3) := by decide +kernel
theorem dX12_isWrong_236 : decode cX12_isWrong 236 = .ok (.ifCond .eq 37, 3) := by decide +kernel
theorem dX12_isWrong_239 : decode cX12_isWrong 239 = .ok (.iload_n 3, 1) := by decide +kernel
theorem dX12_isWrong_240 : decode cX12_isWrong 240 = .ok (.invokestatic 151, 3) := by decide +kernel
theorem dX12_isWrong_243 : decode cX12_isWrong 243 = .ok (.ifCond .ne 19, 3) := by decide +kernel
theorem dX12_isWrong_246 : decode cX12_isWrong 246 = .ok (.aload_n 0, 1) := by decide +kernel
theorem dX12_isWrong_247 : decode cX12_isWrong 247 = .ok (.iload_n 3, 1) := by decide +kernel
theorem dX12_isWrong_248 : decode cX12_isWrong 248 = .ok (.invokevirtual 148, 3) := by decide +kernel
theorem dX12_isWrong_251 : decode cX12_isWrong 251 = .ok (.ifCond .ne 11, 3) := by decide +kernel
theorem dX12_isWrong_254 : decode cX12_isWrong 254 = .ok (.aload_n 0, 1) := by decide +kernel
theorem dX12_isWrong_255 : decode cX12_isWrong 255 = .ok (.iload_n 3, 1) := by decide +kernel
theorem dX12_isWrong_256 : decode cX12_isWrong 256 = .ok (.invokevirtual 142, 3) := by decide +kernel
theorem dX12_isWrong_259 : decode cX12_isWrong 259 = .ok (.ifCond .eq 14, 3) := by decide +kernel
theorem dX12_isWrong_262 : decode cX12_isWrong 262 = .ok (.aload_n 0, 1) := by decide +kernel
theorem dX12_isWrong_263 : decode cX12_isWrong 263 = .ok (.iload_n 1, 1) := by decide +kernel
theorem dX12_isWrong_264 : decode cX12_isWrong 264 = .ok (.iconst 3, 1) := by decide +kernel
theorem dX12_isWrong_265 : decode cX12_isWrong 265 = .ok (.iload 4, 2) := by decide +kernel
theorem dX12_isWrong_267 : decode cX12_isWrong 267 = .ok (.invokevirtual 154, 3) := by decide +kernel
theorem dX12_isWrong_270 : decode cX12_isWrong 270 = .ok (.ifCond .ne 7, 3) := by decide +kernel
theorem dX12_isWrong_273 : decode cX12_isWrong 273 = .ok (.iconst 1, 1) := by decide +kernel
theorem dX12_isWrong_274 : decode cX12_isWrong 274 = .ok (.goto 4, 3) := by decide +kernel
theorem dX12_isWrong_277 : decode cX12_isWrong 277 = .ok (.iconst 0, 1) := by decide +kernel
theorem dX12_isWrong_278 : decode cX12_isWrong 278 = .ok (.ireturn, 1) := by decide +kernel
theorem dX12_isWrong_279 : decode cX12_isWrong 279 = .ok (.aload_n 0, 1) := by decide +kernel
theorem dX12_isWrong_280 : decode cX12_isWrong 280 = .ok (.iload_n 1, 1) := by decide +kernel
theorem dX12_isWrong_281 : decode cX12_isWrong 281 = .ok (.iconst 1, 1) := by decide +kernel
theorem dX12_isWrong_282 : decode cX12_isWrong 282 = .ok (.iload_n 2, 1) := by decide +kernel
theorem dX12_isWrong_283 : decode cX12_isWrong 283 = .ok (.invokevirtual 154, 3) := by decide +kernel
theorem dX12_isWrong_286 : decode cX12_isWrong 286 = .ok (.ifCond .ne 7, 3) := by decide +kernel
theorem dX12_isWrong_289 : decode cX12_isWrong 289 = .ok (.iconst 1, 1) := by decide +kernel
theorem dX12_isWrong_290 : decode cX12_isWrong 290 = .ok (.goto 4, 3) := by decide +kernel
theorem dX12_isWrong_293 : decode cX12_isWrong 293 = .ok (.iconst 0, 1) := by decide +kernel
theorem dX12_isWrong_294 : decode cX12_isWrong 294 = .ok (.ireturn, 1) := by decide +kernel
theorem dX12_firstWrong_0 : decode cX12_firstWrong 0 = .ok (.iconst 0, 1) := by decide +kernel
theorem dX12_firstWrong_1 : decode cX12_firstWrong 1 = .ok (.istore_n 1, 1) := by decide +kernel
theorem dX12_firstWrong_2 : decode cX12_firstWrong 2 = .ok (.iload_n 1, 1) := by decide +kernel
theorem dX12_firstWrong_3 : decode cX12_firstWrong 3 = .ok (.aload_n 0, 1) := by decide +kernel
theorem dX12_firstWrong_4 : decode cX12_firstWrong 4 = .ok (.getfield 107, 3) := by decide +kernel
theorem dX12_firstWrong_7 : decode cX12_firstWrong 7 = .ok (.if_icmp .ge 17, 3) := by decide +kernel
theorem dX12_firstWrong_10 : decode cX12_firstWrong 10 = .ok (.aload_n 0, 1) := by decide +kernel
theorem dX12_firstWrong_11 : decode cX12_firstWrong 11 = .ok (.iload_n 1, 1) := by decide +kernel
theorem dX12_firstWrong_12 : decode cX12_firstWrong 12 = .ok (.invokevirtual 157, 3) := by decide +kernel
theorem dX12_firstWrong_15 : decode cX12_firstWrong 15 = .ok (.ifCond .ne 9, 3) := by decide +kernel
theorem dX12_firstWrong_18 : decode cX12_firstWrong 18 = .ok (.iinc 1 1, 3) := by decide +kernel
theorem dX12_firstWrong_21 : decode cX12_firstWrong 21 = .ok (.goto (-19), 3) := by decide +kernel
theorem dX12_firstWrong_24 : decode cX12_firstWrong 24 = .ok (.aload_n 0, 1) := by decide +kernel
theorem dX12_firstWrong_25 : decode cX12_firstWrong 25 = .ok (.iconst 1, 1) := by decide +kernel
theorem dX12_firstWrong_26 : decode cX12_firstWrong 26 = .ok (.iconst 0, 1) := by decide +kernel
theorem dX12_firstWrong_27 : decode cX12_firstWrong 27 = .ok (.aload_n 0, 1) := by decide +kernel
theorem dX12_firstWrong_28 : decode cX12_firstWrong 28 = .ok (.getfield 107, 3) := by decide +kernel
theorem dX12_firstWrong_31 : decode cX12_firstWrong 31 = .ok (.invokevirtual 128, 3) := by decide +kernel
theorem dX12_firstWrong_34 : decode cX12_firstWrong 34 = .ok (.ifCond .le 20, 3) := by decide +kernel
theorem dX12_firstWrong_37 : decode cX12_firstWrong 37 = .ok (.aload_n 0, 1) := by decide +kernel
theorem dX12_firstWrong_38 : decode cX12_firstWrong 38 = .ok (.iconst 0, 1) := by decide +kernel
theorem dX12_firstWrong_39 : decode cX12_firstWrong 39 = .ok (.iconst 0, 1) := by decide +kernel
theorem dX12_firstWrong_40 : decode cX12_firstWrong 40 = .ok (.aload_n 0, 1) := by decide +kernel
theorem dX12_firstWrong_41 : decode cX12_firstWrong 41 = .ok (.getfield 107, 3) := by decide +kernel
theorem dX12_firstWrong_44 : decode cX12_firstWrong 44 = .ok (.invokevirtual 128, 3) := by decide +kernel
theorem dX12_firstWrong_47 : decode cX12_firstWrong 47 = .ok (.ifCond .le 7, 3) := by decide +kernel
theorem dX12_firstWrong_50 : decode cX12_firstWrong 50 = .ok (.iconst 1, 1) := by decide +kernel
theorem dX12_firstWrong_51 : decode cX12_firstWrong 51 = .ok (.goto 4, 3) := by decide +kernel
theorem dX12_firstWrong_54 : decode cX12_firstWrong 54 = .ok (.iconst 0, 1) := by decide +kernel
theorem dX12_firstWrong_55 : decode cX12_firstWrong 55 = .ok (.istore_n 2, 1) := by decide +kernel
theorem dX12_firstWrong_56 : decode cX12_firstWrong 56 = .ok (.iload_n 1, 1) := by decide +kernel
theorem dX12_firstWrong_57 : decode cX12_firstWrong 57 = .ok (.aload_n 0, 1) := by decide +kernel
theorem dX12_firstWrong_58 : decode cX12_firstWrong 58 = .ok (.getfield 107, 3) := by decide +kernel
theorem dX12_firstWrong_61 : decode cX12_firstWrong 61 = .ok (.if_icmp .lt 7, 3) := by decide +kernel
theorem dX12_firstWrong_64 : decode cX12_firstWrong 64 = .ok (.iload_n 2, 1) := by decide +kernel
theorem dX12_firstWrong_65 : decode cX12_firstWrong 65 = .ok (.ifCond .ne 7, 3) := by decide +kernel
theorem dX12_firstWrong_68 : decode cX12_firstWrong 68 = .ok (.iload_n 1, 1) := by decide +kernel
theorem dX12_firstWrong_69 : decode cX12_firstWrong 69 = .ok (.goto 4, 3) := by decide +kernel
theorem dX12_firstWrong_72 : decode cX12_firstWrong 72 = .ok (.iconst (-1), 1) := by decide +kernel
theorem dX12_firstWrong_73 : decode cX12_firstWrong 73 = .ok (.ireturn, 1) := by decide +kernel
theorem dX12_typeStatement_0 : decode cX12_typeStatement 0 = .ok (.iload_n 1, 1) := by decide +kernel
theorem dX12_typeStatement_1 : decode cX12_typeStatement 1 = .ok (.istore_n 2, 1) := by decide +kernel
theorem dX12_typeStatement_2 : decode cX12_typeStatement 2 = .ok (.iconst 0, 1) := by decide +kernel
theorem dX12_typeStatement_3 : decode cX12_typeStatement 3 = .ok (.istore_n 3, 1) := by decide +kernel
theorem dX12_typeStatement_4 : decode cX12_typeStatement 4 = .ok (.iload_n 3, 1) := by decide +kernel
theorem dX12_typeStatement_5 : decode cX12_typeStatement 5 = .ok (.bipush 39, 2) := by decide +kernel
theorem dX12_typeStatement_7 : decode cX12_typeStatement 7 = .ok (.if_icmp .ge 41, 3) := by decide +kernel
theorem dX12_typeStatement_10 : decode cX12_typeStatement 10 = .ok (.aload_n 0, 1) := by decide +kernel
theorem dX12_typeStatement_11 : decode cX12_typeStatement 11 = .ok (.getfield 17, 3) := by decide +kernel
theorem dX12_typeStatement_14 : decode cX12_typeStatement 14 = .ok (.iload_n 3, 1) := by decide +kernel
theorem dX12_typeStatement_15 : decode cX12_typeStatement 15 = .ok (.iaload, 1) := by decide +kernel
theorem dX12_typeStatement_16 : decode cX12_typeStatement 16 = .ok (.iconst 1, 1) := by decide +kernel
theorem dX12_typeStatement_17 : decode cX12_typeStatement 17 = .ok (.if_icmp .ne 7, 3) := by decide +kernel
theorem dX12_typeStatement_20 : decode cX12_typeStatement 20 = .ok (.iload_n 2, 1) := by decide +kernel
theorem dX12_typeStatement_21 : decode cX12_typeStatement 21 = .ok (.ifCond .le 27, 3) := by decide +kernel
theorem dX12_typeStatement_24 : decode cX12_typeStatement 24 = .ok (.aload_n 0, 1) := by decide +kernel
theorem dX12_typeStatement_25 : decode cX12_typeStatement 25 = .ok (.getfield 17, 3) := by decide +kernel
theorem dX12_typeStatement_28 : decode cX12_typeStatement 28 = .ok (.iload_n 3, 1) := by decide +kernel
theorem dX12_typeStatement_29 : decode cX12_typeStatement 29 = .ok (.iaload, 1) := by decide +kernel
theorem dX12_typeStatement_30 : decode cX12_typeStatement 30 = .ok (.iconst 1, 1) := by decide +kernel
theorem dX12_typeStatement_31 : decode cX12_typeStatement 31 = .ok (.if_icmp .ne 9, 3) := by decide +kernel
theorem dX12_typeStatement_34 : decode cX12_typeStatement 34 = .ok (.iload_n 2, 1) := by decide +kernel
theorem dX12_typeStatement_35 : decode cX12_typeStatement 35 = .ok (.iconst 1, 1) := by decide +kernel
theorem dX12_typeStatement_36 : decode cX12_typeStatement 36 = .ok (.isub, 1) := by decide +kernel
theorem dX12_typeStatement_37 : decode cX12_typeStatement 37 = .ok (.goto 4, 3) := by decide +kernel
theorem dX12_typeStatement_40 : decode cX12_typeStatement 40 = .ok (.iload_n 2, 1) := by decide +kernel
theorem dX12_typeStatement_41 : decode cX12_typeStatement 41 = .ok (.istore_n 2, 1) := by decide +kernel
theorem dX12_typeStatement_42 : decode cX12_typeStatement 42 = .ok (.iinc 3 1, 3) := by decide +kernel
theorem dX12_typeStatement_45 : decode cX12_typeStatement 45 = .ok (.goto (-41), 3) := by decide +kernel
theorem dX12_typeStatement_48 : decode cX12_typeStatement 48 = .ok (.iload_n 3, 1) := by decide +kernel
theorem dX12_typeStatement_49 : decode cX12_typeStatement 49 = .ok (.ireturn, 1) := by decide +kernel
theorem dX12_standsFor_0 : decode cX12_standsFor 0 = .ok (.iconst 0, 1) := by decide +kernel
theorem dX12_standsFor_1 : decode cX12_standsFor 1 = .ok (.istore_n 3, 1) := by decide +kernel
theorem dX12_standsFor_2 : decode cX12_standsFor 2 = .ok (.iconst 0, 1) := by decide +kernel
theorem dX12_standsFor_3 : decode cX12_standsFor 3 = .ok (.istore 4, 2) := by decide +kernel
theorem dX12_standsFor_5 : decode cX12_standsFor 5 = .ok (.iload 4, 2) := by decide +kernel
theorem dX12_standsFor_7 : decode cX12_standsFor 7 = .ok (.aload_n 0, 1) := by decide +kernel
theorem dX12_standsFor_8 : decode cX12_standsFor 8 = .ok (.getfield 21, 3) := by decide +kernel
theorem dX12_standsFor_11 : decode cX12_standsFor 11 = .ok (.iload_n 2, 1) := by decide +kernel
theorem dX12_standsFor_12 : decode cX12_standsFor 12 = .ok (.iaload, 1) := by decide +kernel
theorem dX12_standsFor_13 : decode cX12_standsFor 13 = .ok (.if_icmp .ge 30, 3) := by decide +kernel
theorem dX12_standsFor_16 : decode cX12_standsFor 16 = .ok (.iload_n 3, 1) := by decide +kernel
theorem dX12_standsFor_17 : decode cX12_standsFor 17 = .ok (.ifCond .ne 14, 3) := by decide +kernel
theorem dX12_standsFor_20 : decode cX12_standsFor 20 = .ok (.aload_n 0, 1) := by decide +kernel
theorem dX12_standsFor_21 : decode cX12_standsFor 21 = .ok (.iload_n 2, 1) := by decide +kernel
theorem dX12_standsFor_22 : decode cX12_standsFor 22 = .ok (.iload 4, 2) := by decide +kernel
theorem dX12_standsFor_24 : decode cX12_standsFor 24 = .ok (.invokevirtual 124, 3) := by decide +kernel
theorem dX12_standsFor_27 : decode cX12_standsFor 27 = .ok (.iload_n 1, 1) := by decide +kernel
theorem dX12_standsFor_28 : decode cX12_standsFor 28 = .ok (.if_icmp .ne 7, 3) := by decide +kernel
theorem dX12_standsFor_31 : decode cX12_standsFor 31 = .ok (.iconst 1, 1) := by decide +kernel
theorem dX12_standsFor_32 : decode cX12_standsFor 32 = .ok (.goto 4, 3) := by decide +kernel
theorem dX12_standsFor_35 : decode cX12_standsFor 35 = .ok (.iconst 0, 1) := by decide +kernel
theorem dX12_standsFor_36 : decode cX12_standsFor 36 = .ok (.istore_n 3, 1) := by decide +kernel
theorem dX12_standsFor_37 : decode cX12_standsFor 37 = .ok (.iinc 4 1, 3) := by decide +kernel
theorem dX12_standsFor_40 : decode cX12_standsFor 40 = .ok (.goto (-35), 3) := by decide +kernel
theorem dX12_standsFor_43 : decode cX12_standsFor 43 = .ok (.iload_n 3, 1) := by decide +kernel
theorem dX12_standsFor_44 : decode cX12_standsFor 44 = .ok (.ireturn, 1) := by decide +kernel
theorem dX12_isAbout_0 : decode cX12_isAbout 0 = .ok (.aload_n 0, 1) := by decide +kernel
theorem dX12_isAbout_1 : decode cX12_isAbout 1 = .ok (.iload_n 1, 1) := by decide +kernel
theorem dX12_isAbout_2 : decode cX12_isAbout 2 = .ok (.iconst 1, 1) := by decide +kernel
theorem dX12_isAbout_3 : decode cX12_isAbout 3 = .ok (.invokevirtual 124, 3) := by decide +kernel
theorem dX12_isAbout_6 : decode cX12_isAbout 6 = .ok (.istore 4, 2) := by decide +kernel
theorem dX12_isAbout_8 : decode cX12_isAbout 8 = .ok (.aload_n 0, 1) := by decide +kernel
theorem dX12_isAbout_9 : decode cX12_isAbout 9 = .ok (.aload_n 0, 1) := by decide +kernel
theorem dX12_isAbout_10 : decode cX12_isAbout 10 = .ok (.iload_n 1, 1) := by decide +kernel
theorem dX12_isAbout_11 : decode cX12_isAbout 11 = .ok (.iconst 0, 1) := by decide +kernel
theorem dX12_isAbout_12 : decode cX12_isAbout 12 = .ok (.invokevirtual 124, 3) := by decide +kernel
theorem dX12_isAbout_15 : decode cX12_isAbout 15 = .ok (.aload_n 0, 1) := by decide +kernel
theorem dX12_isAbout_16 : decode cX12_isAbout 16 = .ok (.iload_n 2, 1) := by decide +kernel
theorem dX12_isAbout_17 : decode cX12_isAbout 17 = .ok (.invokevirtual 160, 3) := by decide +kernel
theorem dX12_isAbout_20 : decode cX12_isAbout 20 = .ok (.invokevirtual 163, 3) := by decide +kernel
theorem dX12_isAbout_23 : decode cX12_isAbout 23 = .ok (.ifCond .eq 37, 3) := by decide +kernel
theorem dX12_isAbout_26 : decode cX12_isAbout 26 = .ok (.iload 4, 2) := by decide +kernel
theorem dX12_isAbout_28 : decode cX12_isAbout 28 = .ok (.invokestatic 151, 3) := by decide +kernel
theorem dX12_isAbout_31 : decode cX12_isAbout 31 = .ok (.ifCond .eq 11, 3) := by decide +kernel
theorem dX12_isAbout_34 : decode cX12_isAbout 34 = .ok (.iload_n 2, 1) := by decide +kernel
theorem dX12_isAbout_35 : decode cX12_isAbout 35 = .ok (.iload_n 3, 1) := by decide +kernel
theorem dX12_isAbout_36 : decode cX12_isAbout 36 = .ok (.if_icmp .ne 24, 3) := by decide +kernel
theorem dX12_isAbout_39 : decode cX12_isAbout 39 = .ok (.goto 17, 3) := by decide +kernel
theorem dX12_isAbout_42 : decode cX12_isAbout 42 = .ok (.aload_n 0, 1) := by decide +kernel
theorem dX12_isAbout_43 : decode cX12_isAbout 43 = .ok (.iload 4, 2) := by decide +kernel
theorem dX12_isAbout_45 : decode cX12_isAbout 45 = .ok (.aload_n 0, 1) := by decide +kernel
theorem dX12_isAbout_46 : decode cX12_isAbout 46 = .ok (.iload_n 3, 1) := by decide +kernel
theorem dX12_isAbout_47 : decode cX12_isAbout 47 = .ok (.invokevirtual 160, 3) := by decide +kernel
theorem dX12_isAbout_50 : decode cX12_isAbout 50 = .ok (.invokevirtual 163, 3) := by decide +kernel
theorem dX12_isAbout_53 : decode cX12_isAbout 53 = .ok (.ifCond .eq 7, 3) := by decide +kernel
theorem dX12_isAbout_56 : decode cX12_isAbout 56 = .ok (.iconst 1, 1) := by decide +kernel
theorem dX12_isAbout_57 : decode cX12_isAbout 57 = .ok (.goto 4, 3) := by decide +kernel
theorem dX12_isAbout_60 : decode cX12_isAbout 60 = .ok (.iconst 0, 1) := by decide +kernel
theorem dX12_isAbout_61 : decode cX12_isAbout 61 = .ok (.ireturn, 1) := by decide +kernel
theorem dX12_firstAgainst_0 : decode cX12_firstAgainst 0 = .ok (.aload_n 0, 1) := by decide +kernel
theorem dX12_firstAgainst_1 : decode cX12_firstAgainst 1 = .ok (.iconst 1, 1) := by decide +kernel
theorem dX12_firstAgainst_2 : decode cX12_firstAgainst 2 = .ok (.iconst 0, 1) := by decide +kernel
theorem dX12_firstAgainst_3 : decode cX12_firstAgainst 3 = .ok (.aload_n 0, 1) := by decide +kernel
theorem dX12_firstAgainst_4 : decode cX12_firstAgainst 4 = .ok (.getfield 107, 3) := by decide +kernel
theorem dX12_firstAgainst_7 : decode cX12_firstAgainst 7 = .ok (.invokevirtual 128, 3) := by decide +kernel
theorem dX12_firstAgainst_10 : decode cX12_firstAgainst 10 = .ok (.istore_n 1, 1) := by decide +kernel
theorem dX12_firstAgainst_11 : decode cX12_firstAgainst 11 = .ok (.iconst 0, 1) := by decide +kernel
theorem dX12_firstAgainst_12 : decode cX12_firstAgainst 12 = .ok (.istore_n 2, 1) := by decide +kernel
theorem dX12_firstAgainst_13 : decode cX12_firstAgainst 13 = .ok (.iload_n 2, 1) := by decide +kernel
theorem dX12_firstAgainst_14 : decode cX12_firstAgainst 14 = .ok (.aload_n 0, 1) := by decide +kernel
theorem dX12_firstAgainst_15 : decode cX12_firstAgainst 15 = .ok (.getfield 107, 3) := by decide +kernel
theorem dX12_firstAgainst_18 : decode cX12_firstAgainst 18 = .ok (.if_icmp .ge 132, 3) := by decide +kernel
theorem dX12_firstAgainst_21 : decode cX12_firstAgainst 21 = .ok (.iconst 0, 1) := by decide +kernel
theorem dX12_firstAgainst_22 : decode cX12_firstAgainst 22 = .ok (.istore_n 3, 1) := by decide +kernel
theorem dX12_firstAgainst_23 : decode cX12_firstAgainst 23 = .ok (.iload_n 3, 1) := by decide +kernel
theorem dX12_firstAgainst_24 : decode cX12_firstAgainst 24 = .ok (.aload_n 0, 1) := by decide +kernel
theorem dX12_firstAgainst_25 : decode cX12_firstAgainst 25 = .ok (.getfield 107, 3) := by decide +kernel
theorem dX12_firstAgainst_28 : decode cX12_firstAgainst 28 = .ok (.if_icmp .ge 116, 3) := by decide +kernel
theorem dX12_firstAgainst_31 : decode cX12_firstAgainst 31 = .ok (.aload_n 0, 1) := by decide +kernel
theorem dX12_firstAgainst_32 : decode cX12_firstAgainst 32 = .ok (.getfield 17, 3) := by decide +kernel
theorem dX12_firstAgainst_35 : decode cX12_firstAgainst 35 = .ok (.iload_n 2, 1) := by decide +kernel
theorem dX12_firstAgainst_36 : decode cX12_firstAgainst 36 = .ok (.iaload, 1) := by decide +kernel
theorem dX12_firstAgainst_37 : decode cX12_firstAgainst 37 = .ok (.iconst 3, 1) := by decide +kernel
theorem dX12_firstAgainst_38 : decode cX12_firstAgainst 38 = .ok (.if_icmp .ne 106, 3) := by decide +kernel
theorem dX12_firstAgainst_41 : decode cX12_firstAgainst 41 = .ok (.aload_n 0, 1) := by decide +kernel
theorem dX12_firstAgainst_42 : decode cX12_firstAgainst 42 = .ok (.getfield 17, 3) := by decide +kernel
theorem dX12_firstAgainst_45 : decode cX12_firstAgainst 45 = .ok (.iload_n 3, 1) := by decide +kernel
theorem dX12_firstAgainst_46 : decode cX12_firstAgainst 46 = .ok (.iaload, 1) := by decide +kernel
theorem dX12_firstAgainst_47 : decode cX12_firstAgainst 47 = .ok (.iconst 2, 1) := by decide +kernel
theorem dX12_firstAgainst_48 : decode cX12_firstAgainst 48 = .ok (.if_icmp .ne 31, 3) := by decide +kernel
theorem dX12_firstAgainst_51 : decode cX12_firstAgainst 51 = .ok (.aload_n 0, 1) := by decide +kernel
theorem dX12_firstAgainst_52 : decode cX12_firstAgainst 52 = .ok (.iload_n 3, 1) := by decide +kernel
theorem dX12_firstAgainst_53 : decode cX12_firstAgainst 53 = .ok (.iconst 2, 1) := by decide +kernel
theorem dX12_firstAgainst_54 : decode cX12_firstAgainst 54 = .ok (.invokevirtual 124, 3) := by decide +kernel
theorem dX12_firstAgainst_57 : decode cX12_firstAgainst 57 = .ok (.aload_n 0, 1) := by decide +kernel
theorem dX12_firstAgainst_58 : decode cX12_firstAgainst 58 = .ok (.iload_n 2, 1) := by decide +kernel
theorem dX12_firstAgainst_59 : decode cX12_firstAgainst 59 = .ok (.iconst 2, 1) := by decide +kernel
theorem dX12_firstAgainst_60 : decode cX12_firstAgainst 60 = .ok (.invokevirtual 124, 3) := by decide +kernel
theorem dX12_firstAgainst_63 : decode cX12_firstAgainst 63 = .ok (.if_icmp .ne 16, 3) := by decide +kernel
theorem dX12_firstAgainst_66 : decode cX12_firstAgainst 66 = .ok (.aload_n 0, 1) := by decide +kernel
theorem dX12_firstAgainst_67 : decode cX12_firstAgainst 67 = .ok (.iload_n 3, 1) := by decide +kernel
theorem dX12_firstAgainst_68 : decode cX12_firstAgainst 68 = .ok (.iload_n 2, 1) := by decide +kernel
theorem dX12_firstAgainst_69 : decode cX12_firstAgainst 69 = .ok (.invokevirtual 166, 3) := by decide +kernel
theorem dX12_firstAgainst_72 : decode cX12_firstAgainst 72 = .ok (.ifCond .eq 7, 3) := by decide +kernel
theorem dX12_firstAgainst_75 : decode cX12_firstAgainst 75 = .ok (.iconst 1, 1) := by decide +kernel
theorem dX12_firstAgainst_76 : decode cX12_firstAgainst 76 = .ok (.goto 4, 3) := by decide +kernel
theorem dX12_firstAgainst_79 : decode cX12_firstAgainst 79 = .ok (.iconst 0, 1) := by decide +kernel
theorem dX12_firstAgainst_80 : decode cX12_firstAgainst 80 = .ok (.istore 4, 2) := by decide +kernel
theorem dX12_firstAgainst_82 : decode cX12_firstAgainst 82 = .ok (.iconst 0, 1) := by decide +kernel
theorem dX12_firstAgainst_83 : decode cX12_firstAgainst 83 = .ok (.istore 5, 2) := by decide +kernel
theorem dX12_firstAgainst_85 : decode cX12_firstAgainst 85 = .ok (.iload 5, 2) := by decide +kernel
theorem dX12_firstAgainst_87 : decode cX12_firstAgainst 87 = .ok (.iload_n 1, 1) := by decide +kernel
theorem dX12_firstAgainst_88 : decode cX12_firstAgainst 88 = .ok (.iload_n 1, 1) := by decide +kernel
theorem dX12_firstAgainst_89 : decode cX12_firstAgainst 89 = .ok (.imul, 1) := by decide +kernel
theorem dX12_firstAgainst_90 : decode cX12_firstAgainst 90 = .ok (.if_icmp .ge 48, 3) := by decide +kernel
theorem dX12_firstAgainst_93 : decode cX12_firstAgainst 93 = .ok (.iload 4, 2) := by decide +kernel
theorem dX12_firstAgainst_95 : decode cX12_firstAgainst 95 = .ok (.ifCond .eq 43, 3) := by decide +kernel
theorem dX12_firstAgainst_98 : decode cX12_firstAgainst 98 = .ok (.aload_n 0, 1) := by decide +kernel
theorem dX12_firstAgainst_99 : decode cX12_firstAgainst 99 = .ok (.iload_n 2, 1) := by decide +kernel
theorem dX12_firstAgainst_100 : decode cX12_firstAgainst 100 = .ok (.iload 5, 2) := by decide +kernel
theorem dX12_firstAgainst_102 : decode cX12_firstAgainst 102 = .ok (.iload_n 1, 1) := by decide +kernel
theorem dX12_firstAgainst_103 : decode cX12_firstAgainst 103 = .ok (.idiv, 1) := by decide +kernel
theorem dX12_firstAgainst_104 : decode cX12_firstAgainst 104 = .ok (.iload 5, 2) := by decide +kernel
theorem dX12_firstAgainst_106 : decode cX12_firstAgainst 106 = .ok (.iload_n 1, 1) := by decide +kernel
theorem dX12_firstAgainst_107 : decode cX12_firstAgainst 107 = .ok (.irem, 1) := by decide +kernel
theorem dX12_firstAgainst_108 : decode cX12_firstAgainst 108 = .ok (.invokevirtual 169, 3) := by decide +kernel
theorem dX12_firstAgainst_111 : decode cX12_firstAgainst 111 = .ok (.ifCond .eq 21, 3) := by decide +kernel
theorem dX12_firstAgainst_114 : decode cX12_firstAgainst 114 = .ok (.aload_n 0, 1) := by decide +kernel
theorem dX12_firstAgainst_115 : decode cX12_firstAgainst 115 = .ok (.iload_n 3, 1) := by decide +kernel
theorem dX12_firstAgainst_116 : decode cX12_firstAgainst 116 = .ok (.iload 5, 2) := by decide +kernel
theorem dX12_firstAgainst_118 : decode cX12_firstAgainst 118 = .ok (.iload_n 1, 1) := by decide +kernel
theorem dX12_firstAgainst_119 : decode cX12_firstAgainst 119 = .ok (.idiv, 1) := by decide +kernel
theorem dX12_firstAgainst_120 : decode cX12_firstAgainst 120 = .ok (.iload 5, 2) := by decide +kernel
theorem dX12_firstAgainst_122 : decode cX12_firstAgainst 122 = .ok (.iload_n 1, 1) := by decide +kernel
theorem dX12_firstAgainst_123 : decode cX12_firstAgainst 123 = .ok (.irem, 1) := by decide +kernel
theorem dX12_firstAgainst_124 : decode cX12_firstAgainst 124 = .ok (.invokevirtual 169, 3) := by decide +kernel
theorem dX12_firstAgainst_127 : decode cX12_firstAgainst 127 = .ok (.ifCond .eq 5, 3) := by decide +kernel
theorem dX12_firstAgainst_130 : decode cX12_firstAgainst 130 = .ok (.iload_n 2, 1) := by decide +kernel
theorem dX12_firstAgainst_131 : decode cX12_firstAgainst 131 = .ok (.ireturn, 1) := by decide +kernel
theorem dX12_firstAgainst_132 : decode cX12_firstAgainst 132 = .ok (.iinc 5 1, 3) := by decide +kernel
theorem dX12_firstAgainst_135 : decode cX12_firstAgainst 135 = .ok (.goto (-50), 3) := by decide +kernel
theorem dX12_firstAgainst_138 : decode cX12_firstAgainst 138 = .ok (.iinc 3 1, 3) := by decide +kernel
theorem dX12_firstAgainst_141 : decode cX12_firstAgainst 141 = .ok (.goto (-118), 3) := by decide +kernel
theorem dX12_firstAgainst_144 : decode cX12_firstAgainst 144 = .ok (.iinc 2 1, 3) := by decide +kernel
theorem dX12_firstAgainst_147 : decode cX12_firstAgainst 147 = .ok (.goto (-134), 3) := by decide +kernel
theorem dX12_firstAgainst_150 : decode cX12_firstAgainst 150 = .ok (.iconst (-1), 1) := by decide +kernel
theorem dX12_firstAgainst_151 : decode cX12_firstAgainst 151 = .ok (.ireturn, 1) := by decide +kernel
theorem dX12_shared_0 : decode cX12_shared 0 = .ok (.iconst 0, 1) := by decide +kernel
theorem dX12_shared_1 : decode cX12_shared 1 = .ok (.istore_n 3, 1) := by decide +kernel
theorem dX12_shared_2 : decode cX12_shared 2 = .ok (.iconst 3, 1) := by decide +kernel
theorem dX12_shared_3 : decode cX12_shared 3 = .ok (.istore 4, 2) := by decide +kernel
theorem dX12_shared_5 : decode cX12_shared 5 = .ok (.iload 4, 2) := by decide +kernel
theorem dX12_shared_7 : decode cX12_shared 7 = .ok (.aload_n 0, 1) := by decide +kernel
theorem dX12_shared_8 : decode cX12_shared 8 = .ok (.getfield 21, 3) := by decide +kernel
theorem dX12_shared_11 : decode cX12_shared 11 = .ok (.iload_n 1, 1) := by decide +kernel
theorem dX12_shared_12 : decode cX12_shared 12 = .ok (.iaload, 1) := by decide +kernel
theorem dX12_shared_13 : decode cX12_shared 13 = .ok (.if_icmp .ge 56, 3) := by decide +kernel
theorem dX12_shared_16 : decode cX12_shared 16 = .ok (.iconst 3, 1) := by decide +kernel
theorem dX12_shared_17 : decode cX12_shared 17 = .ok (.istore 5, 2) := by decide +kernel
theorem dX12_shared_19 : decode cX12_shared 19 = .ok (.iload 5, 2) := by decide +kernel
theorem dX12_shared_21 : decode cX12_shared 21 = .ok (.aload_n 0, 1) := by decide +kernel
theorem dX12_shared_22 : decode cX12_shared 22 = .ok (.getfield 21, 3) := by decide +kernel
theorem dX12_shared_25 : decode cX12_shared 25 = .ok (.iload_n 2, 1) := by decide +kernel
theorem dX12_shared_26 : decode cX12_shared 26 = .ok (.iaload, 1) := by decide +kernel
theorem dX12_shared_27 : decode cX12_shared 27 = .ok (.if_icmp .ge 36, 3) := by decide +kernel
theorem dX12_shared_30 : decode cX12_shared 30 = .ok (.iload_n 3, 1) := by decide +kernel
theorem dX12_shared_31 : decode cX12_shared 31 = .ok (.ifCond .ne 20, 3) := by decide +kernel
theorem dX12_shared_34 : decode cX12_shared 34 = .ok (.aload_n 0, 1) := by decide +kernel
theorem dX12_shared_35 : decode cX12_shared 35 = .ok (.iload_n 1, 1) := by decide +kernel
theorem dX12_shared_36 : decode cX12_shared 36 = .ok (.iload 4, 2) := by decide +kernel
theorem dX12_shared_38 : decode cX12_shared 38 = .ok (.invokevirtual 124, 3) := by decide +kernel
theorem dX12_shared_41 : decode cX12_shared 41 = .ok (.aload_n 0, 1) := by decide +kernel
theorem dX12_shared_42 : decode cX12_shared 42 = .ok (.iload_n 2, 1) := by decide +kernel
theorem dX12_shared_43 : decode cX12_shared 43 = .ok (.iload 5, 2) := by decide +kernel
theorem dX12_shared_45 : decode cX12_shared 45 = .ok (.invokevirtual 124, 3) := by decide +kernel
theorem dX12_shared_48 : decode cX12_shared 48 = .ok (.if_icmp .ne 7, 3) := by decide +kernel
theorem dX12_shared_51 : decode cX12_shared 51 = .ok (.iconst 1, 1) := by decide +kernel
theorem dX12_shared_52 : decode cX12_shared 52 = .ok (.goto 4, 3) := by decide +kernel
theorem dX12_shared_55 : decode cX12_shared 55 = .ok (.iconst 0, 1) := by decide +kernel
theorem dX12_shared_56 : decode cX12_shared 56 = .ok (.istore_n 3, 1) := by decide +kernel
theorem dX12_shared_57 : decode cX12_shared 57 = .ok (.iinc 5 1, 3) := by decide +kernel
theorem dX12_shared_60 : decode cX12_shared 60 = .ok (.goto (-41), 3) := by decide +kernel
theorem dX12_shared_63 : decode cX12_shared 63 = .ok (.iinc 4 1, 3) := by decide +kernel
theorem dX12_shared_66 : decode cX12_shared 66 = .ok (.goto (-61), 3) := by decide +kernel
theorem dX12_shared_69 : decode cX12_shared 69 = .ok (.iload_n 3, 1) := by decide +kernel
theorem dX12_shared_70 : decode cX12_shared 70 = .ok (.ireturn, 1) := by decide +kernel
theorem dX12_classNumber_0 : decode cX12_classNumber 0 = .ok (.iconst 0, 1) := by decide +kernel
theorem dX12_classNumber_1 : decode cX12_classNumber 1 = .ok (.istore_n 2, 1) := by decide +kernel
theorem dX12_classNumber_2 : decode cX12_classNumber 2 = .ok (.iload_n 2, 1) := by decide +kernel
theorem dX12_classNumber_3 : decode cX12_classNumber 3 = .ok (.iconst 2, 1) := by decide +kernel
theorem dX12_classNumber_4 : decode cX12_classNumber 4 = .ok (.if_icmp .ge 19, 3) := by decide +kernel
theorem dX12_classNumber_7 : decode cX12_classNumber 7 = .ok (.aload_n 0, 1) := by decide +kernel
theorem dX12_classNumber_8 : decode cX12_classNumber 8 = .ok (.getfield 51, 3) := by decide +kernel
theorem dX12_classNumber_11 : decode cX12_classNumber 11 = .ok (.iload_n 2, 1) := by decide +kernel
theorem dX12_classNumber_12 : decode cX12_classNumber 12 = .ok (.iaload, 1) := by decide +kernel
theorem dX12_classNumber_13 : decode cX12_classNumber 13 = .ok (.iload_n 1, 1) := by decide +kernel
theorem dX12_classNumber_14 : decode cX12_classNumber 14 = .ok (.if_icmp .eq 9, 3) := by decide +kernel
theorem dX12_classNumber_17 : decode cX12_classNumber 17 = .ok (.iinc 2 1, 3) := by decide +kernel
theorem dX12_classNumber_20 : decode cX12_classNumber 20 = .ok (.goto (-18), 3) := by decide +kernel
theorem dX12_classNumber_23 : decode cX12_classNumber 23 = .ok (.iload_n 2, 1) := by decide +kernel
theorem dX12_classNumber_24 : decode cX12_classNumber 24 = .ok (.ireturn, 1) := by decide +kernel
theorem dX12_typeNumber_0 : decode cX12_typeNumber 0 = .ok (.iconst 0, 1) := by decide +kernel
theorem dX12_typeNumber_1 : decode cX12_typeNumber 1 = .ok (.istore_n 2, 1) := by decide +kernel
theorem dX12_typeNumber_2 : decode cX12_typeNumber 2 = .ok (.iload_n 2, 1) := by decide +kernel
theorem dX12_typeNumber_3 : decode cX12_typeNumber 3 = .ok (.bipush 7, 2) := by decide +kernel
theorem dX12_typeNumber_5 : decode cX12_typeNumber 5 = .ok (.if_icmp .ge 19, 3) := by decide +kernel
theorem dX12_typeNumber_8 : decode cX12_typeNumber 8 = .ok (.aload_n 0, 1) := by decide +kernel
theorem dX12_typeNumber_9 : decode cX12_typeNumber 9 = .ok (.getfield 48, 3) := by decide +kernel
theorem dX12_typeNumber_12 : decode cX12_typeNumber 12 = .ok (.iload_n 2, 1) := by decide +kernel
theorem dX12_typeNumber_13 : decode cX12_typeNumber 13 = .ok (.iaload, 1) := by decide +kernel
theorem dX12_typeNumber_14 : decode cX12_typeNumber 14 = .ok (.iload_n 1, 1) := by decide +kernel
theorem dX12_typeNumber_15 : decode cX12_typeNumber 15 = .ok (.if_icmp .eq 9, 3) := by decide +kernel
theorem dX12_typeNumber_18 : decode cX12_typeNumber 18 = .ok (.iinc 2 1, 3) := by decide +kernel
theorem dX12_typeNumber_21 : decode cX12_typeNumber 21 = .ok (.goto (-19), 3) := by decide +kernel
theorem dX12_typeNumber_24 : decode cX12_typeNumber 24 = .ok (.iload_n 2, 1) := by decide +kernel
theorem dX12_typeNumber_25 : decode cX12_typeNumber 25 = .ok (.ireturn, 1) := by decide +kernel
theorem dX12_maskOf_0 : decode cX12_maskOf 0 = .ok (.iconst 0, 1) := by decide +kernel
theorem dX12_maskOf_1 : decode cX12_maskOf 1 = .ok (.istore 4, 2) := by decide +kernel
theorem dX12_maskOf_3 : decode cX12_maskOf 3 = .ok (.iconst 0, 1) := by decide +kernel
theorem dX12_maskOf_4 : decode cX12_maskOf 4 = .ok (.istore 5, 2) := by decide +kernel
theorem dX12_maskOf_6 : decode cX12_maskOf 6 = .ok (.iload 5, 2) := by decide +kernel
theorem dX12_maskOf_8 : decode cX12_maskOf 8 = .ok (.aload_n 0, 1) := by decide +kernel
theorem dX12_maskOf_9 : decode cX12_maskOf 9 = .ok (.getfield 107, 3) := by decide +kernel
theorem dX12_maskOf_12 : decode cX12_maskOf 12 = .ok (.if_icmp .ge 122, 3) := by decide +kernel
theorem dX12_maskOf_15 : decode cX12_maskOf 15 = .ok (.iconst 1, 1) := by decide +kernel
theorem dX12_maskOf_16 : decode cX12_maskOf 16 = .ok (.istore 6, 2) := by decide +kernel
theorem dX12_maskOf_18 : decode cX12_maskOf 18 = .ok (.iload 6, 2) := by decide +kernel
theorem dX12_maskOf_20 : decode cX12_maskOf 20 = .ok (.aload_n 0, 1) := by decide +kernel
theorem dX12_maskOf_21 : decode cX12_maskOf 21 = .ok (.getfield 21, 3) := by decide +kernel
theorem dX12_maskOf_24 : decode cX12_maskOf 24 = .ok (.iload 5, 2) := by decide +kernel
theorem dX12_maskOf_26 : decode cX12_maskOf 26 = .ok (.iaload, 1) := by decide +kernel
theorem dX12_maskOf_27 : decode cX12_maskOf 27 = .ok (.if_icmp .ge 101, 3) := by decide +kernel
theorem dX12_maskOf_30 : decode cX12_maskOf 30 = .ok (.iload_n 2, 1) := by decide +kernel
theorem dX12_maskOf_31 : decode cX12_maskOf 31 = .ok (.istore 7, 2) := by decide +kernel
theorem dX12_maskOf_33 : decode cX12_maskOf 33 = .ok (.iload 7, 2) := by decide +kernel
theorem dX12_maskOf_35 : decode cX12_maskOf 35 = .ok (.aload_n 0, 1) := by decide +kernel
theorem dX12_maskOf_36 : decode cX12_maskOf 36 = .ok (.getfield 21, 3) := by decide +kernel
theorem dX12_maskOf_39 : decode cX12_maskOf 39 = .ok (.iload_n 1, 1) := by decide +kernel
theorem dX12_maskOf_40 : decode cX12_maskOf 40 = .ok (.iaload, 1) := by decide +kernel
theorem dX12_maskOf_41 : decode cX12_maskOf 41 = .ok (.if_icmp .ge 81, 3) := by decide +kernel
theorem dX12_maskOf_44 : decode cX12_maskOf 44 = .ok (.aload_n 0, 1) := by decide +kernel
theorem dX12_maskOf_45 : decode cX12_maskOf 45 = .ok (.getfield 17, 3) := by decide +kernel
theorem dX12_maskOf_48 : decode cX12_maskOf 48 = .ok (.iload 5, 2) := by decide +kernel
theorem dX12_maskOf_50 : decode cX12_maskOf 50 = .ok (.iaload, 1) := by decide +kernel
theorem dX12_maskOf_51 : decode cX12_maskOf 51 = .ok (.ifCond .ne 41, 3) := by decide +kernel
theorem dX12_maskOf_54 : decode cX12_maskOf 54 = .ok (.aload_n 0, 1) := by decide +kernel
theorem dX12_maskOf_55 : decode cX12_maskOf 55 = .ok (.iload 5, 2) := by decide +kernel
theorem dX12_maskOf_57 : decode cX12_maskOf 57 = .ok (.iconst 0, 1) := by decide +kernel
theorem dX12_maskOf_58 : decode cX12_maskOf 58 = .ok (.invokevirtual 124, 3) := by decide +kernel
theorem dX12_maskOf_61 : decode cX12_maskOf 61 = .ok (.aload_n 0, 1) := by decide +kernel
theorem dX12_maskOf_62 : decode cX12_maskOf 62 = .ok (.getfield 51, 3) := by decide +kernel
theorem dX12_maskOf_65 : decode cX12_maskOf 65 = .ok (.iload_n 3, 1) := by decide +kernel
theorem dX12_maskOf_66 : decode cX12_maskOf 66 = .ok (.iaload, 1) := by decide +kernel
theorem dX12_maskOf_67 : decode cX12_maskOf 67 = .ok (.if_icmp .ne 25, 3) := by decide +kernel
theorem dX12_maskOf_70 : decode cX12_maskOf 70 = .ok (.aload_n 0, 1) := by decide +kernel
theorem dX12_maskOf_71 : decode cX12_maskOf 71 = .ok (.iload 5, 2) := by decide +kernel
theorem dX12_maskOf_73 : decode cX12_maskOf 73 = .ok (.iload 6, 2) := by decide +kernel
theorem dX12_maskOf_75 : decode cX12_maskOf 75 = .ok (.invokevirtual 124, 3) := by decide +kernel
theorem dX12_maskOf_78 : decode cX12_maskOf 78 = .ok (.aload_n 0, 1) := by decide +kernel
theorem dX12_maskOf_79 : decode cX12_maskOf 79 = .ok (.iload_n 1, 1) := by decide +kernel
theorem dX12_maskOf_80 : decode cX12_maskOf 80 = .ok (.iload 7, 2) := by decide +kernel
theorem dX12_maskOf_82 : decode cX12_maskOf 82 = .ok (.invokevirtual 124, 3) := by decide +kernel
theorem dX12_maskOf_85 : decode cX12_maskOf 85 = .ok (.if_icmp .ne 7, 3) := by decide +kernel
theorem dX12_maskOf_88 : decode cX12_maskOf 88 = .ok (.iconst 1, 1) := by decide +kernel
theorem dX12_maskOf_89 : decode cX12_maskOf 89 = .ok (.goto 4, 3) := by decide +kernel
theorem dX12_maskOf_92 : decode cX12_maskOf 92 = .ok (.iconst 0, 1) := by decide +kernel
theorem dX12_maskOf_93 : decode cX12_maskOf 93 = .ok (.istore 8, 2) := by decide +kernel
theorem dX12_maskOf_95 : decode cX12_maskOf 95 = .ok (.iload 8, 2) := by decide +kernel
theorem dX12_maskOf_97 : decode cX12_maskOf 97 = .ok (.ifCond .eq 15, 3) := by decide +kernel
theorem dX12_maskOf_100 : decode cX12_maskOf 100 = .ok (.iload 4, 2) := by decide +kernel
theorem dX12_maskOf_102 : decode cX12_maskOf 102 = .ok (.iconst 1, 1) := by decide +kernel
theorem dX12_maskOf_103 : decode cX12_maskOf 103 = .ok (.iload 6, 2) := by decide +kernel
theorem dX12_maskOf_105 : decode cX12_maskOf 105 = .ok (.iconst 1, 1) := by decide +kernel
theorem dX12_maskOf_106 : decode cX12_maskOf 106 = .ok (.isub, 1) := by decide +kernel
theorem dX12_maskOf_107 : decode cX12_maskOf 107 = .ok (.ishl, 1) := by decide +kernel
theorem dX12_maskOf_108 : decode cX12_maskOf 108 = .ok (.ior, 1) := by decide +kernel
theorem dX12_maskOf_109 : decode cX12_maskOf 109 = .ok (.goto 5, 3) := by decide +kernel
theorem dX12_maskOf_112 : decode cX12_maskOf 112 = .ok (.iload 4, 2) := by decide +kernel
theorem dX12_maskOf_114 : decode cX12_maskOf 114 = .ok (.istore 4, 2) := by decide +kernel
theorem dX12_maskOf_116 : decode cX12_maskOf 116 = .ok (.iinc 7 1, 3) := by decide +kernel
theorem dX12_maskOf_119 : decode cX12_maskOf 119 = .ok (.goto (-86), 3) := by decide +kernel
theorem dX12_maskOf_122 : decode cX12_maskOf 122 = .ok (.iinc 6 1, 3) := by decide +kernel
theorem dX12_maskOf_125 : decode cX12_maskOf 125 = .ok (.goto (-107), 3) := by decide +kernel
theorem dX12_maskOf_128 : decode cX12_maskOf 128 = .ok (.iinc 5 1, 3) := by decide +kernel
theorem dX12_maskOf_131 : decode cX12_maskOf 131 = .ok (.goto (-125), 3) := by decide +kernel
theorem dX12_maskOf_134 : decode cX12_maskOf 134 = .ok (.iload 4, 2) := by decide +kernel
theorem dX12_maskOf_136 : decode cX12_maskOf 136 = .ok (.ireturn, 1) := by decide +kernel
theorem dX12_begin_0 : decode cX12_begin 0 = .ok (.aload_n 0, 1) := by decide +kernel
theorem dX12_begin_1 : decode cX12_begin 1 = .ok (.iconst 0, 1) := by decide +kernel
theorem dX12_begin_2 : decode cX12_begin 2 = .ok (.putfield 172, 3) := by decide +kernel
theorem dX12_begin_5 : decode cX12_begin 5 = .ok (.aload_n 0, 1) := by decide +kernel
theorem dX12_begin_6 : decode cX12_begin 6 = .ok (.iconst 0, 1) := by decide +kernel
theorem dX12_begin_7 : decode cX12_begin 7 = .ok (.putfield 175, 3) := by decide +kernel
theorem dX12_begin_10 : decode cX12_begin 10 = .ok (.iconst 0, 1) := by decide +kernel
theorem dX12_begin_11 : decode cX12_begin 11 = .ok (.istore_n 1, 1) := by decide +kernel
theorem dX12_begin_12 : decode cX12_begin 12 = .ok (.iload_n 1, 1) := by decide +kernel
theorem dX12_begin_13 : decode cX12_begin 13 = .ok (.sipush 192, 3) := by decide +kernel
theorem dX12_begin_16 : decode cX12_begin 16 = .ok (.if_icmp .ge 23, 3) := by decide +kernel
theorem dX12_begin_19 : decode cX12_begin 19 = .ok (.aload_n 0, 1) := by decide +kernel
theorem dX12_begin_20 : decode cX12_begin 20 = .ok (.getfield 39, 3) := by decide +kernel
theorem dX12_begin_23 : decode cX12_begin 23 = .ok (.iload_n 1, 1) := by decide +kernel
theorem dX12_begin_24 : decode cX12_begin 24 = .ok (.iconst 0, 1) := by decide +kernel
theorem dX12_begin_25 : decode cX12_begin 25 = .ok (.iastore, 1) := by decide +kernel
theorem dX12_begin_26 : decode cX12_begin 26 = .ok (.aload_n 0, 1) := by decide +kernel
theorem dX12_begin_27 : decode cX12_begin 27 = .ok (.getfield 42, 3) := by decide +kernel
theorem dX12_begin_30 : decode cX12_begin 30 = .ok (.iload_n 1, 1) := by decide +kernel
theorem dX12_begin_31 : decode cX12_begin 31 = .ok (.iconst (-1), 1) := by decide +kernel
theorem dX12_begin_32 : decode cX12_begin 32 = .ok (.iastore, 1) := by decide +kernel
theorem dX12_begin_33 : decode cX12_begin 33 = .ok (.iinc 1 1, 3) := by decide +kernel
theorem dX12_begin_36 : decode cX12_begin 36 = .ok (.goto (-24), 3) := by decide +kernel
theorem dX12_begin_39 : decode cX12_begin 39 = .ok (.iconst 0, 1) := by decide +kernel
theorem dX12_begin_40 : decode cX12_begin 40 = .ok (.istore_n 1, 1) := by decide +kernel
theorem dX12_begin_41 : decode cX12_begin 41 = .ok (.iload_n 1, 1) := by decide +kernel
theorem dX12_begin_42 : decode cX12_begin 42 = .ok (.bipush 15, 2) := by decide +kernel
theorem dX12_begin_44 : decode cX12_begin 44 = .ok (.if_icmp .ge 16, 3) := by decide +kernel
theorem dX12_begin_47 : decode cX12_begin 47 = .ok (.aload_n 0, 1) := by decide +kernel
theorem dX12_begin_48 : decode cX12_begin 48 = .ok (.getfield 45, 3) := by decide +kernel
theorem dX12_begin_51 : decode cX12_begin 51 = .ok (.iload_n 1, 1) := by decide +kernel
theorem dX12_begin_52 : decode cX12_begin 52 = .ok (.iconst 0, 1) := by decide +kernel
theorem dX12_begin_53 : decode cX12_begin 53 = .ok (.iastore, 1) := by decide +kernel
theorem dX12_begin_54 : decode cX12_begin 54 = .ok (.iinc 1 1, 3) := by decide +kernel
theorem dX12_begin_57 : decode cX12_begin 57 = .ok (.goto (-16), 3) := by decide +kernel
theorem dX12_begin_60 : decode cX12_begin 60 = .ok (.iconst 0, 1) := by decide +kernel
theorem dX12_begin_61 : decode cX12_begin 61 = .ok (.istore_n 1, 1) := by decide +kernel
theorem dX12_begin_62 : decode cX12_begin 62 = .ok (.iload_n 1, 1) := by decide +kernel
theorem dX12_begin_63 : decode cX12_begin 63 = .ok (.aload_n 0, 1) := by decide +kernel
theorem dX12_begin_64 : decode cX12_begin 64 = .ok (.getfield 107, 3) := by decide +kernel
theorem dX12_begin_67 : decode cX12_begin 67 = .ok (.if_icmp .ge 108, 3) := by decide +kernel
theorem dX12_begin_70 : decode cX12_begin 70 = .ok (.aload_n 0, 1) := by decide +kernel
theorem dX12_begin_71 : decode cX12_begin 71 = .ok (.getfield 17, 3) := by decide +kernel
theorem dX12_begin_74 : decode cX12_begin 74 = .ok (.iload_n 1, 1) := by decide +kernel
theorem dX12_begin_75 : decode cX12_begin 75 = .ok (.iaload, 1) := by decide +kernel
theorem dX12_begin_76 : decode cX12_begin 76 = .ok (.iconst 1, 1) := by decide +kernel
theorem dX12_begin_77 : decode cX12_begin 77 = .ok (.if_icmp .ne 41, 3) := by decide +kernel
theorem dX12_begin_80 : decode cX12_begin 80 = .ok (.aload_n 0, 1) := by decide +kernel
theorem dX12_begin_81 : decode cX12_begin 81 = .ok (.getfield 48, 3) := by decide +kernel
theorem dX12_begin_84 : decode cX12_begin 84 = .ok (.aload_n 0, 1) := by decide +kernel
theorem dX12_begin_85 : decode cX12_begin 85 = .ok (.getfield 172, 3) := by decide +kernel
theorem dX12_begin_88 : decode cX12_begin 88 = .ok (.aload_n 0, 1) := by decide +kernel
theorem dX12_begin_89 : decode cX12_begin 89 = .ok (.iload_n 1, 1) := by decide +kernel
theorem dX12_begin_90 : decode cX12_begin 90 = .ok (.iconst 0, 1) := by decide +kernel
theorem dX12_begin_91 : decode cX12_begin 91 = .ok (.invokevirtual 124, 3) := by decide +kernel
theorem dX12_begin_94 : decode cX12_begin 94 = .ok (.iastore, 1) := by decide +kernel
theorem dX12_begin_95 : decode cX12_begin 95 = .ok (.aload_n 0, 1) := by decide +kernel
theorem dX12_begin_96 : decode cX12_begin 96 = .ok (.getfield 36, 3) := by decide +kernel
theorem dX12_begin_99 : decode cX12_begin 99 = .ok (.aload_n 0, 1) := by decide +kernel
theorem dX12_begin_100 : decode cX12_begin 100 = .ok (.getfield 172, 3) := by decide +kernel
theorem dX12_begin_103 : decode cX12_begin 103 = .ok (.iconst 0, 1) := by decide +kernel
theorem dX12_begin_104 : decode cX12_begin 104 = .ok (.iastore, 1) := by decide +kernel
theorem dX12_begin_105 : decode cX12_begin 105 = .ok (.aload_n 0, 1) := by decide +kernel
theorem dX12_begin_106 : decode cX12_begin 106 = .ok (.dup, 1) := by decide +kernel
theorem dX12_begin_107 : decode cX12_begin 107 = .ok (.getfield 172, 3) := by decide +kernel
theorem dX12_begin_110 : decode cX12_begin 110 = .ok (.iconst 1, 1) := by decide +kernel
theorem dX12_begin_111 : decode cX12_begin 111 = .ok (.iadd, 1) := by decide +kernel
theorem dX12_begin_112 : decode cX12_begin 112 = .ok (.putfield 172, 3) := by decide +kernel
theorem dX12_begin_115 : decode cX12_begin 115 = .ok (.goto 54, 3) := by decide +kernel
theorem dX12_begin_118 : decode cX12_begin 118 = .ok (.aload_n 0, 1) := by decide +kernel
theorem dX12_begin_119 : decode cX12_begin 119 = .ok (.getfield 17, 3) := by decide +kernel
theorem dX12_begin_122 : decode cX12_begin 122 = .ok (.iload_n 1, 1) := by decide +kernel
theorem dX12_begin_123 : decode cX12_begin 123 = .ok (.iaload, 1) := by decide +kernel
theorem dX12_begin_124 : decode cX12_begin 124 = .ok (.ifCond .ne 45, 3) := by decide +kernel
theorem dX12_begin_127 : decode cX12_begin 127 = .ok (.aload_n 0, 1) := by decide +kernel
theorem dX12_begin_128 : decode cX12_begin 128 = .ok (.getfield 51, 3) := by decide +kernel
theorem dX12_begin_131 : decode cX12_begin 131 = .ok (.aload_n 0, 1) := by decide +kernel
theorem dX12_begin_132 : decode cX12_begin 132 = .ok (.getfield 175, 3) := by decide +kernel
theorem dX12_begin_135 : decode cX12_begin 135 = .ok (.aload_n 0, 1) := by decide +kernel
theorem dX12_begin_136 : decode cX12_begin 136 = .ok (.iload_n 1, 1) := by decide +kernel
theorem dX12_begin_137 : decode cX12_begin 137 = .ok (.iconst 0, 1) := by decide +kernel
theorem dX12_begin_138 : decode cX12_begin 138 = .ok (.invokevirtual 124, 3) := by decide +kernel
theorem dX12_begin_141 : decode cX12_begin 141 = .ok (.iastore, 1) := by decide +kernel
theorem dX12_begin_142 : decode cX12_begin 142 = .ok (.aload_n 0, 1) := by decide +kernel
theorem dX12_begin_143 : decode cX12_begin 143 = .ok (.getfield 33, 3) := by decide +kernel
theorem dX12_begin_146 : decode cX12_begin 146 = .ok (.aload_n 0, 1) := by decide +kernel
theorem dX12_begin_147 : decode cX12_begin 147 = .ok (.getfield 175, 3) := by decide +kernel
theorem dX12_begin_150 : decode cX12_begin 150 = .ok (.aload_n 0, 1) := by decide +kernel
theorem dX12_begin_151 : decode cX12_begin 151 = .ok (.getfield 21, 3) := by decide +kernel
theorem dX12_begin_154 : decode cX12_begin 154 = .ok (.iload_n 1, 1) := by decide +kernel
theorem dX12_begin_155 : decode cX12_begin 155 = .ok (.iaload, 1) := by decide +kernel
theorem dX12_begin_156 : decode cX12_begin 156 = .ok (.iconst 1, 1) := by decide +kernel
theorem dX12_begin_157 : decode cX12_begin 157 = .ok (.isub, 1) := by decide +kernel
theorem dX12_begin_158 : decode cX12_begin 158 = .ok (.iastore, 1) := by decide +kernel
theorem dX12_begin_159 : decode cX12_begin 159 = .ok (.aload_n 0, 1) := by decide +kernel
theorem dX12_begin_160 : decode cX12_begin 160 = .ok (.dup, 1) := by decide +kernel
theorem dX12_begin_161 : decode cX12_begin 161 = .ok (.getfield 175, 3) := by decide +kernel
theorem dX12_begin_164 : decode cX12_begin 164 = .ok (.iconst 1, 1) := by decide +kernel
theorem dX12_begin_165 : decode cX12_begin 165 = .ok (.iadd, 1) := by decide +kernel
theorem dX12_begin_166 : decode cX12_begin 166 = .ok (.putfield 175, 3) := by decide +kernel
theorem dX12_begin_169 : decode cX12_begin 169 = .ok (.iinc 1 1, 3) := by decide +kernel
theorem dX12_begin_172 : decode cX12_begin 172 = .ok (.goto (-110), 3) := by decide +kernel
theorem dX12_begin_175 : decode cX12_begin 175 = .ok (.return_, 1) := by decide +kernel
theorem dX12_put_0 : decode cX12_put 0 = .ok (.aload_n 0, 1) := by decide +kernel
theorem dX12_put_1 : decode cX12_put 1 = .ok (.iload_n 1, 1) := by decide +kernel
theorem dX12_put_2 : decode cX12_put 2 = .ok (.iconst 0, 1) := by decide +kernel
theorem dX12_put_3 : decode cX12_put 3 = .ok (.invokevirtual 124, 3) := by decide +kernel
theorem dX12_put_6 : decode cX12_put 6 = .ok (.istore_n 2, 1) := by decide +kernel
theorem dX12_put_7 : decode cX12_put 7 = .ok (.aload_n 0, 1) := by decide +kernel
theorem dX12_put_8 : decode cX12_put 8 = .ok (.getfield 17, 3) := by decide +kernel
theorem dX12_put_11 : decode cX12_put 11 = .ok (.iload_n 1, 1) := by decide +kernel
theorem dX12_put_12 : decode cX12_put 12 = .ok (.iaload, 1) := by decide +kernel
theorem dX12_put_13 : decode cX12_put 13 = .ok (.iconst 2, 1) := by decide +kernel
theorem dX12_put_14 : decode cX12_put 14 = .ok (.if_icmp .ne 123, 3) := by decide +kernel
theorem dX12_put_17 : decode cX12_put 17 = .ok (.aload_n 0, 1) := by decide +kernel
theorem dX12_put_18 : decode cX12_put 18 = .ok (.aload_n 0, 1) := by decide +kernel
theorem dX12_put_19 : decode cX12_put 19 = .ok (.iload_n 1, 1) := by decide +kernel
theorem dX12_put_20 : decode cX12_put 20 = .ok (.iconst 2, 1) := by decide +kernel
theorem dX12_put_21 : decode cX12_put 21 = .ok (.invokevirtual 124, 3) := by decide +kernel
theorem dX12_put_24 : decode cX12_put 24 = .ok (.invokevirtual 178, 3) := by decide +kernel
theorem dX12_put_27 : decode cX12_put 27 = .ok (.istore_n 3, 1) := by decide +kernel
theorem dX12_put_28 : decode cX12_put 28 = .ok (.aload_n 0, 1) := by decide +kernel
theorem dX12_put_29 : decode cX12_put 29 = .ok (.iload_n 1, 1) := by decide +kernel
theorem dX12_put_30 : decode cX12_put 30 = .ok (.iconst 3, 1) := by decide +kernel
theorem dX12_put_31 : decode cX12_put 31 = .ok (.iload_n 3, 1) := by decide +kernel
theorem dX12_put_32 : decode cX12_put 32 = .ok (.invokevirtual 181, 3) := by decide +kernel
theorem dX12_put_35 : decode cX12_put 35 = .ok (.istore 4, 2) := by decide +kernel
theorem dX12_put_37 : decode cX12_put 37 = .ok (.iconst 0, 1) := by decide +kernel
theorem dX12_put_38 : decode cX12_put 38 = .ok (.istore 5, 2) := by decide +kernel
theorem dX12_put_40 : decode cX12_put 40 = .ok (.iload 5, 2) := by decide +kernel
theorem dX12_put_42 : decode cX12_put 42 = .ok (.aload_n 0, 1) := by decide +kernel
theorem dX12_put_43 : decode cX12_put 43 = .ok (.getfield 172, 3) := by decide +kernel
theorem dX12_put_46 : decode cX12_put 46 = .ok (.aload_n 0, 1) := by decide +kernel
theorem dX12_put_47 : decode cX12_put 47 = .ok (.getfield 172, 3) := by decide +kernel
theorem dX12_put_50 : decode cX12_put 50 = .ok (.imul, 1) := by decide +kernel
theorem dX12_put_51 : decode cX12_put 51 = .ok (.if_icmp .ge 83, 3) := by decide +kernel
theorem dX12_put_54 : decode cX12_put 54 = .ok (.bipush 64, 2) := by decide +kernel
theorem dX12_put_56 : decode cX12_put 56 = .ok (.iload_n 3, 1) := by decide +kernel
theorem dX12_put_57 : decode cX12_put 57 = .ok (.imul, 1) := by decide +kernel
theorem dX12_put_58 : decode cX12_put 58 = .ok (.bipush 8, 2) := by decide +kernel
theorem dX12_put_60 : decode cX12_put 60 = .ok (.iload 5, 2) := by decide +kernel
theorem dX12_put_62 : decode cX12_put 62 = .ok (.aload_n 0, 1) := by decide +kernel
theorem dX12_put_63 : decode cX12_put 63 = .ok (.getfield 172, 3) := by decide +kernel
theorem dX12_put_66 : decode cX12_put 66 = .ok (.idiv, 1) := by decide +kernel
theorem dX12_put_67 : decode cX12_put 67 = .ok (.imul, 1) := by decide +kernel
theorem dX12_put_68 : decode cX12_put 68 = .ok (.iadd, 1) := by decide +kernel
theorem dX12_put_69 : decode cX12_put 69 = .ok (.iload 5, 2) := by decide +kernel
theorem dX12_put_71 : decode cX12_put 71 = .ok (.aload_n 0, 1) := by decide +kernel
theorem dX12_put_72 : decode cX12_put 72 = .ok (.getfield 172, 3) := by decide +kernel
theorem dX12_put_75 : decode cX12_put 75 = .ok (.irem, 1) := by decide +kernel
theorem dX12_put_76 : decode cX12_put 76 = .ok (.iadd, 1) := by decide +kernel
theorem dX12_put_77 : decode cX12_put 77 = .ok (.istore 6, 2) := by decide +kernel
theorem dX12_put_79 : decode cX12_put 79 = .ok (.aload_n 0, 1) := by decide +kernel
theorem dX12_put_80 : decode cX12_put 80 = .ok (.getfield 39, 3) := by decide +kernel
theorem dX12_put_83 : decode cX12_put 83 = .ok (.iload 6, 2) := by decide +kernel
theorem dX12_put_85 : decode cX12_put 85 = .ok (.aload_n 0, 1) := by decide +kernel
theorem dX12_put_86 : decode cX12_put 86 = .ok (.iload_n 1, 1) := by decide +kernel
theorem dX12_put_87 : decode cX12_put 87 = .ok (.iload 5, 2) := by decide +kernel
theorem dX12_put_89 : decode cX12_put 89 = .ok (.aload_n 0, 1) := by decide +kernel
theorem dX12_put_90 : decode cX12_put 90 = .ok (.getfield 172, 3) := by decide +kernel
theorem dX12_put_93 : decode cX12_put 93 = .ok (.idiv, 1) := by decide +kernel
theorem dX12_put_94 : decode cX12_put 94 = .ok (.iload 5, 2) := by decide +kernel
theorem dX12_put_96 : decode cX12_put 96 = .ok (.aload_n 0, 1) := by decide +kernel
theorem dX12_put_97 : decode cX12_put 97 = .ok (.getfield 172, 3) := by decide +kernel
theorem dX12_put_100 : decode cX12_put 100 = .ok (.irem, 1) := by decide +kernel
theorem dX12_put_101 : decode cX12_put 101 = .ok (.invokevirtual 169, 3) := by decide +kernel
theorem dX12_put_104 : decode cX12_put 104 = .ok (.ifCond .eq 16, 3) := by decide +kernel
theorem dX12_put_107 : decode cX12_put 107 = .ok (.aload_n 0, 1) := by decide +kernel
theorem dX12_put_108 : decode cX12_put 108 = .ok (.getfield 39, 3) := by decide +kernel
theorem dX12_put_111 : decode cX12_put 111 = .ok (.iload 6, 2) := by decide +kernel
theorem dX12_put_113 : decode cX12_put 113 = .ok (.iaload, 1) := by decide +kernel
theorem dX12_put_114 : decode cX12_put 114 = .ok (.iload 4, 2) := by decide +kernel
theorem dX12_put_116 : decode cX12_put 116 = .ok (.ior, 1) := by decide +kernel
theorem dX12_put_117 : decode cX12_put 117 = .ok (.goto 10, 3) := by decide +kernel
theorem dX12_put_120 : decode cX12_put 120 = .ok (.aload_n 0, 1) := by decide +kernel
theorem dX12_put_121 : decode cX12_put 121 = .ok (.getfield 39, 3) := by decide +kernel
theorem dX12_put_124 : decode cX12_put 124 = .ok (.iload 6, 2) := by decide +kernel
theorem dX12_put_126 : decode cX12_put 126 = .ok (.iaload, 1) := by decide +kernel
theorem dX12_put_127 : decode cX12_put 127 = .ok (.iastore, 1) := by decide +kernel
theorem dX12_put_128 : decode cX12_put 128 = .ok (.iinc 5 1, 3) := by decide +kernel
theorem dX12_put_131 : decode cX12_put 131 = .ok (.goto (-91), 3) := by decide +kernel
theorem dX12_put_134 : decode cX12_put 134 = .ok (.goto 173, 3) := by decide +kernel
theorem dX12_put_137 : decode cX12_put 137 = .ok (.aload_n 0, 1) := by decide +kernel
theorem dX12_put_138 : decode cX12_put 138 = .ok (.getfield 17, 3) := by decide +kernel
theorem dX12_put_141 : decode cX12_put 141 = .ok (.iload_n 1, 1) := by decide +kernel
theorem dX12_put_142 : decode cX12_put 142 = .ok (.iaload, 1) := by decide +kernel
theorem dX12_put_143 : decode cX12_put 143 = .ok (.iconst 4, 1) := by decide +kernel
theorem dX12_put_144 : decode cX12_put 144 = .ok (.if_icmp .ne 54, 3) := by decide +kernel
theorem dX12_put_147 : decode cX12_put 147 = .ok (.aload_n 0, 1) := by decide +kernel
theorem dX12_put_148 : decode cX12_put 148 = .ok (.getfield 42, 3) := by decide +kernel
theorem dX12_put_151 : decode cX12_put 151 = .ok (.bipush 64, 2) := by decide +kernel
theorem dX12_put_153 : decode cX12_put 153 = .ok (.aload_n 0, 1) := by decide +kernel
theorem dX12_put_154 : decode cX12_put 154 = .ok (.aload_n 0, 1) := by decide +kernel
theorem dX12_put_155 : decode cX12_put 155 = .ok (.iload_n 1, 1) := by decide +kernel
theorem dX12_put_156 : decode cX12_put 156 = .ok (.iconst 2, 1) := by decide +kernel
theorem dX12_put_157 : decode cX12_put 157 = .ok (.invokevirtual 124, 3) := by decide +kernel
theorem dX12_put_160 : decode cX12_put 160 = .ok (.invokevirtual 178, 3) := by decide +kernel
theorem dX12_put_163 : decode cX12_put 163 = .ok (.imul, 1) := by decide +kernel
theorem dX12_put_164 : decode cX12_put 164 = .ok (.bipush 8, 2) := by decide +kernel
theorem dX12_put_166 : decode cX12_put 166 = .ok (.aload_n 0, 1) := by decide +kernel
theorem dX12_put_167 : decode cX12_put 167 = .ok (.iload_n 2, 1) := by decide +kernel
theorem dX12_put_168 : decode cX12_put 168 = .ok (.invokevirtual 184, 3) := by decide +kernel
theorem dX12_put_171 : decode cX12_put 171 = .ok (.imul, 1) := by decide +kernel
theorem dX12_put_172 : decode cX12_put 172 = .ok (.iadd, 1) := by decide +kernel
theorem dX12_put_173 : decode cX12_put 173 = .ok (.aload_n 0, 1) := by decide +kernel
theorem dX12_put_174 : decode cX12_put 174 = .ok (.aload_n 0, 1) := by decide +kernel
theorem dX12_put_175 : decode cX12_put 175 = .ok (.iload_n 1, 1) := by decide +kernel
theorem dX12_put_176 : decode cX12_put 176 = .ok (.iconst 1, 1) := by decide +kernel
theorem dX12_put_177 : decode cX12_put 177 = .ok (.invokevirtual 124, 3) := by decide +kernel
theorem dX12_put_180 : decode cX12_put 180 = .ok (.invokevirtual 184, 3) := by decide +kernel
theorem dX12_put_183 : decode cX12_put 183 = .ok (.iadd, 1) := by decide +kernel
theorem dX12_put_184 : decode cX12_put 184 = .ok (.aload_n 0, 1) := by decide +kernel
theorem dX12_put_185 : decode cX12_put 185 = .ok (.aload_n 0, 1) := by decide +kernel
theorem dX12_put_186 : decode cX12_put 186 = .ok (.iload_n 1, 1) := by decide +kernel
theorem dX12_put_187 : decode cX12_put 187 = .ok (.iconst 3, 1) := by decide +kernel
theorem dX12_put_188 : decode cX12_put 188 = .ok (.invokevirtual 124, 3) := by decide +kernel
theorem dX12_put_191 : decode cX12_put 191 = .ok (.invokevirtual 184, 3) := by decide +kernel
theorem dX12_put_194 : decode cX12_put 194 = .ok (.iastore, 1) := by decide +kernel
theorem dX12_put_195 : decode cX12_put 195 = .ok (.goto 112, 3) := by decide +kernel
theorem dX12_put_198 : decode cX12_put 198 = .ok (.aload_n 0, 1) := by decide +kernel
theorem dX12_put_199 : decode cX12_put 199 = .ok (.getfield 17, 3) := by decide +kernel
theorem dX12_put_202 : decode cX12_put 202 = .ok (.iload_n 1, 1) := by decide +kernel
theorem dX12_put_203 : decode cX12_put 203 = .ok (.iaload, 1) := by decide +kernel
theorem dX12_put_204 : decode cX12_put 204 = .ok (.iconst 5, 1) := by decide +kernel
theorem dX12_put_205 : decode cX12_put 205 = .ok (.if_icmp .ne 22, 3) := by decide +kernel
theorem dX12_put_208 : decode cX12_put 208 = .ok (.aload_n 0, 1) := by decide +kernel
theorem dX12_put_209 : decode cX12_put 209 = .ok (.getfield 36, 3) := by decide +kernel
theorem dX12_put_212 : decode cX12_put 212 = .ok (.aload_n 0, 1) := by decide +kernel
theorem dX12_put_213 : decode cX12_put 213 = .ok (.iload_n 2, 1) := by decide +kernel
theorem dX12_put_214 : decode cX12_put 214 = .ok (.invokevirtual 184, 3) := by decide +kernel
theorem dX12_put_217 : decode cX12_put 217 = .ok (.aload_n 0, 1) := by decide +kernel
theorem dX12_put_218 : decode cX12_put 218 = .ok (.getfield 27, 3) := by decide +kernel
theorem dX12_put_221 : decode cX12_put 221 = .ok (.iload_n 1, 1) := by decide +kernel
theorem dX12_put_222 : decode cX12_put 222 = .ok (.iaload, 1) := by decide +kernel
theorem dX12_put_223 : decode cX12_put 223 = .ok (.iastore, 1) := by decide +kernel
theorem dX12_put_224 : decode cX12_put 224 = .ok (.goto 83, 3) := by decide +kernel
theorem dX12_put_227 : decode cX12_put 227 = .ok (.aload_n 0, 1) := by decide +kernel
theorem dX12_put_228 : decode cX12_put 228 = .ok (.getfield 17, 3) := by decide +kernel
theorem dX12_put_231 : decode cX12_put 231 = .ok (.iload_n 1, 1) := by decide +kernel
theorem dX12_put_232 : decode cX12_put 232 = .ok (.iaload, 1) := by decide +kernel
theorem dX12_put_233 : decode cX12_put 233 = .ok (.iconst 5, 1) := by decide +kernel
theorem dX12_put_234 : decode cX12_put 234 = .ok (.if_icmp .le 73, 3) := by decide +kernel
theorem dX12_put_237 : decode cX12_put 237 = .ok (.aload_n 0, 1) := by decide +kernel
theorem dX12_put_238 : decode cX12_put 238 = .ok (.iload_n 2, 1) := by decide +kernel
theorem dX12_put_239 : decode cX12_put 239 = .ok (.invokevirtual 178, 3) := by decide +kernel
theorem dX12_put_242 : decode cX12_put 242 = .ok (.istore_n 3, 1) := by decide +kernel
theorem dX12_put_243 : decode cX12_put 243 = .ok (.iconst 5, 1) := by decide +kernel
theorem dX12_put_244 : decode cX12_put 244 = .ok (.iload_n 3, 1) := by decide +kernel
theorem dX12_put_245 : decode cX12_put 245 = .ok (.imul, 1) := by decide +kernel
theorem dX12_put_246 : decode cX12_put 246 = .ok (.aload_n 0, 1) := by decide +kernel
theorem dX12_put_247 : decode cX12_put 247 = .ok (.getfield 17, 3) := by decide +kernel
theorem dX12_put_250 : decode cX12_put 250 = .ok (.iload_n 1, 1) := by decide +kernel
theorem dX12_put_251 : decode cX12_put 251 = .ok (.iaload, 1) := by decide +kernel
theorem dX12_put_252 : decode cX12_put 252 = .ok (.bipush 6, 2) := by decide +kernel
theorem dX12_put_254 : decode cX12_put 254 = .ok (.if_icmp .ne 12, 3) := by decide +kernel
theorem dX12_put_257 : decode cX12_put 257 = .ok (.aload_n 0, 1) := by decide +kernel
theorem dX12_put_258 : decode cX12_put 258 = .ok (.getfield 27, 3) := by decide +kernel
theorem dX12_put_261 : decode cX12_put 261 = .ok (.iload_n 1, 1) := by decide +kernel
theorem dX12_put_262 : decode cX12_put 262 = .ok (.iaload, 1) := by decide +kernel
theorem dX12_put_263 : decode cX12_put 263 = .ok (.goto 19, 3) := by decide +kernel
theorem dX12_put_266 : decode cX12_put 266 = .ok (.aload_n 0, 1) := by decide +kernel
theorem dX12_put_267 : decode cX12_put 267 = .ok (.getfield 17, 3) := by decide +kernel
theorem dX12_put_270 : decode cX12_put 270 = .ok (.iload_n 1, 1) := by decide +kernel
theorem dX12_put_271 : decode cX12_put 271 = .ok (.iaload, 1) := by decide +kernel
theorem dX12_put_272 : decode cX12_put 272 = .ok (.bipush 7, 2) := by decide +kernel
theorem dX12_put_274 : decode cX12_put 274 = .ok (.if_icmp .ne 7, 3) := by decide +kernel
theorem dX12_put_277 : decode cX12_put 277 = .ok (.iconst 3, 1) := by decide +kernel
theorem dX12_put_278 : decode cX12_put 278 = .ok (.goto 4, 3) := by decide +kernel
theorem dX12_put_281 : decode cX12_put 281 = .ok (.iconst 4, 1) := by decide +kernel
theorem dX12_put_282 : decode cX12_put 282 = .ok (.iadd, 1) := by decide +kernel
theorem dX12_put_283 : decode cX12_put 283 = .ok (.istore 4, 2) := by decide +kernel
theorem dX12_put_285 : decode cX12_put 285 = .ok (.aload_n 0, 1) := by decide +kernel
theorem dX12_put_286 : decode cX12_put 286 = .ok (.getfield 45, 3) := by decide +kernel
theorem dX12_put_289 : decode cX12_put 289 = .ok (.iload 4, 2) := by decide +kernel
theorem dX12_put_291 : decode cX12_put 291 = .ok (.aload_n 0, 1) := by decide +kernel
theorem dX12_put_292 : decode cX12_put 292 = .ok (.getfield 45, 3) := by decide +kernel
theorem dX12_put_295 : decode cX12_put 295 = .ok (.iload 4, 2) := by decide +kernel
theorem dX12_put_297 : decode cX12_put 297 = .ok (.iaload, 1) := by decide +kernel
theorem dX12_put_298 : decode cX12_put 298 = .ok (.aload_n 0, 1) := by decide +kernel
theorem dX12_put_299 : decode cX12_put 299 = .ok (.iload_n 1, 1) := by decide +kernel
theorem dX12_put_300 : decode cX12_put 300 = .ok (.iconst 1, 1) := by decide +kernel
theorem dX12_put_301 : decode cX12_put 301 = .ok (.iload_n 3, 1) := by decide +kernel
theorem dX12_put_302 : decode cX12_put 302 = .ok (.invokevirtual 181, 3) := by decide +kernel
theorem dX12_put_305 : decode cX12_put 305 = .ok (.ior, 1) := by decide +kernel
theorem dX12_put_306 : decode cX12_put 306 = .ok (.iastore, 1) := by decide +kernel
theorem dX12_put_307 : decode cX12_put 307 = .ok (.return_, 1) := by decide +kernel
theorem dX12_accept_0 : decode cX12_accept 0 = .ok (.aload_n 0, 1) := by decide +kernel
theorem dX12_accept_1 : decode cX12_accept 1 = .ok (.invokevirtual 187, 3) := by decide +kernel
theorem dX12_accept_4 : decode cX12_accept 4 = .ok (.istore_n 1, 1) := by decide +kernel
theorem dX12_accept_5 : decode cX12_accept 5 = .ok (.iload_n 1, 1) := by decide +kernel
theorem dX12_accept_6 : decode cX12_accept 6 = .ok (.ifCond .ge 10, 3) := by decide +kernel
theorem dX12_accept_9 : decode cX12_accept 9 = .ok (.aload_n 0, 1) := by decide +kernel
theorem dX12_accept_10 : decode cX12_accept 10 = .ok (.invokevirtual 190, 3) := by decide +kernel
theorem dX12_accept_13 : decode cX12_accept 13 = .ok (.goto 4, 3) := by decide +kernel
theorem dX12_accept_16 : decode cX12_accept 16 = .ok (.iconst (-1), 1) := by decide +kernel
theorem dX12_accept_17 : decode cX12_accept 17 = .ok (.istore_n 2, 1) := by decide +kernel
theorem dX12_accept_18 : decode cX12_accept 18 = .ok (.aload_n 0, 1) := by decide +kernel
theorem dX12_accept_19 : decode cX12_accept 19 = .ok (.iload_n 1, 1) := by decide +kernel
theorem dX12_accept_20 : decode cX12_accept 20 = .ok (.ifCond .lt 7, 3) := by decide +kernel
theorem dX12_accept_23 : decode cX12_accept 23 = .ok (.iload_n 1, 1) := by decide +kernel
theorem dX12_accept_24 : decode cX12_accept 24 = .ok (.goto 4, 3) := by decide +kernel
theorem dX12_accept_27 : decode cX12_accept 27 = .ok (.iload_n 2, 1) := by decide +kernel
theorem dX12_accept_28 : decode cX12_accept 28 = .ok (.putfield 30, 3) := by decide +kernel
theorem dX12_accept_31 : decode cX12_accept 31 = .ok (.aload_n 0, 1) := by decide +kernel
theorem dX12_accept_32 : decode cX12_accept 32 = .ok (.iload_n 1, 1) := by decide +kernel
theorem dX12_accept_33 : decode cX12_accept 33 = .ok (.ifCond .lt 7, 3) := by decide +kernel
theorem dX12_accept_36 : decode cX12_accept 36 = .ok (.iconst 1, 1) := by decide +kernel
theorem dX12_accept_37 : decode cX12_accept 37 = .ok (.goto 12, 3) := by decide +kernel
theorem dX12_accept_40 : decode cX12_accept 40 = .ok (.iload_n 2, 1) := by decide +kernel
theorem dX12_accept_41 : decode cX12_accept 41 = .ok (.ifCond .lt 7, 3) := by decide +kernel
theorem dX12_accept_44 : decode cX12_accept 44 = .ok (.iconst 2, 1) := by decide +kernel
theorem dX12_accept_45 : decode cX12_accept 45 = .ok (.goto 4, 3) := by decide +kernel
theorem dX12_accept_48 : decode cX12_accept 48 = .ok (.iconst 0, 1) := by decide +kernel
theorem dX12_accept_49 : decode cX12_accept 49 = .ok (.putfield 76, 3) := by decide +kernel
theorem dX12_accept_52 : decode cX12_accept 52 = .ok (.aload_n 0, 1) := by decide +kernel
theorem dX12_accept_53 : decode cX12_accept 53 = .ok (.getfield 76, 3) := by decide +kernel
theorem dX12_accept_56 : decode cX12_accept 56 = .ok (.ifCond .le 5, 3) := by decide +kernel
theorem dX12_accept_59 : decode cX12_accept 59 = .ok (.iconst 0, 1) := by decide +kernel
theorem dX12_accept_60 : decode cX12_accept 60 = .ok (.ireturn, 1) := by decide +kernel
theorem dX12_accept_61 : decode cX12_accept 61 = .ok (.aload_n 0, 1) := by decide +kernel
theorem dX12_accept_62 : decode cX12_accept 62 = .ok (.invokevirtual 193, 3) := by decide +kernel
theorem dX12_accept_65 : decode cX12_accept 65 = .ok (.iconst 0, 1) := by decide +kernel
theorem dX12_accept_66 : decode cX12_accept 66 = .ok (.istore_n 3, 1) := by decide +kernel
theorem dX12_accept_67 : decode cX12_accept 67 = .ok (.iload_n 3, 1) := by decide +kernel
theorem dX12_accept_68 : decode cX12_accept 68 = .ok (.aload_n 0, 1) := by decide +kernel
theorem dX12_accept_69 : decode cX12_accept 69 = .ok (.getfield 107, 3) := by decide +kernel
theorem dX12_accept_72 : decode cX12_accept 72 = .ok (.if_icmp .ge 14, 3) := by decide +kernel
theorem dX12_accept_75 : decode cX12_accept 75 = .ok (.aload_n 0, 1) := by decide +kernel
theorem dX12_accept_76 : decode cX12_accept 76 = .ok (.iload_n 3, 1) := by decide +kernel
theorem dX12_accept_77 : decode cX12_accept 77 = .ok (.invokevirtual 196, 3) := by decide +kernel
theorem dX12_accept_80 : decode cX12_accept 80 = .ok (.iinc 3 1, 3) := by decide +kernel
theorem dX12_accept_83 : decode cX12_accept 83 = .ok (.goto (-16), 3) := by decide +kernel
theorem dX12_accept_86 : decode cX12_accept 86 = .ok (.aload_n 0, 1) := by decide +kernel
theorem dX12_accept_87 : decode cX12_accept 87 = .ok (.iconst 0, 1) := by decide +kernel
theorem dX12_accept_88 : decode cX12_accept 88 = .ok (.putfield 200, 3) := by decide +kernel
theorem dX12_accept_91 : decode cX12_accept 91 = .ok (.aload_n 0, 1) := by decide +kernel
theorem dX12_accept_92 : decode cX12_accept 92 = .ok (.getfield 172, 3) := by decide +kernel
theorem dX12_accept_95 : decode cX12_accept 95 = .ok (.ireturn, 1) := by decide +kernel
theorem dX12_fault_0 : decode cX12_fault 0 = .ok (.aload_n 0, 1) := by decide +kernel
theorem dX12_fault_1 : decode cX12_fault 1 = .ok (.iconst 0, 1) := by decide +kernel
theorem dX12_fault_2 : decode cX12_fault 2 = .ok (.putfield 76, 3) := by decide +kernel
theorem dX12_fault_5 : decode cX12_fault 5 = .ok (.aload_n 0, 1) := by decide +kernel
theorem dX12_fault_6 : decode cX12_fault 6 = .ok (.getfield 30, 3) := by decide +kernel
theorem dX12_fault_9 : decode cX12_fault 9 = .ok (.ireturn, 1) := by decide +kernel
theorem dX12_worked_0 : decode cX12_worked 0 = .ok (.aload_n 0, 1) := by decide +kernel
theorem dX12_worked_1 : decode cX12_worked 1 = .ok (.getfield 39, 3) := by decide +kernel
theorem dX12_worked_4 : decode cX12_worked 4 = .ok (.bipush 64, 2) := by decide +kernel
theorem dX12_worked_6 : decode cX12_worked 6 = .ok (.iload_n 3, 1) := by decide +kernel
theorem dX12_worked_7 : decode cX12_worked 7 = .ok (.imul, 1) := by decide +kernel
theorem dX12_worked_8 : decode cX12_worked 8 = .ok (.bipush 8, 2) := by decide +kernel
theorem dX12_worked_10 : decode cX12_worked 10 = .ok (.iload_n 1, 1) := by decide +kernel
theorem dX12_worked_11 : decode cX12_worked 11 = .ok (.imul, 1) := by decide +kernel
theorem dX12_worked_12 : decode cX12_worked 12 = .ok (.iadd, 1) := by decide +kernel
theorem dX12_worked_13 : decode cX12_worked 13 = .ok (.iload_n 2, 1) := by decide +kernel
theorem dX12_worked_14 : decode cX12_worked 14 = .ok (.iadd, 1) := by decide +kernel
theorem dX12_worked_15 : decode cX12_worked 15 = .ok (.iaload, 1) := by decide +kernel
theorem dX12_worked_16 : decode cX12_worked 16 = .ok (.istore 4, 2) := by decide +kernel
theorem dX12_worked_18 : decode cX12_worked 18 = .ok (.aload_n 0, 1) := by decide +kernel
theorem dX12_worked_19 : decode cX12_worked 19 = .ok (.getfield 36, 3) := by decide +kernel
theorem dX12_worked_22 : decode cX12_worked 22 = .ok (.iload_n 1, 1) := by decide +kernel
theorem dX12_worked_23 : decode cX12_worked 23 = .ok (.iaload, 1) := by decide +kernel
theorem dX12_worked_24 : decode cX12_worked 24 = .ok (.aload_n 0, 1) := by decide +kernel
theorem dX12_worked_25 : decode cX12_worked 25 = .ok (.getfield 36, 3) := by decide +kernel
theorem dX12_worked_28 : decode cX12_worked 28 = .ok (.iload_n 2, 1) := by decide +kernel
theorem dX12_worked_29 : decode cX12_worked 29 = .ok (.iaload, 1) := by decide +kernel
theorem dX12_worked_30 : decode cX12_worked 30 = .ok (.if_icmp .ge 19, 3) := by decide +kernel
theorem dX12_worked_33 : decode cX12_worked 33 = .ok (.iload 4, 2) := by decide +kernel
theorem dX12_worked_35 : decode cX12_worked 35 = .ok (.aload_n 0, 1) := by decide +kernel
theorem dX12_worked_36 : decode cX12_worked 36 = .ok (.getfield 45, 3) := by decide +kernel
theorem dX12_worked_39 : decode cX12_worked 39 = .ok (.iconst 5, 1) := by decide +kernel
theorem dX12_worked_40 : decode cX12_worked 40 = .ok (.iload_n 3, 1) := by decide +kernel
theorem dX12_worked_41 : decode cX12_worked 41 = .ok (.imul, 1) := by decide +kernel
theorem dX12_worked_42 : decode cX12_worked 42 = .ok (.iaload, 1) := by decide +kernel
theorem dX12_worked_43 : decode cX12_worked 43 = .ok (.iconst (-1), 1) := by decide +kernel
theorem dX12_worked_44 : decode cX12_worked 44 = .ok (.ixor, 1) := by decide +kernel
theorem dX12_worked_45 : decode cX12_worked 45 = .ok (.iand, 1) := by decide +kernel
theorem dX12_worked_46 : decode cX12_worked 46 = .ok (.goto 5, 3) := by decide +kernel
theorem dX12_worked_49 : decode cX12_worked 49 = .ok (.iload 4, 2) := by decide +kernel
theorem dX12_worked_51 : decode cX12_worked 51 = .ok (.istore 4, 2) := by decide +kernel
theorem dX12_worked_53 : decode cX12_worked 53 = .ok (.aload_n 0, 1) := by decide +kernel
theorem dX12_worked_54 : decode cX12_worked 54 = .ok (.getfield 36, 3) := by decide +kernel
theorem dX12_worked_57 : decode cX12_worked 57 = .ok (.iload_n 1, 1) := by decide +kernel
theorem dX12_worked_58 : decode cX12_worked 58 = .ok (.iaload, 1) := by decide +kernel
theorem dX12_worked_59 : decode cX12_worked 59 = .ok (.aload_n 0, 1) := by decide +kernel
theorem dX12_worked_60 : decode cX12_worked 60 = .ok (.getfield 36, 3) := by decide +kernel
theorem dX12_worked_63 : decode cX12_worked 63 = .ok (.iload_n 2, 1) := by decide +kernel
theorem dX12_worked_64 : decode cX12_worked 64 = .ok (.iaload, 1) := by decide +kernel
theorem dX12_worked_65 : decode cX12_worked 65 = .ok (.if_icmp .eq 21, 3) := by decide +kernel
theorem dX12_worked_68 : decode cX12_worked 68 = .ok (.iload 4, 2) := by decide +kernel
theorem dX12_worked_70 : decode cX12_worked 70 = .ok (.aload_n 0, 1) := by decide +kernel
theorem dX12_worked_71 : decode cX12_worked 71 = .ok (.getfield 45, 3) := by decide +kernel
theorem dX12_worked_74 : decode cX12_worked 74 = .ok (.iconst 5, 1) := by decide +kernel
theorem dX12_worked_75 : decode cX12_worked 75 = .ok (.iload_n 3, 1) := by decide +kernel
theorem dX12_worked_76 : decode cX12_worked 76 = .ok (.imul, 1) := by decide +kernel
theorem dX12_worked_77 : decode cX12_worked 77 = .ok (.iconst 1, 1) := by decide +kernel
theorem dX12_worked_78 : decode cX12_worked 78 = .ok (.iadd, 1) := by decide +kernel
theorem dX12_worked_79 : decode cX12_worked 79 = .ok (.iaload, 1) := by decide +kernel
theorem dX12_worked_80 : decode cX12_worked 80 = .ok (.iconst (-1), 1) := by decide +kernel
theorem dX12_worked_81 : decode cX12_worked 81 = .ok (.ixor, 1) := by decide +kernel
theorem dX12_worked_82 : decode cX12_worked 82 = .ok (.iand, 1) := by decide +kernel
theorem dX12_worked_83 : decode cX12_worked 83 = .ok (.goto 5, 3) := by decide +kernel
theorem dX12_worked_86 : decode cX12_worked 86 = .ok (.iload 4, 2) := by decide +kernel
theorem dX12_worked_88 : decode cX12_worked 88 = .ok (.istore 4, 2) := by decide +kernel
theorem dX12_worked_90 : decode cX12_worked 90 = .ok (.aload_n 0, 1) := by decide +kernel
theorem dX12_worked_91 : decode cX12_worked 91 = .ok (.getfield 36, 3) := by decide +kernel
theorem dX12_worked_94 : decode cX12_worked 94 = .ok (.iload_n 1, 1) := by decide +kernel
theorem dX12_worked_95 : decode cX12_worked 95 = .ok (.iaload, 1) := by decide +kernel
theorem dX12_worked_96 : decode cX12_worked 96 = .ok (.aload_n 0, 1) := by decide +kernel
theorem dX12_worked_97 : decode cX12_worked 97 = .ok (.getfield 36, 3) := by decide +kernel
theorem dX12_worked_100 : decode cX12_worked 100 = .ok (.iload_n 2, 1) := by decide +kernel
theorem dX12_worked_101 : decode cX12_worked 101 = .ok (.iaload, 1) := by decide +kernel
theorem dX12_worked_102 : decode cX12_worked 102 = .ok (.if_icmp .le 21, 3) := by decide +kernel
theorem dX12_worked_105 : decode cX12_worked 105 = .ok (.iload 4, 2) := by decide +kernel
theorem dX12_worked_107 : decode cX12_worked 107 = .ok (.aload_n 0, 1) := by decide +kernel
theorem dX12_worked_108 : decode cX12_worked 108 = .ok (.getfield 45, 3) := by decide +kernel
theorem dX12_worked_111 : decode cX12_worked 111 = .ok (.iconst 5, 1) := by decide +kernel
theorem dX12_worked_112 : decode cX12_worked 112 = .ok (.iload_n 3, 1) := by decide +kernel
theorem dX12_worked_113 : decode cX12_worked 113 = .ok (.imul, 1) := by decide +kernel
theorem dX12_worked_114 : decode cX12_worked 114 = .ok (.iconst 2, 1) := by decide +kernel
theorem dX12_worked_115 : decode cX12_worked 115 = .ok (.iadd, 1) := by decide +kernel
theorem dX12_worked_116 : decode cX12_worked 116 = .ok (.iaload, 1) := by decide +kernel
theorem dX12_worked_117 : decode cX12_worked 117 = .ok (.iconst (-1), 1) := by decide +kernel
theorem dX12_worked_118 : decode cX12_worked 118 = .ok (.ixor, 1) := by decide +kernel
theorem dX12_worked_119 : decode cX12_worked 119 = .ok (.iand, 1) := by decide +kernel
theorem dX12_worked_120 : decode cX12_worked 120 = .ok (.goto 5, 3) := by decide +kernel
theorem dX12_worked_123 : decode cX12_worked 123 = .ok (.iload 4, 2) := by decide +kernel
theorem dX12_worked_125 : decode cX12_worked 125 = .ok (.ireturn, 1) := by decide +kernel
theorem dX12_isThere_0 : decode cX12_isThere 0 = .ok (.iload_n 1, 1) := by decide +kernel
theorem dX12_isThere_1 : decode cX12_isThere 1 = .ok (.ifCond .lt 39, 3) := by decide +kernel
theorem dX12_isThere_4 : decode cX12_isThere 4 = .ok (.iload_n 1, 1) := by decide +kernel
theorem dX12_isThere_5 : decode cX12_isThere 5 = .ok (.aload_n 0, 1) := by decide +kernel
theorem dX12_isThere_6 : decode cX12_isThere 6 = .ok (.getfield 172, 3) := by decide +kernel
theorem dX12_isThere_9 : decode cX12_isThere 9 = .ok (.if_icmp .ge 31, 3) := by decide +kernel
theorem dX12_isThere_12 : decode cX12_isThere 12 = .ok (.iload_n 2, 1) := by decide +kernel
theorem dX12_isThere_13 : decode cX12_isThere 13 = .ok (.ifCond .lt 27, 3) := by decide +kernel
theorem dX12_isThere_16 : decode cX12_isThere 16 = .ok (.iload_n 2, 1) := by decide +kernel
theorem dX12_isThere_17 : decode cX12_isThere 17 = .ok (.aload_n 0, 1) := by decide +kernel
theorem dX12_isThere_18 : decode cX12_isThere 18 = .ok (.getfield 172, 3) := by decide +kernel
theorem dX12_isThere_21 : decode cX12_isThere 21 = .ok (.if_icmp .ge 19, 3) := by decide +kernel
theorem dX12_isThere_24 : decode cX12_isThere 24 = .ok (.iload_n 3, 1) := by decide +kernel
theorem dX12_isThere_25 : decode cX12_isThere 25 = .ok (.ifCond .lt 15, 3) := by decide +kernel
theorem dX12_isThere_28 : decode cX12_isThere 28 = .ok (.iload_n 3, 1) := by decide +kernel
theorem dX12_isThere_29 : decode cX12_isThere 29 = .ok (.aload_n 0, 1) := by decide +kernel
theorem dX12_isThere_30 : decode cX12_isThere 30 = .ok (.getfield 175, 3) := by decide +kernel
theorem dX12_isThere_33 : decode cX12_isThere 33 = .ok (.if_icmp .ge 7, 3) := by decide +kernel
theorem dX12_isThere_36 : decode cX12_isThere 36 = .ok (.iconst 1, 1) := by decide +kernel
theorem dX12_isThere_37 : decode cX12_isThere 37 = .ok (.goto 4, 3) := by decide +kernel
theorem dX12_isThere_40 : decode cX12_isThere 40 = .ok (.iconst 0, 1) := by decide +kernel
theorem dX12_isThere_41 : decode cX12_isThere 41 = .ok (.ireturn, 1) := by decide +kernel
theorem dX12_may_0 : decode cX12_may 0 = .ok (.aload_n 0, 1) := by decide +kernel
theorem dX12_may_1 : decode cX12_may 1 = .ok (.aload_n 0, 1) := by decide +kernel
theorem dX12_may_2 : decode cX12_may 2 = .ok (.iload_n 1, 1) := by decide +kernel
theorem dX12_may_3 : decode cX12_may 3 = .ok (.iload_n 2, 1) := by decide +kernel
theorem dX12_may_4 : decode cX12_may 4 = .ok (.iload_n 3, 1) := by decide +kernel
theorem dX12_may_5 : decode cX12_may 5 = .ok (.invokevirtual 203, 3) := by decide +kernel
theorem dX12_may_8 : decode cX12_may 8 = .ok (.ifCond .eq 7, 3) := by decide +kernel
theorem dX12_may_11 : decode cX12_may 11 = .ok (.iconst 0, 1) := by decide +kernel
theorem dX12_may_12 : decode cX12_may 12 = .ok (.goto 4, 3) := by decide +kernel
theorem dX12_may_15 : decode cX12_may 15 = .ok (.iconst 1, 1) := by decide +kernel
theorem dX12_may_16 : decode cX12_may 16 = .ok (.putfield 76, 3) := by decide +kernel
theorem dX12_may_19 : decode cX12_may 19 = .ok (.aload_n 0, 1) := by decide +kernel
theorem dX12_may_20 : decode cX12_may 20 = .ok (.getfield 76, 3) := by decide +kernel
theorem dX12_may_23 : decode cX12_may 23 = .ok (.ifCond .le 5, 3) := by decide +kernel
theorem dX12_may_26 : decode cX12_may 26 = .ok (.iconst 0, 1) := by decide +kernel
theorem dX12_may_27 : decode cX12_may 27 = .ok (.ireturn, 1) := by decide +kernel
theorem dX12_may_28 : decode cX12_may 28 = .ok (.bipush 64, 2) := by decide +kernel
theorem dX12_may_30 : decode cX12_may 30 = .ok (.iload_n 3, 1) := by decide +kernel
theorem dX12_may_31 : decode cX12_may 31 = .ok (.imul, 1) := by decide +kernel
theorem dX12_may_32 : decode cX12_may 32 = .ok (.bipush 8, 2) := by decide +kernel
theorem dX12_may_34 : decode cX12_may 34 = .ok (.iload_n 1, 1) := by decide +kernel
theorem dX12_may_35 : decode cX12_may 35 = .ok (.imul, 1) := by decide +kernel
theorem dX12_may_36 : decode cX12_may 36 = .ok (.iadd, 1) := by decide +kernel
theorem dX12_may_37 : decode cX12_may 37 = .ok (.iload_n 2, 1) := by decide +kernel
theorem dX12_may_38 : decode cX12_may 38 = .ok (.iadd, 1) := by decide +kernel
theorem dX12_may_39 : decode cX12_may 39 = .ok (.istore 4, 2) := by decide +kernel
theorem dX12_may_41 : decode cX12_may 41 = .ok (.iconst 0, 1) := by decide +kernel
theorem dX12_may_42 : decode cX12_may 42 = .ok (.istore 5, 2) := by decide +kernel
theorem dX12_may_44 : decode cX12_may 44 = .ok (.iload 5, 2) := by decide +kernel
theorem dX12_may_46 : decode cX12_may 46 = .ok (.aload_n 0, 1) := by decide +kernel
theorem dX12_may_47 : decode cX12_may 47 = .ok (.getfield 200, 3) := by decide +kernel
theorem dX12_may_50 : decode cX12_may 50 = .ok (.if_icmp .ge 21, 3) := by decide +kernel
theorem dX12_may_53 : decode cX12_may 53 = .ok (.aload_n 0, 1) := by decide +kernel
theorem dX12_may_54 : decode cX12_may 54 = .ok (.getfield 54, 3) := by decide +kernel
theorem dX12_may_57 : decode cX12_may 57 = .ok (.iload 5, 2) := by decide +kernel
theorem dX12_may_59 : decode cX12_may 59 = .ok (.iaload, 1) := by decide +kernel
theorem dX12_may_60 : decode cX12_may 60 = .ok (.iload 4, 2) := by decide +kernel
theorem dX12_may_62 : decode cX12_may 62 = .ok (.if_icmp .eq 9, 3) := by decide +kernel
theorem dX12_may_65 : decode cX12_may 65 = .ok (.iinc 5 1, 3) := by decide +kernel
theorem dX12_may_68 : decode cX12_may 68 = .ok (.goto (-24), 3) := by decide +kernel
theorem dX12_may_71 : decode cX12_may 71 = .ok (.aload_n 0, 1) := by decide +kernel
theorem dX12_may_72 : decode cX12_may 72 = .ok (.iload_n 1, 1) := by decide +kernel
theorem dX12_may_73 : decode cX12_may 73 = .ok (.iload_n 2, 1) := by decide +kernel
theorem dX12_may_74 : decode cX12_may 74 = .ok (.iload_n 3, 1) := by decide +kernel
theorem dX12_may_75 : decode cX12_may 75 = .ok (.invokevirtual 206, 3) := by decide +kernel
theorem dX12_may_78 : decode cX12_may 78 = .ok (.istore 6, 2) := by decide +kernel
theorem dX12_may_80 : decode cX12_may 80 = .ok (.iload 5, 2) := by decide +kernel
theorem dX12_may_82 : decode cX12_may 82 = .ok (.aload_n 0, 1) := by decide +kernel
theorem dX12_may_83 : decode cX12_may 83 = .ok (.getfield 200, 3) := by decide +kernel
theorem dX12_may_86 : decode cX12_may 86 = .ok (.if_icmp .ge 25, 3) := by decide +kernel
theorem dX12_may_89 : decode cX12_may 89 = .ok (.aload_n 0, 1) := by decide +kernel
theorem dX12_may_90 : decode cX12_may 90 = .ok (.dup, 1) := by decide +kernel
theorem dX12_may_91 : decode cX12_may 91 = .ok (.getfield 209, 3) := by decide +kernel
theorem dX12_may_94 : decode cX12_may 94 = .ok (.iconst 1, 1) := by decide +kernel
theorem dX12_may_95 : decode cX12_may 95 = .ok (.iadd, 1) := by decide +kernel
theorem dX12_may_96 : decode cX12_may 96 = .ok (.putfield 209, 3) := by decide +kernel
theorem dX12_may_99 : decode cX12_may 99 = .ok (.aload_n 0, 1) := by decide +kernel
theorem dX12_may_100 : decode cX12_may 100 = .ok (.getfield 57, 3) := by decide +kernel
theorem dX12_may_103 : decode cX12_may 103 = .ok (.iload 5, 2) := by decide +kernel
theorem dX12_may_105 : decode cX12_may 105 = .ok (.iaload, 1) := by decide +kernel
theorem dX12_may_106 : decode cX12_may 106 = .ok (.istore 6, 2) := by decide +kernel
theorem dX12_may_108 : decode cX12_may 108 = .ok (.goto 62, 3) := by decide +kernel
theorem dX12_may_111 : decode cX12_may 111 = .ok (.aload_n 0, 1) := by decide +kernel
theorem dX12_may_112 : decode cX12_may 112 = .ok (.dup, 1) := by decide +kernel
theorem dX12_may_113 : decode cX12_may 113 = .ok (.getfield 212, 3) := by decide +kernel
theorem dX12_may_116 : decode cX12_may 116 = .ok (.iconst 1, 1) := by decide +kernel
theorem dX12_may_117 : decode cX12_may 117 = .ok (.iadd, 1) := by decide +kernel
theorem dX12_may_118 : decode cX12_may 118 = .ok (.putfield 212, 3) := by decide +kernel
theorem dX12_may_121 : decode cX12_may 121 = .ok (.aload_n 0, 1) := by decide +kernel
theorem dX12_may_122 : decode cX12_may 122 = .ok (.getfield 200, 3) := by decide +kernel
theorem dX12_may_125 : decode cX12_may 125 = .ok (.aload_n 0, 1) := by decide +kernel
theorem dX12_may_126 : decode cX12_may 126 = .ok (.getfield 73, 3) := by decide +kernel
theorem dX12_may_129 : decode cX12_may 129 = .ok (.if_icmp .ne 7, 3) := by decide +kernel
theorem dX12_may_132 : decode cX12_may 132 = .ok (.iconst 0, 1) := by decide +kernel
theorem dX12_may_133 : decode cX12_may 133 = .ok (.goto 7, 3) := by decide +kernel
theorem dX12_may_136 : decode cX12_may 136 = .ok (.aload_n 0, 1) := by decide +kernel
theorem dX12_may_137 : decode cX12_may 137 = .ok (.getfield 200, 3) := by decide +kernel
theorem dX12_may_140 : decode cX12_may 140 = .ok (.istore 5, 2) := by decide +kernel
theorem dX12_may_142 : decode cX12_may 142 = .ok (.aload_n 0, 1) := by decide +kernel
theorem dX12_may_143 : decode cX12_may 143 = .ok (.aload_n 0, 1) := by decide +kernel
theorem dX12_may_144 : decode cX12_may 144 = .ok (.getfield 200, 3) := by decide +kernel
theorem dX12_may_147 : decode cX12_may 147 = .ok (.aload_n 0, 1) := by decide +kernel
theorem dX12_may_148 : decode cX12_may 148 = .ok (.getfield 73, 3) := by decide +kernel
theorem dX12_may_151 : decode cX12_may 151 = .ok (.if_icmp .ne 10, 3) := by decide +kernel
theorem dX12_may_154 : decode cX12_may 154 = .ok (.aload_n 0, 1) := by decide +kernel
theorem dX12_may_155 : decode cX12_may 155 = .ok (.getfield 200, 3) := by decide +kernel
theorem dX12_may_158 : decode cX12_may 158 = .ok (.goto 9, 3) := by decide +kernel
theorem dX12_may_161 : decode cX12_may 161 = .ok (.aload_n 0, 1) := by decide +kernel
theorem dX12_may_162 : decode cX12_may 162 = .ok (.getfield 200, 3) := by decide +kernel
theorem dX12_may_165 : decode cX12_may 165 = .ok (.iconst 1, 1) := by decide +kernel
theorem dX12_may_166 : decode cX12_may 166 = .ok (.iadd, 1) := by decide +kernel
theorem dX12_may_167 : decode cX12_may 167 = .ok (.putfield 200, 3) := by decide +kernel
theorem dX12_may_170 : decode cX12_may 170 = .ok (.iload 5, 2) := by decide +kernel
theorem dX12_may_172 : decode cX12_may 172 = .ok (.istore 7, 2) := by decide +kernel
theorem dX12_may_174 : decode cX12_may 174 = .ok (.iload 7, 2) := by decide +kernel
theorem dX12_may_176 : decode cX12_may 176 = .ok (.iconst 1, 1) := by decide +kernel
theorem dX12_may_177 : decode cX12_may 177 = .ok (.iadd, 1) := by decide +kernel
theorem dX12_may_178 : decode cX12_may 178 = .ok (.aload_n 0, 1) := by decide +kernel
theorem dX12_may_179 : decode cX12_may 179 = .ok (.getfield 200, 3) := by decide +kernel
theorem dX12_may_182 : decode cX12_may 182 = .ok (.if_icmp .ge 41, 3) := by decide +kernel
theorem dX12_may_185 : decode cX12_may 185 = .ok (.aload_n 0, 1) := by decide +kernel
theorem dX12_may_186 : decode cX12_may 186 = .ok (.getfield 54, 3) := by decide +kernel
theorem dX12_may_189 : decode cX12_may 189 = .ok (.iload 7, 2) := by decide +kernel
theorem dX12_may_191 : decode cX12_may 191 = .ok (.aload_n 0, 1) := by decide +kernel
theorem dX12_may_192 : decode cX12_may 192 = .ok (.getfield 54, 3) := by decide +kernel
theorem dX12_may_195 : decode cX12_may 195 = .ok (.iload 7, 2) := by decide +kernel
theorem dX12_may_197 : decode cX12_may 197 = .ok (.iconst 1, 1) := by decide +kernel
theorem dX12_may_198 : decode cX12_may 198 = .ok (.iadd, 1) := by decide +kernel
theorem dX12_may_199 : decode cX12_may 199 = .ok (.iaload, 1) := by decide +kernel
theorem dX12_may_200 : decode cX12_may 200 = .ok (.iastore, 1) := by decide +kernel
theorem dX12_may_201 : decode cX12_may 201 = .ok (.aload_n 0, 1) := by decide +kernel
theorem dX12_may_202 : decode cX12_may 202 = .ok (.getfield 57, 3) := by decide +kernel
theorem dX12_may_205 : decode cX12_may 205 = .ok (.iload 7, 2) := by decide +kernel
theorem dX12_may_207 : decode cX12_may 207 = .ok (.aload_n 0, 1) := by decide +kernel
theorem dX12_may_208 : decode cX12_may 208 = .ok (.getfield 57, 3) := by decide +kernel
theorem dX12_may_211 : decode cX12_may 211 = .ok (.iload 7, 2) := by decide +kernel
theorem dX12_may_213 : decode cX12_may 213 = .ok (.iconst 1, 1) := by decide +kernel
theorem dX12_may_214 : decode cX12_may 214 = .ok (.iadd, 1) := by decide +kernel
theorem dX12_may_215 : decode cX12_may 215 = .ok (.iaload, 1) := by decide +kernel
theorem dX12_may_216 : decode cX12_may 216 = .ok (.iastore, 1) := by decide +kernel
theorem dX12_may_217 : decode cX12_may 217 = .ok (.iinc 7 1, 3) := by decide +kernel
theorem dX12_may_220 : decode cX12_may 220 = .ok (.goto (-46), 3) := by decide +kernel
theorem dX12_may_223 : decode cX12_may 223 = .ok (.aload_n 0, 1) := by decide +kernel
theorem dX12_may_224 : decode cX12_may 224 = .ok (.getfield 54, 3) := by decide +kernel
theorem dX12_may_227 : decode cX12_may 227 = .ok (.aload_n 0, 1) := by decide +kernel
theorem dX12_may_228 : decode cX12_may 228 = .ok (.getfield 200, 3) := by decide +kernel
theorem dX12_may_231 : decode cX12_may 231 = .ok (.iconst 1, 1) := by decide +kernel
theorem dX12_may_232 : decode cX12_may 232 = .ok (.isub, 1) := by decide +kernel
theorem dX12_may_233 : decode cX12_may 233 = .ok (.iload 4, 2) := by decide +kernel
theorem dX12_may_235 : decode cX12_may 235 = .ok (.iastore, 1) := by decide +kernel
theorem dX12_may_236 : decode cX12_may 236 = .ok (.aload_n 0, 1) := by decide +kernel
theorem dX12_may_237 : decode cX12_may 237 = .ok (.getfield 57, 3) := by decide +kernel
theorem dX12_may_240 : decode cX12_may 240 = .ok (.aload_n 0, 1) := by decide +kernel
theorem dX12_may_241 : decode cX12_may 241 = .ok (.getfield 200, 3) := by decide +kernel
theorem dX12_may_244 : decode cX12_may 244 = .ok (.iconst 1, 1) := by decide +kernel
theorem dX12_may_245 : decode cX12_may 245 = .ok (.isub, 1) := by decide +kernel
theorem dX12_may_246 : decode cX12_may 246 = .ok (.iload 6, 2) := by decide +kernel
theorem dX12_may_248 : decode cX12_may 248 = .ok (.iastore, 1) := by decide +kernel
theorem dX12_may_249 : decode cX12_may 249 = .ok (.iload 6, 2) := by decide +kernel
theorem dX12_may_251 : decode cX12_may 251 = .ok (.ireturn, 1) := by decide +kernel
theorem dX12_made_0 : decode cX12_made 0 = .ok (.aload_n 0, 1) := by decide +kernel
theorem dX12_made_1 : decode cX12_made 1 = .ok (.iconst 0, 1) := by decide +kernel
theorem dX12_made_2 : decode cX12_made 2 = .ok (.putfield 76, 3) := by decide +kernel
theorem dX12_made_5 : decode cX12_made 5 = .ok (.aload_n 0, 1) := by decide +kernel
theorem dX12_made_6 : decode cX12_made 6 = .ok (.iload_n 1, 1) := by decide +kernel
theorem dX12_made_7 : decode cX12_made 7 = .ok (.iload_n 2, 1) := by decide +kernel
theorem dX12_made_8 : decode cX12_made 8 = .ok (.iload_n 3, 1) := by decide +kernel
theorem dX12_made_9 : decode cX12_made 9 = .ok (.invokevirtual 203, 3) := by decide +kernel
theorem dX12_made_12 : decode cX12_made 12 = .ok (.ifCond .eq 22, 3) := by decide +kernel
theorem dX12_made_15 : decode cX12_made 15 = .ok (.aload_n 0, 1) := by decide +kernel
theorem dX12_made_16 : decode cX12_made 16 = .ok (.getfield 42, 3) := by decide +kernel
theorem dX12_made_19 : decode cX12_made 19 = .ok (.bipush 64, 2) := by decide +kernel
theorem dX12_made_21 : decode cX12_made 21 = .ok (.iload_n 3, 1) := by decide +kernel
theorem dX12_made_22 : decode cX12_made 22 = .ok (.imul, 1) := by decide +kernel
theorem dX12_made_23 : decode cX12_made 23 = .ok (.bipush 8, 2) := by decide +kernel
theorem dX12_made_25 : decode cX12_made 25 = .ok (.iload_n 1, 1) := by decide +kernel
theorem dX12_made_26 : decode cX12_made 26 = .ok (.imul, 1) := by decide +kernel
theorem dX12_made_27 : decode cX12_made 27 = .ok (.iadd, 1) := by decide +kernel
theorem dX12_made_28 : decode cX12_made 28 = .ok (.iload_n 2, 1) := by decide +kernel
theorem dX12_made_29 : decode cX12_made 29 = .ok (.iadd, 1) := by decide +kernel
theorem dX12_made_30 : decode cX12_made 30 = .ok (.iaload, 1) := by decide +kernel
theorem dX12_made_31 : decode cX12_made 31 = .ok (.goto 4, 3) := by decide +kernel
theorem dX12_made_34 : decode cX12_made 34 = .ok (.iconst (-1), 1) := by decide +kernel
theorem dX12_made_35 : decode cX12_made 35 = .ok (.ireturn, 1) := by decide +kernel
theorem dX12_flows_0 : decode cX12_flows 0 = .ok (.iconst 0, 1) := by decide +kernel
theorem dX12_flows_1 : decode cX12_flows 1 = .ok (.istore_n 3, 1) := by decide +kernel
theorem dX12_flows_2 : decode cX12_flows 2 = .ok (.iconst 0, 1) := by decide +kernel
theorem dX12_flows_3 : decode cX12_flows 3 = .ok (.istore 4, 2) := by decide +kernel
theorem dX12_flows_5 : decode cX12_flows 5 = .ok (.iload 4, 2) := by decide +kernel
theorem dX12_flows_7 : decode cX12_flows 7 = .ok (.aload_n 0, 1) := by decide +kernel
theorem dX12_flows_8 : decode cX12_flows 8 = .ok (.getfield 175, 3) := by decide +kernel
theorem dX12_flows_11 : decode cX12_flows 11 = .ok (.if_icmp .ge 65, 3) := by decide +kernel
theorem dX12_flows_14 : decode cX12_flows 14 = .ok (.iload_n 3, 1) := by decide +kernel
theorem dX12_flows_15 : decode cX12_flows 15 = .ok (.ifCond .ne 49, 3) := by decide +kernel
theorem dX12_flows_18 : decode cX12_flows 18 = .ok (.aload_n 0, 1) := by decide +kernel
theorem dX12_flows_19 : decode cX12_flows 19 = .ok (.iload_n 2, 1) := by decide +kernel
theorem dX12_flows_20 : decode cX12_flows 20 = .ok (.iload_n 1, 1) := by decide +kernel
theorem dX12_flows_21 : decode cX12_flows 21 = .ok (.iload 4, 2) := by decide +kernel
theorem dX12_flows_23 : decode cX12_flows 23 = .ok (.invokevirtual 206, 3) := by decide +kernel
theorem dX12_flows_26 : decode cX12_flows 26 = .ok (.aload_n 0, 1) := by decide +kernel
theorem dX12_flows_27 : decode cX12_flows 27 = .ok (.getfield 45, 3) := by decide +kernel
theorem dX12_flows_30 : decode cX12_flows 30 = .ok (.iconst 5, 1) := by decide +kernel
theorem dX12_flows_31 : decode cX12_flows 31 = .ok (.iload 4, 2) := by decide +kernel
theorem dX12_flows_33 : decode cX12_flows 33 = .ok (.imul, 1) := by decide +kernel
theorem dX12_flows_34 : decode cX12_flows 34 = .ok (.iconst 3, 1) := by decide +kernel
theorem dX12_flows_35 : decode cX12_flows 35 = .ok (.iadd, 1) := by decide +kernel
theorem dX12_flows_36 : decode cX12_flows 36 = .ok (.iaload, 1) := by decide +kernel
theorem dX12_flows_37 : decode cX12_flows 37 = .ok (.iand, 1) := by decide +kernel
theorem dX12_flows_38 : decode cX12_flows 38 = .ok (.ifCond .ne 26, 3) := by decide +kernel
theorem dX12_flows_41 : decode cX12_flows 41 = .ok (.aload_n 0, 1) := by decide +kernel
theorem dX12_flows_42 : decode cX12_flows 42 = .ok (.iload_n 1, 1) := by decide +kernel
end
section
theorem dX12_flows_43 : decode cX12_flows 43 = .ok (.iload_n 2, 1) := by decide +kernel
theorem dX12_flows_44 : decode cX12_flows 44 = .ok (.iload 4, 2) := by decide +kernel
theorem dX12_flows_46 : decode cX12_flows 46 = .ok (.invokevirtual 206, 3) := by decide +kernel
theorem dX12_flows_49 : decode cX12_flows 49 = .ok (.aload_n 0, 1) := by decide +kernel
theorem dX12_flows_50 : decode cX12_flows 50 = .ok (.getfield 45, 3) := by decide +kernel
theorem dX12_flows_53 : decode cX12_flows 53 = .ok (.iconst 5, 1) := by decide +kernel
theorem dX12_flows_54 : decode cX12_flows 54 = .ok (.iload 4, 2) := by decide +kernel
theorem dX12_flows_56 : decode cX12_flows 56 = .ok (.imul, 1) := by decide +kernel
theorem dX12_flows_57 : decode cX12_flows 57 = .ok (.iconst 4, 1) := by decide +kernel
theorem dX12_flows_58 : decode cX12_flows 58 = .ok (.iadd, 1) := by decide +kernel
theorem dX12_flows_59 : decode cX12_flows 59 = .ok (.iaload, 1) := by decide +kernel
theorem dX12_flows_60 : decode cX12_flows 60 = .ok (.iand, 1) := by decide +kernel
theorem dX12_flows_61 : decode cX12_flows 61 = .ok (.ifCond .eq 7, 3) := by decide +kernel
theorem dX12_flows_64 : decode cX12_flows 64 = .ok (.iconst 1, 1) := by decide +kernel
theorem dX12_flows_65 : decode cX12_flows 65 = .ok (.goto 4, 3) := by decide +kernel
theorem dX12_flows_68 : decode cX12_flows 68 = .ok (.iconst 0, 1) := by decide +kernel
theorem dX12_flows_69 : decode cX12_flows 69 = .ok (.istore_n 3, 1) := by decide +kernel
theorem dX12_flows_70 : decode cX12_flows 70 = .ok (.iinc 4 1, 3) := by decide +kernel
theorem dX12_flows_73 : decode cX12_flows 73 = .ok (.goto (-68), 3) := by decide +kernel
theorem dX12_flows_76 : decode cX12_flows 76 = .ok (.iload_n 3, 1) := by decide +kernel
theorem dX12_flows_77 : decode cX12_flows 77 = .ok (.ireturn, 1) := by decide +kernel
theorem dX12_flow_0 : decode cX12_flow 0 = .ok (.aload_n 0, 1) := by decide +kernel
theorem dX12_flow_1 : decode cX12_flow 1 = .ok (.iconst 0, 1) := by decide +kernel
theorem dX12_flow_2 : decode cX12_flow 2 = .ok (.putfield 76, 3) := by decide +kernel
theorem dX12_flow_5 : decode cX12_flow 5 = .ok (.aload_n 0, 1) := by decide +kernel
theorem dX12_flow_6 : decode cX12_flow 6 = .ok (.iload_n 1, 1) := by decide +kernel
theorem dX12_flow_7 : decode cX12_flow 7 = .ok (.iload_n 2, 1) := by decide +kernel
theorem dX12_flow_8 : decode cX12_flow 8 = .ok (.iconst 0, 1) := by decide +kernel
theorem dX12_flow_9 : decode cX12_flow 9 = .ok (.invokevirtual 203, 3) := by decide +kernel
theorem dX12_flow_12 : decode cX12_flow 12 = .ok (.ifCond .ne 5, 3) := by decide +kernel
theorem dX12_flow_15 : decode cX12_flow 15 = .ok (.iconst (-1), 1) := by decide +kernel
theorem dX12_flow_16 : decode cX12_flow 16 = .ok (.ireturn, 1) := by decide +kernel
theorem dX12_flow_17 : decode cX12_flow 17 = .ok (.iconst 0, 1) := by decide +kernel
theorem dX12_flow_18 : decode cX12_flow 18 = .ok (.istore_n 3, 1) := by decide +kernel
theorem dX12_flow_19 : decode cX12_flow 19 = .ok (.iload_n 3, 1) := by decide +kernel
theorem dX12_flow_20 : decode cX12_flow 20 = .ok (.aload_n 0, 1) := by decide +kernel
theorem dX12_flow_21 : decode cX12_flow 21 = .ok (.getfield 172, 3) := by decide +kernel
theorem dX12_flow_24 : decode cX12_flow 24 = .ok (.if_icmp .ge 25, 3) := by decide +kernel
theorem dX12_flow_27 : decode cX12_flow 27 = .ok (.aload_n 0, 1) := by decide +kernel
theorem dX12_flow_28 : decode cX12_flow 28 = .ok (.getfield 66, 3) := by decide +kernel
theorem dX12_flow_31 : decode cX12_flow 31 = .ok (.iload_n 3, 1) := by decide +kernel
theorem dX12_flow_32 : decode cX12_flow 32 = .ok (.iload_n 3, 1) := by decide +kernel
theorem dX12_flow_33 : decode cX12_flow 33 = .ok (.iload_n 1, 1) := by decide +kernel
theorem dX12_flow_34 : decode cX12_flow 34 = .ok (.if_icmp .ne 7, 3) := by decide +kernel
theorem dX12_flow_37 : decode cX12_flow 37 = .ok (.iconst 1, 1) := by decide +kernel
theorem dX12_flow_38 : decode cX12_flow 38 = .ok (.goto 4, 3) := by decide +kernel
theorem dX12_flow_41 : decode cX12_flow 41 = .ok (.iconst 0, 1) := by decide +kernel
theorem dX12_flow_42 : decode cX12_flow 42 = .ok (.bastore, 1) := by decide +kernel
theorem dX12_flow_43 : decode cX12_flow 43 = .ok (.iinc 3 1, 3) := by decide +kernel
theorem dX12_flow_46 : decode cX12_flow 46 = .ok (.goto (-27), 3) := by decide +kernel
theorem dX12_flow_49 : decode cX12_flow 49 = .ok (.iconst 0, 1) := by decide +kernel
theorem dX12_flow_50 : decode cX12_flow 50 = .ok (.istore_n 3, 1) := by decide +kernel
theorem dX12_flow_51 : decode cX12_flow 51 = .ok (.iload_n 3, 1) := by decide +kernel
theorem dX12_flow_52 : decode cX12_flow 52 = .ok (.bipush 8, 2) := by decide +kernel
theorem dX12_flow_54 : decode cX12_flow 54 = .ok (.if_icmp .ge 145, 3) := by decide +kernel
theorem dX12_flow_57 : decode cX12_flow 57 = .ok (.aload_n 0, 1) := by decide +kernel
theorem dX12_flow_58 : decode cX12_flow 58 = .ok (.getfield 66, 3) := by decide +kernel
theorem dX12_flow_61 : decode cX12_flow 61 = .ok (.iload_n 2, 1) := by decide +kernel
theorem dX12_flow_62 : decode cX12_flow 62 = .ok (.baload, 1) := by decide +kernel
theorem dX12_flow_63 : decode cX12_flow 63 = .ok (.ifCond .eq 5, 3) := by decide +kernel
theorem dX12_flow_66 : decode cX12_flow 66 = .ok (.iload_n 3, 1) := by decide +kernel
theorem dX12_flow_67 : decode cX12_flow 67 = .ok (.ireturn, 1) := by decide +kernel
theorem dX12_flow_68 : decode cX12_flow 68 = .ok (.iconst 0, 1) := by decide +kernel
theorem dX12_flow_69 : decode cX12_flow 69 = .ok (.istore 4, 2) := by decide +kernel
theorem dX12_flow_71 : decode cX12_flow 71 = .ok (.iload 4, 2) := by decide +kernel
theorem dX12_flow_73 : decode cX12_flow 73 = .ok (.aload_n 0, 1) := by decide +kernel
theorem dX12_flow_74 : decode cX12_flow 74 = .ok (.getfield 172, 3) := by decide +kernel
theorem dX12_flow_77 : decode cX12_flow 77 = .ok (.if_icmp .ge 84, 3) := by decide +kernel
theorem dX12_flow_80 : decode cX12_flow 80 = .ok (.aload_n 0, 1) := by decide +kernel
theorem dX12_flow_81 : decode cX12_flow 81 = .ok (.getfield 70, 3) := by decide +kernel
theorem dX12_flow_84 : decode cX12_flow 84 = .ok (.iload 4, 2) := by decide +kernel
theorem dX12_flow_86 : decode cX12_flow 86 = .ok (.aload_n 0, 1) := by decide +kernel
theorem dX12_flow_87 : decode cX12_flow 87 = .ok (.getfield 66, 3) := by decide +kernel
theorem dX12_flow_90 : decode cX12_flow 90 = .ok (.iload 4, 2) := by decide +kernel
theorem dX12_flow_92 : decode cX12_flow 92 = .ok (.baload, 1) := by decide +kernel
theorem dX12_flow_93 : decode cX12_flow 93 = .ok (.bastore, 1) := by decide +kernel
theorem dX12_flow_94 : decode cX12_flow 94 = .ok (.iconst 0, 1) := by decide +kernel
theorem dX12_flow_95 : decode cX12_flow 95 = .ok (.istore 5, 2) := by decide +kernel
theorem dX12_flow_97 : decode cX12_flow 97 = .ok (.iload 5, 2) := by decide +kernel
theorem dX12_flow_99 : decode cX12_flow 99 = .ok (.aload_n 0, 1) := by decide +kernel
theorem dX12_flow_100 : decode cX12_flow 100 = .ok (.getfield 172, 3) := by decide +kernel
theorem dX12_flow_103 : decode cX12_flow 103 = .ok (.if_icmp .ge 52, 3) := by decide +kernel
theorem dX12_flow_106 : decode cX12_flow 106 = .ok (.aload_n 0, 1) := by decide +kernel
theorem dX12_flow_107 : decode cX12_flow 107 = .ok (.getfield 70, 3) := by decide +kernel
theorem dX12_flow_110 : decode cX12_flow 110 = .ok (.iload 4, 2) := by decide +kernel
theorem dX12_flow_112 : decode cX12_flow 112 = .ok (.aload_n 0, 1) := by decide +kernel
theorem dX12_flow_113 : decode cX12_flow 113 = .ok (.getfield 70, 3) := by decide +kernel
theorem dX12_flow_116 : decode cX12_flow 116 = .ok (.iload 4, 2) := by decide +kernel
theorem dX12_flow_118 : decode cX12_flow 118 = .ok (.baload, 1) := by decide +kernel
theorem dX12_flow_119 : decode cX12_flow 119 = .ok (.ifCond .ne 24, 3) := by decide +kernel
theorem dX12_flow_122 : decode cX12_flow 122 = .ok (.aload_n 0, 1) := by decide +kernel
theorem dX12_flow_123 : decode cX12_flow 123 = .ok (.getfield 66, 3) := by decide +kernel
theorem dX12_flow_126 : decode cX12_flow 126 = .ok (.iload 5, 2) := by decide +kernel
theorem dX12_flow_128 : decode cX12_flow 128 = .ok (.baload, 1) := by decide +kernel
theorem dX12_flow_129 : decode cX12_flow 129 = .ok (.ifCond .eq 18, 3) := by decide +kernel
theorem dX12_flow_132 : decode cX12_flow 132 = .ok (.aload_n 0, 1) := by decide +kernel
theorem dX12_flow_133 : decode cX12_flow 133 = .ok (.iload 5, 2) := by decide +kernel
theorem dX12_flow_135 : decode cX12_flow 135 = .ok (.iload 4, 2) := by decide +kernel
theorem dX12_flow_137 : decode cX12_flow 137 = .ok (.invokevirtual 215, 3) := by decide +kernel
theorem dX12_flow_140 : decode cX12_flow 140 = .ok (.ifCond .eq 7, 3) := by decide +kernel
theorem dX12_flow_143 : decode cX12_flow 143 = .ok (.iconst 1, 1) := by decide +kernel
theorem dX12_flow_144 : decode cX12_flow 144 = .ok (.goto 4, 3) := by decide +kernel
theorem dX12_flow_147 : decode cX12_flow 147 = .ok (.iconst 0, 1) := by decide +kernel
theorem dX12_flow_148 : decode cX12_flow 148 = .ok (.bastore, 1) := by decide +kernel
theorem dX12_flow_149 : decode cX12_flow 149 = .ok (.iinc 5 1, 3) := by decide +kernel
theorem dX12_flow_152 : decode cX12_flow 152 = .ok (.goto (-55), 3) := by decide +kernel
theorem dX12_flow_155 : decode cX12_flow 155 = .ok (.iinc 4 1, 3) := by decide +kernel
theorem dX12_flow_158 : decode cX12_flow 158 = .ok (.goto (-87), 3) := by decide +kernel
theorem dX12_flow_161 : decode cX12_flow 161 = .ok (.iconst 0, 1) := by decide +kernel
theorem dX12_flow_162 : decode cX12_flow 162 = .ok (.istore 4, 2) := by decide +kernel
theorem dX12_flow_164 : decode cX12_flow 164 = .ok (.iload 4, 2) := by decide +kernel
theorem dX12_flow_166 : decode cX12_flow 166 = .ok (.aload_n 0, 1) := by decide +kernel
theorem dX12_flow_167 : decode cX12_flow 167 = .ok (.getfield 172, 3) := by decide +kernel
theorem dX12_flow_170 : decode cX12_flow 170 = .ok (.if_icmp .ge 23, 3) := by decide +kernel
theorem dX12_flow_173 : decode cX12_flow 173 = .ok (.aload_n 0, 1) := by decide +kernel
theorem dX12_flow_174 : decode cX12_flow 174 = .ok (.getfield 66, 3) := by decide +kernel
theorem dX12_flow_177 : decode cX12_flow 177 = .ok (.iload 4, 2) := by decide +kernel
theorem dX12_flow_179 : decode cX12_flow 179 = .ok (.aload_n 0, 1) := by decide +kernel
theorem dX12_flow_180 : decode cX12_flow 180 = .ok (.getfield 70, 3) := by decide +kernel
theorem dX12_flow_183 : decode cX12_flow 183 = .ok (.iload 4, 2) := by decide +kernel
theorem dX12_flow_185 : decode cX12_flow 185 = .ok (.baload, 1) := by decide +kernel
theorem dX12_flow_186 : decode cX12_flow 186 = .ok (.bastore, 1) := by decide +kernel
theorem dX12_flow_187 : decode cX12_flow 187 = .ok (.iinc 4 1, 3) := by decide +kernel
theorem dX12_flow_190 : decode cX12_flow 190 = .ok (.goto (-26), 3) := by decide +kernel
theorem dX12_flow_193 : decode cX12_flow 193 = .ok (.iinc 3 1, 3) := by decide +kernel
theorem dX12_flow_196 : decode cX12_flow 196 = .ok (.goto (-145), 3) := by decide +kernel
theorem dX12_flow_199 : decode cX12_flow 199 = .ok (.iconst (-1), 1) := by decide +kernel
theorem dX12_flow_200 : decode cX12_flow 200 = .ok (.ireturn, 1) := by decide +kernel
theorem dX12_count_0 : decode cX12_count 0 = .ok (.aload_n 0, 1) := by decide +kernel
theorem dX12_count_1 : decode cX12_count 1 = .ok (.iconst 0, 1) := by decide +kernel
theorem dX12_count_2 : decode cX12_count 2 = .ok (.putfield 76, 3) := by decide +kernel
theorem dX12_count_5 : decode cX12_count 5 = .ok (.iload_n 1, 1) := by decide +kernel
theorem dX12_count_6 : decode cX12_count 6 = .ok (.tableswitch 68 0 5 #[38, 43, 48, 53, 58, 63], 38) := by decide +kernel
theorem dX12_count_44 : decode cX12_count 44 = .ok (.aload_n 0, 1) := by decide +kernel
theorem dX12_count_45 : decode cX12_count 45 = .ok (.getfield 172, 3) := by decide +kernel
theorem dX12_count_48 : decode cX12_count 48 = .ok (.ireturn, 1) := by decide +kernel
theorem dX12_count_49 : decode cX12_count 49 = .ok (.aload_n 0, 1) := by decide +kernel
theorem dX12_count_50 : decode cX12_count 50 = .ok (.getfield 175, 3) := by decide +kernel
theorem dX12_count_53 : decode cX12_count 53 = .ok (.ireturn, 1) := by decide +kernel
theorem dX12_count_54 : decode cX12_count 54 = .ok (.aload_n 0, 1) := by decide +kernel
theorem dX12_count_55 : decode cX12_count 55 = .ok (.getfield 209, 3) := by decide +kernel
theorem dX12_count_58 : decode cX12_count 58 = .ok (.ireturn, 1) := by decide +kernel
theorem dX12_count_59 : decode cX12_count 59 = .ok (.aload_n 0, 1) := by decide +kernel
theorem dX12_count_60 : decode cX12_count 60 = .ok (.getfield 212, 3) := by decide +kernel
theorem dX12_count_63 : decode cX12_count 63 = .ok (.ireturn, 1) := by decide +kernel
theorem dX12_count_64 : decode cX12_count 64 = .ok (.aload_n 0, 1) := by decide +kernel
theorem dX12_count_65 : decode cX12_count 65 = .ok (.getfield 200, 3) := by decide +kernel
theorem dX12_count_68 : decode cX12_count 68 = .ok (.ireturn, 1) := by decide +kernel
theorem dX12_count_69 : decode cX12_count 69 = .ok (.aload_n 0, 1) := by decide +kernel
theorem dX12_count_70 : decode cX12_count 70 = .ok (.getfield 107, 3) := by decide +kernel
theorem dX12_count_73 : decode cX12_count 73 = .ok (.ireturn, 1) := by decide +kernel
theorem dX12_count_74 : decode cX12_count 74 = .ok (.iconst 0, 1) := by decide +kernel
theorem dX12_count_75 : decode cX12_count 75 = .ok (.ireturn, 1) := by decide +kernel
theorem dX12_say_0 : decode cX12_say 0 = .ok (.aload_n 0, 1) := by decide +kernel
theorem dX12_say_1 : decode cX12_say 1 = .ok (.getfield 60, 3) := by decide +kernel
theorem dX12_say_4 : decode cX12_say 4 = .ok (.aload_n 0, 1) := by decide +kernel
theorem dX12_say_5 : decode cX12_say 5 = .ok (.getfield 218, 3) := by decide +kernel
theorem dX12_say_8 : decode cX12_say 8 = .ok (.iload_n 1, 1) := by decide +kernel
theorem dX12_say_9 : decode cX12_say 9 = .ok (.iastore, 1) := by decide +kernel
theorem dX12_say_10 : decode cX12_say 10 = .ok (.aload_n 0, 1) := by decide +kernel
theorem dX12_say_11 : decode cX12_say 11 = .ok (.dup, 1) := by decide +kernel
theorem dX12_say_12 : decode cX12_say 12 = .ok (.getfield 218, 3) := by decide +kernel
theorem dX12_say_15 : decode cX12_say 15 = .ok (.iconst 1, 1) := by decide +kernel
theorem dX12_say_16 : decode cX12_say 16 = .ok (.iadd, 1) := by decide +kernel
theorem dX12_say_17 : decode cX12_say 17 = .ok (.putfield 218, 3) := by decide +kernel
theorem dX12_say_20 : decode cX12_say 20 = .ok (.return_, 1) := by decide +kernel
theorem dX12_image_0 : decode cX12_image 0 = .ok (.aload_n 0, 1) := by decide +kernel
theorem dX12_image_1 : decode cX12_image 1 = .ok (.iconst 0, 1) := by decide +kernel
theorem dX12_image_2 : decode cX12_image 2 = .ok (.putfield 76, 3) := by decide +kernel
theorem dX12_image_5 : decode cX12_image 5 = .ok (.aload_n 0, 1) := by decide +kernel
theorem dX12_image_6 : decode cX12_image 6 = .ok (.getfield 172, 3) := by decide +kernel
theorem dX12_image_9 : decode cX12_image 9 = .ok (.ifCond .ne 5, 3) := by decide +kernel
theorem dX12_image_12 : decode cX12_image 12 = .ok (.iconst 0, 1) := by decide +kernel
theorem dX12_image_13 : decode cX12_image 13 = .ok (.ireturn, 1) := by decide +kernel
theorem dX12_image_14 : decode cX12_image 14 = .ok (.aload_n 0, 1) := by decide +kernel
theorem dX12_image_15 : decode cX12_image 15 = .ok (.iconst 0, 1) := by decide +kernel
theorem dX12_image_16 : decode cX12_image 16 = .ok (.putfield 218, 3) := by decide +kernel
theorem dX12_image_19 : decode cX12_image 19 = .ok (.aload_n 0, 1) := by decide +kernel
theorem dX12_image_20 : decode cX12_image 20 = .ok (.aload_n 0, 1) := by decide +kernel
theorem dX12_image_21 : decode cX12_image 21 = .ok (.getfield 172, 3) := by decide +kernel
theorem dX12_image_24 : decode cX12_image 24 = .ok (.invokevirtual 221, 3) := by decide +kernel
theorem dX12_image_27 : decode cX12_image 27 = .ok (.aload_n 0, 1) := by decide +kernel
theorem dX12_image_28 : decode cX12_image 28 = .ok (.aload_n 0, 1) := by decide +kernel
theorem dX12_image_29 : decode cX12_image 29 = .ok (.getfield 175, 3) := by decide +kernel
theorem dX12_image_32 : decode cX12_image 32 = .ok (.invokevirtual 221, 3) := by decide +kernel
theorem dX12_image_35 : decode cX12_image 35 = .ok (.iconst 0, 1) := by decide +kernel
theorem dX12_image_36 : decode cX12_image 36 = .ok (.istore_n 1, 1) := by decide +kernel
theorem dX12_image_37 : decode cX12_image 37 = .ok (.iload_n 1, 1) := by decide +kernel
theorem dX12_image_38 : decode cX12_image 38 = .ok (.aload_n 0, 1) := by decide +kernel
theorem dX12_image_39 : decode cX12_image 39 = .ok (.getfield 175, 3) := by decide +kernel
theorem dX12_image_42 : decode cX12_image 42 = .ok (.if_icmp .ge 19, 3) := by decide +kernel
theorem dX12_image_45 : decode cX12_image 45 = .ok (.aload_n 0, 1) := by decide +kernel
theorem dX12_image_46 : decode cX12_image 46 = .ok (.aload_n 0, 1) := by decide +kernel
theorem dX12_image_47 : decode cX12_image 47 = .ok (.getfield 33, 3) := by decide +kernel
theorem dX12_image_50 : decode cX12_image 50 = .ok (.iload_n 1, 1) := by decide +kernel
theorem dX12_image_51 : decode cX12_image 51 = .ok (.iaload, 1) := by decide +kernel
theorem dX12_image_52 : decode cX12_image 52 = .ok (.invokevirtual 221, 3) := by decide +kernel
theorem dX12_image_55 : decode cX12_image 55 = .ok (.iinc 1 1, 3) := by decide +kernel
theorem dX12_image_58 : decode cX12_image 58 = .ok (.goto (-21), 3) := by decide +kernel
theorem dX12_image_61 : decode cX12_image 61 = .ok (.iconst 0, 1) := by decide +kernel
theorem dX12_image_62 : decode cX12_image 62 = .ok (.istore_n 1, 1) := by decide +kernel
theorem dX12_image_63 : decode cX12_image 63 = .ok (.iload_n 1, 1) := by decide +kernel
theorem dX12_image_64 : decode cX12_image 64 = .ok (.aload_n 0, 1) := by decide +kernel
theorem dX12_image_65 : decode cX12_image 65 = .ok (.getfield 172, 3) := by decide +kernel
theorem dX12_image_68 : decode cX12_image 68 = .ok (.if_icmp .ge 19, 3) := by decide +kernel
theorem dX12_image_71 : decode cX12_image 71 = .ok (.aload_n 0, 1) := by decide +kernel
theorem dX12_image_72 : decode cX12_image 72 = .ok (.aload_n 0, 1) := by decide +kernel
theorem dX12_image_73 : decode cX12_image 73 = .ok (.getfield 36, 3) := by decide +kernel
theorem dX12_image_76 : decode cX12_image 76 = .ok (.iload_n 1, 1) := by decide +kernel
theorem dX12_image_77 : decode cX12_image 77 = .ok (.iaload, 1) := by decide +kernel
theorem dX12_image_78 : decode cX12_image 78 = .ok (.invokevirtual 221, 3) := by decide +kernel
theorem dX12_image_81 : decode cX12_image 81 = .ok (.iinc 1 1, 3) := by decide +kernel
theorem dX12_image_84 : decode cX12_image 84 = .ok (.goto (-21), 3) := by decide +kernel
theorem dX12_image_87 : decode cX12_image 87 = .ok (.iconst 0, 1) := by decide +kernel
theorem dX12_image_88 : decode cX12_image 88 = .ok (.istore_n 1, 1) := by decide +kernel
theorem dX12_image_89 : decode cX12_image 89 = .ok (.iload_n 1, 1) := by decide +kernel
theorem dX12_image_90 : decode cX12_image 90 = .ok (.aload_n 0, 1) := by decide +kernel
theorem dX12_image_91 : decode cX12_image 91 = .ok (.getfield 175, 3) := by decide +kernel
theorem dX12_image_94 : decode cX12_image 94 = .ok (.if_icmp .ge 140, 3) := by decide +kernel
theorem dX12_image_97 : decode cX12_image 97 = .ok (.iconst 0, 1) := by decide +kernel
theorem dX12_image_98 : decode cX12_image 98 = .ok (.istore_n 2, 1) := by decide +kernel
theorem dX12_image_99 : decode cX12_image 99 = .ok (.iload_n 2, 1) := by decide +kernel
theorem dX12_image_100 : decode cX12_image 100 = .ok (.aload_n 0, 1) := by decide +kernel
theorem dX12_image_101 : decode cX12_image 101 = .ok (.getfield 172, 3) := by decide +kernel
theorem dX12_image_104 : decode cX12_image 104 = .ok (.aload_n 0, 1) := by decide +kernel
theorem dX12_image_105 : decode cX12_image 105 = .ok (.getfield 172, 3) := by decide +kernel
theorem dX12_image_108 : decode cX12_image 108 = .ok (.imul, 1) := by decide +kernel
theorem dX12_image_109 : decode cX12_image 109 = .ok (.if_icmp .ge 39, 3) := by decide +kernel
theorem dX12_image_112 : decode cX12_image 112 = .ok (.aload_n 0, 1) := by decide +kernel
theorem dX12_image_113 : decode cX12_image 113 = .ok (.aload_n 0, 1) := by decide +kernel
theorem dX12_image_114 : decode cX12_image 114 = .ok (.getfield 39, 3) := by decide +kernel
theorem dX12_image_117 : decode cX12_image 117 = .ok (.bipush 64, 2) := by decide +kernel
theorem dX12_image_119 : decode cX12_image 119 = .ok (.iload_n 1, 1) := by decide +kernel
theorem dX12_image_120 : decode cX12_image 120 = .ok (.imul, 1) := by decide +kernel
theorem dX12_image_121 : decode cX12_image 121 = .ok (.bipush 8, 2) := by decide +kernel
theorem dX12_image_123 : decode cX12_image 123 = .ok (.iload_n 2, 1) := by decide +kernel
theorem dX12_image_124 : decode cX12_image 124 = .ok (.aload_n 0, 1) := by decide +kernel
theorem dX12_image_125 : decode cX12_image 125 = .ok (.getfield 172, 3) := by decide +kernel
theorem dX12_image_128 : decode cX12_image 128 = .ok (.idiv, 1) := by decide +kernel
theorem dX12_image_129 : decode cX12_image 129 = .ok (.imul, 1) := by decide +kernel
theorem dX12_image_130 : decode cX12_image 130 = .ok (.iadd, 1) := by decide +kernel
theorem dX12_image_131 : decode cX12_image 131 = .ok (.iload_n 2, 1) := by decide +kernel
theorem dX12_image_132 : decode cX12_image 132 = .ok (.aload_n 0, 1) := by decide +kernel
theorem dX12_image_133 : decode cX12_image 133 = .ok (.getfield 172, 3) := by decide +kernel
theorem dX12_image_136 : decode cX12_image 136 = .ok (.irem, 1) := by decide +kernel
theorem dX12_image_137 : decode cX12_image 137 = .ok (.iadd, 1) := by decide +kernel
theorem dX12_image_138 : decode cX12_image 138 = .ok (.iaload, 1) := by decide +kernel
theorem dX12_image_139 : decode cX12_image 139 = .ok (.invokevirtual 221, 3) := by decide +kernel
theorem dX12_image_142 : decode cX12_image 142 = .ok (.iinc 2 1, 3) := by decide +kernel
theorem dX12_image_145 : decode cX12_image 145 = .ok (.goto (-46), 3) := by decide +kernel
theorem dX12_image_148 : decode cX12_image 148 = .ok (.iconst 0, 1) := by decide +kernel
theorem dX12_image_149 : decode cX12_image 149 = .ok (.istore_n 2, 1) := by decide +kernel
theorem dX12_image_150 : decode cX12_image 150 = .ok (.iload_n 2, 1) := by decide +kernel
theorem dX12_image_151 : decode cX12_image 151 = .ok (.aload_n 0, 1) := by decide +kernel
theorem dX12_image_152 : decode cX12_image 152 = .ok (.getfield 172, 3) := by decide +kernel
theorem dX12_image_155 : decode cX12_image 155 = .ok (.aload_n 0, 1) := by decide +kernel
theorem dX12_image_156 : decode cX12_image 156 = .ok (.getfield 172, 3) := by decide +kernel
theorem dX12_image_159 : decode cX12_image 159 = .ok (.imul, 1) := by decide +kernel
theorem dX12_image_160 : decode cX12_image 160 = .ok (.if_icmp .ge 41, 3) := by decide +kernel
theorem dX12_image_163 : decode cX12_image 163 = .ok (.aload_n 0, 1) := by decide +kernel
theorem dX12_image_164 : decode cX12_image 164 = .ok (.aload_n 0, 1) := by decide +kernel
theorem dX12_image_165 : decode cX12_image 165 = .ok (.getfield 42, 3) := by decide +kernel
theorem dX12_image_168 : decode cX12_image 168 = .ok (.bipush 64, 2) := by decide +kernel
theorem dX12_image_170 : decode cX12_image 170 = .ok (.iload_n 1, 1) := by decide +kernel
theorem dX12_image_171 : decode cX12_image 171 = .ok (.imul, 1) := by decide +kernel
theorem dX12_image_172 : decode cX12_image 172 = .ok (.bipush 8, 2) := by decide +kernel
theorem dX12_image_174 : decode cX12_image 174 = .ok (.iload_n 2, 1) := by decide +kernel
theorem dX12_image_175 : decode cX12_image 175 = .ok (.aload_n 0, 1) := by decide +kernel
theorem dX12_image_176 : decode cX12_image 176 = .ok (.getfield 172, 3) := by decide +kernel
theorem dX12_image_179 : decode cX12_image 179 = .ok (.idiv, 1) := by decide +kernel
theorem dX12_image_180 : decode cX12_image 180 = .ok (.imul, 1) := by decide +kernel
theorem dX12_image_181 : decode cX12_image 181 = .ok (.iadd, 1) := by decide +kernel
theorem dX12_image_182 : decode cX12_image 182 = .ok (.iload_n 2, 1) := by decide +kernel
theorem dX12_image_183 : decode cX12_image 183 = .ok (.aload_n 0, 1) := by decide +kernel
theorem dX12_image_184 : decode cX12_image 184 = .ok (.getfield 172, 3) := by decide +kernel
theorem dX12_image_187 : decode cX12_image 187 = .ok (.irem, 1) := by decide +kernel
theorem dX12_image_188 : decode cX12_image 188 = .ok (.iadd, 1) := by decide +kernel
theorem dX12_image_189 : decode cX12_image 189 = .ok (.iaload, 1) := by decide +kernel
theorem dX12_image_190 : decode cX12_image 190 = .ok (.iconst 1, 1) := by decide +kernel
theorem dX12_image_191 : decode cX12_image 191 = .ok (.iadd, 1) := by decide +kernel
theorem dX12_image_192 : decode cX12_image 192 = .ok (.invokevirtual 221, 3) := by decide +kernel
theorem dX12_image_195 : decode cX12_image 195 = .ok (.iinc 2 1, 3) := by decide +kernel
theorem dX12_image_198 : decode cX12_image 198 = .ok (.goto (-48), 3) := by decide +kernel
theorem dX12_image_201 : decode cX12_image 201 = .ok (.iconst 0, 1) := by decide +kernel
theorem dX12_image_202 : decode cX12_image 202 = .ok (.istore_n 2, 1) := by decide +kernel
theorem dX12_image_203 : decode cX12_image 203 = .ok (.iload_n 2, 1) := by decide +kernel
theorem dX12_image_204 : decode cX12_image 204 = .ok (.iconst 5, 1) := by decide +kernel
theorem dX12_image_205 : decode cX12_image 205 = .ok (.if_icmp .ge 23, 3) := by decide +kernel
theorem dX12_image_208 : decode cX12_image 208 = .ok (.aload_n 0, 1) := by decide +kernel
theorem dX12_image_209 : decode cX12_image 209 = .ok (.aload_n 0, 1) := by decide +kernel
theorem dX12_image_210 : decode cX12_image 210 = .ok (.getfield 45, 3) := by decide +kernel
theorem dX12_image_213 : decode cX12_image 213 = .ok (.iconst 5, 1) := by decide +kernel
theorem dX12_image_214 : decode cX12_image 214 = .ok (.iload_n 1, 1) := by decide +kernel
theorem dX12_image_215 : decode cX12_image 215 = .ok (.imul, 1) := by decide +kernel
theorem dX12_image_216 : decode cX12_image 216 = .ok (.iload_n 2, 1) := by decide +kernel
theorem dX12_image_217 : decode cX12_image 217 = .ok (.iadd, 1) := by decide +kernel
theorem dX12_image_218 : decode cX12_image 218 = .ok (.iaload, 1) := by decide +kernel
theorem dX12_image_219 : decode cX12_image 219 = .ok (.invokevirtual 221, 3) := by decide +kernel
theorem dX12_image_222 : decode cX12_image 222 = .ok (.iinc 2 1, 3) := by decide +kernel
theorem dX12_image_225 : decode cX12_image 225 = .ok (.goto (-22), 3) := by decide +kernel
theorem dX12_image_228 : decode cX12_image 228 = .ok (.iinc 1 1, 3) := by decide +kernel
theorem dX12_image_231 : decode cX12_image 231 = .ok (.goto (-142), 3) := by decide +kernel
theorem dX12_image_234 : decode cX12_image 234 = .ok (.aload_n 0, 1) := by decide +kernel
theorem dX12_image_235 : decode cX12_image 235 = .ok (.getfield 218, 3) := by decide +kernel
theorem dX12_image_238 : decode cX12_image 238 = .ok (.ireturn, 1) := by decide +kernel
theorem dX12_imageAt_0 : decode cX12_imageAt 0 = .ok (.aload_n 0, 1) := by decide +kernel
theorem dX12_imageAt_1 : decode cX12_imageAt 1 = .ok (.iconst 0, 1) := by decide +kernel
theorem dX12_imageAt_2 : decode cX12_imageAt 2 = .ok (.putfield 76, 3) := by decide +kernel
theorem dX12_imageAt_5 : decode cX12_imageAt 5 = .ok (.iload_n 1, 1) := by decide +kernel
theorem dX12_imageAt_6 : decode cX12_imageAt 6 = .ok (.ifCond .lt 20, 3) := by decide +kernel
theorem dX12_imageAt_9 : decode cX12_imageAt 9 = .ok (.iload_n 1, 1) := by decide +kernel
theorem dX12_imageAt_10 : decode cX12_imageAt 10 = .ok (.aload_n 0, 1) := by decide +kernel
theorem dX12_imageAt_11 : decode cX12_imageAt 11 = .ok (.getfield 218, 3) := by decide +kernel
theorem dX12_imageAt_14 : decode cX12_imageAt 14 = .ok (.if_icmp .ge 12, 3) := by decide +kernel
theorem dX12_imageAt_17 : decode cX12_imageAt 17 = .ok (.aload_n 0, 1) := by decide +kernel
theorem dX12_imageAt_18 : decode cX12_imageAt 18 = .ok (.getfield 60, 3) := by decide +kernel
theorem dX12_imageAt_21 : decode cX12_imageAt 21 = .ok (.iload_n 1, 1) := by decide +kernel
theorem dX12_imageAt_22 : decode cX12_imageAt 22 = .ok (.iaload, 1) := by decide +kernel
theorem dX12_imageAt_23 : decode cX12_imageAt 23 = .ok (.goto 4, 3) := by decide +kernel
theorem dX12_imageAt_26 : decode cX12_imageAt 26 = .ok (.iconst (-1), 1) := by decide +kernel
theorem dX12_imageAt_27 : decode cX12_imageAt 27 = .ok (.ireturn, 1) := by decide +kernel
theorem dX12_feed_0 : decode cX12_feed 0 = .ok (.aload_n 0, 1) := by decide +kernel
theorem dX12_feed_1 : decode cX12_feed 1 = .ok (.iconst 0, 1) := by decide +kernel
theorem dX12_feed_2 : decode cX12_feed 2 = .ok (.putfield 76, 3) := by decide +kernel
theorem dX12_feed_5 : decode cX12_feed 5 = .ok (.iload_n 3, 1) := by decide +kernel
theorem dX12_feed_6 : decode cX12_feed 6 = .ok (.iconst 1, 1) := by decide +kernel
theorem dX12_feed_7 : decode cX12_feed 7 = .ok (.if_icmp .lt 21, 3) := by decide +kernel
theorem dX12_feed_10 : decode cX12_feed 10 = .ok (.iload_n 3, 1) := by decide +kernel
theorem dX12_feed_11 : decode cX12_feed 11 = .ok (.bipush 8, 2) := by decide +kernel
theorem dX12_feed_13 : decode cX12_feed 13 = .ok (.if_icmp .gt 15, 3) := by decide +kernel
theorem dX12_feed_16 : decode cX12_feed 16 = .ok (.aload_n 0, 1) := by decide +kernel
theorem dX12_feed_17 : decode cX12_feed 17 = .ok (.getfield 224, 3) := by decide +kernel
theorem dX12_feed_20 : decode cX12_feed 20 = .ok (.iload_n 3, 1) := by decide +kernel
theorem dX12_feed_21 : decode cX12_feed 21 = .ok (.iadd, 1) := by decide +kernel
theorem dX12_feed_22 : decode cX12_feed 22 = .ok (.sipush 420, 3) := by decide +kernel
theorem dX12_feed_25 : decode cX12_feed 25 = .ok (.if_icmp .le 5, 3) := by decide +kernel
theorem dX12_feed_28 : decode cX12_feed 28 = .ok (.iconst (-1), 1) := by decide +kernel
theorem dX12_feed_29 : decode cX12_feed 29 = .ok (.ireturn, 1) := by decide +kernel
theorem dX12_feed_30 : decode cX12_feed 30 = .ok (.iconst 0, 1) := by decide +kernel
theorem dX12_feed_31 : decode cX12_feed 31 = .ok (.istore 4, 2) := by decide +kernel
theorem dX12_feed_33 : decode cX12_feed 33 = .ok (.iload 4, 2) := by decide +kernel
theorem dX12_feed_35 : decode cX12_feed 35 = .ok (.iload_n 3, 1) := by decide +kernel
theorem dX12_feed_36 : decode cX12_feed 36 = .ok (.if_icmp .ge 43, 3) := by decide +kernel
theorem dX12_feed_39 : decode cX12_feed 39 = .ok (.aload_n 0, 1) := by decide +kernel
theorem dX12_feed_40 : decode cX12_feed 40 = .ok (.getfield 63, 3) := by decide +kernel
theorem dX12_feed_43 : decode cX12_feed 43 = .ok (.aload_n 0, 1) := by decide +kernel
theorem dX12_feed_44 : decode cX12_feed 44 = .ok (.getfield 224, 3) := by decide +kernel
theorem dX12_feed_47 : decode cX12_feed 47 = .ok (.lload_n 1, 1) := by decide +kernel
theorem dX12_feed_48 : decode cX12_feed 48 = .ok (.bipush 56, 2) := by decide +kernel
theorem dX12_feed_50 : decode cX12_feed 50 = .ok (.bipush 8, 2) := by decide +kernel
theorem dX12_feed_52 : decode cX12_feed 52 = .ok (.iload 4, 2) := by decide +kernel
theorem dX12_feed_54 : decode cX12_feed 54 = .ok (.imul, 1) := by decide +kernel
theorem dX12_feed_55 : decode cX12_feed 55 = .ok (.isub, 1) := by decide +kernel
theorem dX12_feed_56 : decode cX12_feed 56 = .ok (.lushr, 1) := by decide +kernel
theorem dX12_feed_57 : decode cX12_feed 57 = .ok (.ldc2_w 79, 3) := by decide +kernel
theorem dX12_feed_60 : decode cX12_feed 60 = .ok (.land, 1) := by decide +kernel
theorem dX12_feed_61 : decode cX12_feed 61 = .ok (.l2i, 1) := by decide +kernel
theorem dX12_feed_62 : decode cX12_feed 62 = .ok (.iastore, 1) := by decide +kernel
theorem dX12_feed_63 : decode cX12_feed 63 = .ok (.aload_n 0, 1) := by decide +kernel
theorem dX12_feed_64 : decode cX12_feed 64 = .ok (.dup, 1) := by decide +kernel
theorem dX12_feed_65 : decode cX12_feed 65 = .ok (.getfield 224, 3) := by decide +kernel
theorem dX12_feed_68 : decode cX12_feed 68 = .ok (.iconst 1, 1) := by decide +kernel
theorem dX12_feed_69 : decode cX12_feed 69 = .ok (.iadd, 1) := by decide +kernel
theorem dX12_feed_70 : decode cX12_feed 70 = .ok (.putfield 224, 3) := by decide +kernel
theorem dX12_feed_73 : decode cX12_feed 73 = .ok (.iinc 4 1, 3) := by decide +kernel
theorem dX12_feed_76 : decode cX12_feed 76 = .ok (.goto (-43), 3) := by decide +kernel
theorem dX12_feed_79 : decode cX12_feed 79 = .ok (.aload_n 0, 1) := by decide +kernel
theorem dX12_feed_80 : decode cX12_feed 80 = .ok (.getfield 224, 3) := by decide +kernel
theorem dX12_feed_83 : decode cX12_feed 83 = .ok (.ireturn, 1) := by decide +kernel
theorem dX12_in_0 : decode cX12_in 0 = .ok (.iload_n 0, 1) := by decide +kernel
theorem dX12_in_1 : decode cX12_in 1 = .ok (.iload_n 1, 1) := by decide +kernel
theorem dX12_in_2 : decode cX12_in 2 = .ok (.if_icmp .lt 12, 3) := by decide +kernel
theorem dX12_in_5 : decode cX12_in 5 = .ok (.iload_n 0, 1) := by decide +kernel
theorem dX12_in_6 : decode cX12_in 6 = .ok (.iload_n 2, 1) := by decide +kernel
theorem dX12_in_7 : decode cX12_in 7 = .ok (.if_icmp .gt 7, 3) := by decide +kernel
theorem dX12_in_10 : decode cX12_in 10 = .ok (.iconst 1, 1) := by decide +kernel
theorem dX12_in_11 : decode cX12_in 11 = .ok (.goto 4, 3) := by decide +kernel
theorem dX12_in_14 : decode cX12_in 14 = .ok (.iconst 0, 1) := by decide +kernel
theorem dX12_in_15 : decode cX12_in 15 = .ok (.ireturn, 1) := by decide +kernel
theorem dX12_wellFormed_0 : decode cX12_wellFormed 0 = .ok (.aload_n 0, 1) := by decide +kernel
theorem dX12_wellFormed_1 : decode cX12_wellFormed 1 = .ok (.getfield 224, 3) := by decide +kernel
theorem dX12_wellFormed_4 : decode cX12_wellFormed 4 = .ok (.iconst 2, 1) := by decide +kernel
theorem dX12_wellFormed_5 : decode cX12_wellFormed 5 = .ok (.if_icmp .lt 32, 3) := by decide +kernel
theorem dX12_wellFormed_8 : decode cX12_wellFormed 8 = .ok (.aload_n 0, 1) := by decide +kernel
theorem dX12_wellFormed_9 : decode cX12_wellFormed 9 = .ok (.getfield 63, 3) := by decide +kernel
theorem dX12_wellFormed_12 : decode cX12_wellFormed 12 = .ok (.iconst 0, 1) := by decide +kernel
theorem dX12_wellFormed_13 : decode cX12_wellFormed 13 = .ok (.iaload, 1) := by decide +kernel
theorem dX12_wellFormed_14 : decode cX12_wellFormed 14 = .ok (.iconst 1, 1) := by decide +kernel
theorem dX12_wellFormed_15 : decode cX12_wellFormed 15 = .ok (.bipush 8, 2) := by decide +kernel
theorem dX12_wellFormed_17 : decode cX12_wellFormed 17 = .ok (.invokestatic 227, 3) := by decide +kernel
theorem dX12_wellFormed_20 : decode cX12_wellFormed 20 = .ok (.ifCond .eq 17, 3) := by decide +kernel
theorem dX12_wellFormed_23 : decode cX12_wellFormed 23 = .ok (.aload_n 0, 1) := by decide +kernel
theorem dX12_wellFormed_24 : decode cX12_wellFormed 24 = .ok (.getfield 63, 3) := by decide +kernel
theorem dX12_wellFormed_27 : decode cX12_wellFormed 27 = .ok (.iconst 1, 1) := by decide +kernel
theorem dX12_wellFormed_28 : decode cX12_wellFormed 28 = .ok (.iaload, 1) := by decide +kernel
theorem dX12_wellFormed_29 : decode cX12_wellFormed 29 = .ok (.iconst 1, 1) := by decide +kernel
theorem dX12_wellFormed_30 : decode cX12_wellFormed 30 = .ok (.iconst 3, 1) := by decide +kernel
theorem dX12_wellFormed_31 : decode cX12_wellFormed 31 = .ok (.invokestatic 227, 3) := by decide +kernel
theorem dX12_wellFormed_34 : decode cX12_wellFormed 34 = .ok (.ifCond .ne 5, 3) := by decide +kernel
theorem dX12_wellFormed_37 : decode cX12_wellFormed 37 = .ok (.iconst 0, 1) := by decide +kernel
theorem dX12_wellFormed_38 : decode cX12_wellFormed 38 = .ok (.ireturn, 1) := by decide +kernel
theorem dX12_wellFormed_39 : decode cX12_wellFormed 39 = .ok (.aload_n 0, 1) := by decide +kernel
theorem dX12_wellFormed_40 : decode cX12_wellFormed 40 = .ok (.getfield 63, 3) := by decide +kernel
theorem dX12_wellFormed_43 : decode cX12_wellFormed 43 = .ok (.iconst 0, 1) := by decide +kernel
theorem dX12_wellFormed_44 : decode cX12_wellFormed 44 = .ok (.iaload, 1) := by decide +kernel
theorem dX12_wellFormed_45 : decode cX12_wellFormed 45 = .ok (.istore_n 1, 1) := by decide +kernel
theorem dX12_wellFormed_46 : decode cX12_wellFormed 46 = .ok (.aload_n 0, 1) := by decide +kernel
theorem dX12_wellFormed_47 : decode cX12_wellFormed 47 = .ok (.getfield 63, 3) := by decide +kernel
theorem dX12_wellFormed_50 : decode cX12_wellFormed 50 = .ok (.iconst 1, 1) := by decide +kernel
theorem dX12_wellFormed_51 : decode cX12_wellFormed 51 = .ok (.iaload, 1) := by decide +kernel
theorem dX12_wellFormed_52 : decode cX12_wellFormed 52 = .ok (.istore_n 2, 1) := by decide +kernel
theorem dX12_wellFormed_53 : decode cX12_wellFormed 53 = .ok (.iconst 2, 1) := by decide +kernel
theorem dX12_wellFormed_54 : decode cX12_wellFormed 54 = .ok (.iload_n 1, 1) := by decide +kernel
theorem dX12_wellFormed_55 : decode cX12_wellFormed 55 = .ok (.imul, 1) := by decide +kernel
theorem dX12_wellFormed_56 : decode cX12_wellFormed 56 = .ok (.iload_n 1, 1) := by decide +kernel
theorem dX12_wellFormed_57 : decode cX12_wellFormed 57 = .ok (.imul, 1) := by decide +kernel
theorem dX12_wellFormed_58 : decode cX12_wellFormed 58 = .ok (.iconst 5, 1) := by decide +kernel
theorem dX12_wellFormed_59 : decode cX12_wellFormed 59 = .ok (.iadd, 1) := by decide +kernel
theorem dX12_wellFormed_60 : decode cX12_wellFormed 60 = .ok (.istore_n 3, 1) := by decide +kernel
theorem dX12_wellFormed_61 : decode cX12_wellFormed 61 = .ok (.aload_n 0, 1) := by decide +kernel
theorem dX12_wellFormed_62 : decode cX12_wellFormed 62 = .ok (.getfield 224, 3) := by decide +kernel
theorem dX12_wellFormed_65 : decode cX12_wellFormed 65 = .ok (.iconst 2, 1) := by decide +kernel
theorem dX12_wellFormed_66 : decode cX12_wellFormed 66 = .ok (.iload_n 2, 1) := by decide +kernel
theorem dX12_wellFormed_67 : decode cX12_wellFormed 67 = .ok (.iadd, 1) := by decide +kernel
theorem dX12_wellFormed_68 : decode cX12_wellFormed 68 = .ok (.iload_n 1, 1) := by decide +kernel
theorem dX12_wellFormed_69 : decode cX12_wellFormed 69 = .ok (.iadd, 1) := by decide +kernel
theorem dX12_wellFormed_70 : decode cX12_wellFormed 70 = .ok (.iload_n 2, 1) := by decide +kernel
theorem dX12_wellFormed_71 : decode cX12_wellFormed 71 = .ok (.iload_n 3, 1) := by decide +kernel
theorem dX12_wellFormed_72 : decode cX12_wellFormed 72 = .ok (.imul, 1) := by decide +kernel
theorem dX12_wellFormed_73 : decode cX12_wellFormed 73 = .ok (.iadd, 1) := by decide +kernel
theorem dX12_wellFormed_74 : decode cX12_wellFormed 74 = .ok (.if_icmp .eq 5, 3) := by decide +kernel
theorem dX12_wellFormed_77 : decode cX12_wellFormed 77 = .ok (.iconst 0, 1) := by decide +kernel
theorem dX12_wellFormed_78 : decode cX12_wellFormed 78 = .ok (.ireturn, 1) := by decide +kernel
theorem dX12_wellFormed_79 : decode cX12_wellFormed 79 = .ok (.iconst 1, 1) := by decide +kernel
theorem dX12_wellFormed_80 : decode cX12_wellFormed 80 = .ok (.istore 4, 2) := by decide +kernel
theorem dX12_wellFormed_82 : decode cX12_wellFormed 82 = .ok (.iconst 0, 1) := by decide +kernel
theorem dX12_wellFormed_83 : decode cX12_wellFormed 83 = .ok (.istore 5, 2) := by decide +kernel
theorem dX12_wellFormed_85 : decode cX12_wellFormed 85 = .ok (.iload 5, 2) := by decide +kernel
theorem dX12_wellFormed_87 : decode cX12_wellFormed 87 = .ok (.iload_n 2, 1) := by decide +kernel
theorem dX12_wellFormed_88 : decode cX12_wellFormed 88 = .ok (.if_icmp .ge 39, 3) := by decide +kernel
theorem dX12_wellFormed_91 : decode cX12_wellFormed 91 = .ok (.iload 4, 2) := by decide +kernel
theorem dX12_wellFormed_93 : decode cX12_wellFormed 93 = .ok (.ifCond .eq 25, 3) := by decide +kernel
theorem dX12_wellFormed_96 : decode cX12_wellFormed 96 = .ok (.aload_n 0, 1) := by decide +kernel
theorem dX12_wellFormed_97 : decode cX12_wellFormed 97 = .ok (.getfield 63, 3) := by decide +kernel
theorem dX12_wellFormed_100 : decode cX12_wellFormed 100 = .ok (.iconst 2, 1) := by decide +kernel
theorem dX12_wellFormed_101 : decode cX12_wellFormed 101 = .ok (.iload 5, 2) := by decide +kernel
theorem dX12_wellFormed_103 : decode cX12_wellFormed 103 = .ok (.iadd, 1) := by decide +kernel
theorem dX12_wellFormed_104 : decode cX12_wellFormed 104 = .ok (.iaload, 1) := by decide +kernel
theorem dX12_wellFormed_105 : decode cX12_wellFormed 105 = .ok (.iconst 1, 1) := by decide +kernel
theorem dX12_wellFormed_106 : decode cX12_wellFormed 106 = .ok (.bipush 6, 2) := by decide +kernel
theorem dX12_wellFormed_108 : decode cX12_wellFormed 108 = .ok (.invokestatic 227, 3) := by decide +kernel
theorem dX12_wellFormed_111 : decode cX12_wellFormed 111 = .ok (.ifCond .eq 7, 3) := by decide +kernel
theorem dX12_wellFormed_114 : decode cX12_wellFormed 114 = .ok (.iconst 1, 1) := by decide +kernel
theorem dX12_wellFormed_115 : decode cX12_wellFormed 115 = .ok (.goto 4, 3) := by decide +kernel
theorem dX12_wellFormed_118 : decode cX12_wellFormed 118 = .ok (.iconst 0, 1) := by decide +kernel
theorem dX12_wellFormed_119 : decode cX12_wellFormed 119 = .ok (.istore 4, 2) := by decide +kernel
theorem dX12_wellFormed_121 : decode cX12_wellFormed 121 = .ok (.iinc 5 1, 3) := by decide +kernel
theorem dX12_wellFormed_124 : decode cX12_wellFormed 124 = .ok (.goto (-39), 3) := by decide +kernel
theorem dX12_wellFormed_127 : decode cX12_wellFormed 127 = .ok (.iconst 0, 1) := by decide +kernel
theorem dX12_wellFormed_128 : decode cX12_wellFormed 128 = .ok (.istore 5, 2) := by decide +kernel
theorem dX12_wellFormed_130 : decode cX12_wellFormed 130 = .ok (.iload 5, 2) := by decide +kernel
theorem dX12_wellFormed_132 : decode cX12_wellFormed 132 = .ok (.iload_n 1, 1) := by decide +kernel
theorem dX12_wellFormed_133 : decode cX12_wellFormed 133 = .ok (.if_icmp .ge 41, 3) := by decide +kernel
theorem dX12_wellFormed_136 : decode cX12_wellFormed 136 = .ok (.iload 4, 2) := by decide +kernel
theorem dX12_wellFormed_138 : decode cX12_wellFormed 138 = .ok (.ifCond .eq 27, 3) := by decide +kernel
theorem dX12_wellFormed_141 : decode cX12_wellFormed 141 = .ok (.aload_n 0, 1) := by decide +kernel
theorem dX12_wellFormed_142 : decode cX12_wellFormed 142 = .ok (.getfield 63, 3) := by decide +kernel
theorem dX12_wellFormed_145 : decode cX12_wellFormed 145 = .ok (.iconst 2, 1) := by decide +kernel
theorem dX12_wellFormed_146 : decode cX12_wellFormed 146 = .ok (.iload_n 2, 1) := by decide +kernel
theorem dX12_wellFormed_147 : decode cX12_wellFormed 147 = .ok (.iadd, 1) := by decide +kernel
theorem dX12_wellFormed_148 : decode cX12_wellFormed 148 = .ok (.iload 5, 2) := by decide +kernel
theorem dX12_wellFormed_150 : decode cX12_wellFormed 150 = .ok (.iadd, 1) := by decide +kernel
theorem dX12_wellFormed_151 : decode cX12_wellFormed 151 = .ok (.iaload, 1) := by decide +kernel
theorem dX12_wellFormed_152 : decode cX12_wellFormed 152 = .ok (.iconst 0, 1) := by decide +kernel
theorem dX12_wellFormed_153 : decode cX12_wellFormed 153 = .ok (.bipush 7, 2) := by decide +kernel
theorem dX12_wellFormed_155 : decode cX12_wellFormed 155 = .ok (.invokestatic 227, 3) := by decide +kernel
theorem dX12_wellFormed_158 : decode cX12_wellFormed 158 = .ok (.ifCond .eq 7, 3) := by decide +kernel
theorem dX12_wellFormed_161 : decode cX12_wellFormed 161 = .ok (.iconst 1, 1) := by decide +kernel
theorem dX12_wellFormed_162 : decode cX12_wellFormed 162 = .ok (.goto 4, 3) := by decide +kernel
theorem dX12_wellFormed_165 : decode cX12_wellFormed 165 = .ok (.iconst 0, 1) := by decide +kernel
theorem dX12_wellFormed_166 : decode cX12_wellFormed 166 = .ok (.istore 4, 2) := by decide +kernel
theorem dX12_wellFormed_168 : decode cX12_wellFormed 168 = .ok (.iinc 5 1, 3) := by decide +kernel
theorem dX12_wellFormed_171 : decode cX12_wellFormed 171 = .ok (.goto (-41), 3) := by decide +kernel
theorem dX12_wellFormed_174 : decode cX12_wellFormed 174 = .ok (.iconst 0, 1) := by decide +kernel
theorem dX12_wellFormed_175 : decode cX12_wellFormed 175 = .ok (.istore 5, 2) := by decide +kernel
theorem dX12_wellFormed_177 : decode cX12_wellFormed 177 = .ok (.iload 5, 2) := by decide +kernel
theorem dX12_wellFormed_179 : decode cX12_wellFormed 179 = .ok (.iload_n 2, 1) := by decide +kernel
theorem dX12_wellFormed_180 : decode cX12_wellFormed 180 = .ok (.if_icmp .ge 123, 3) := by decide +kernel
theorem dX12_wellFormed_183 : decode cX12_wellFormed 183 = .ok (.iload 4, 2) := by decide +kernel
theorem dX12_wellFormed_185 : decode cX12_wellFormed 185 = .ok (.ifCond .eq 118, 3) := by decide +kernel
theorem dX12_wellFormed_188 : decode cX12_wellFormed 188 = .ok (.iconst 2, 1) := by decide +kernel
theorem dX12_wellFormed_189 : decode cX12_wellFormed 189 = .ok (.iload_n 2, 1) := by decide +kernel
theorem dX12_wellFormed_190 : decode cX12_wellFormed 190 = .ok (.iadd, 1) := by decide +kernel
theorem dX12_wellFormed_191 : decode cX12_wellFormed 191 = .ok (.iload_n 1, 1) := by decide +kernel
theorem dX12_wellFormed_192 : decode cX12_wellFormed 192 = .ok (.iadd, 1) := by decide +kernel
theorem dX12_wellFormed_193 : decode cX12_wellFormed 193 = .ok (.iload 5, 2) := by decide +kernel
theorem dX12_wellFormed_195 : decode cX12_wellFormed 195 = .ok (.iload_n 3, 1) := by decide +kernel
theorem dX12_wellFormed_196 : decode cX12_wellFormed 196 = .ok (.imul, 1) := by decide +kernel
theorem dX12_wellFormed_197 : decode cX12_wellFormed 197 = .ok (.iadd, 1) := by decide +kernel
theorem dX12_wellFormed_198 : decode cX12_wellFormed 198 = .ok (.istore 6, 2) := by decide +kernel
theorem dX12_wellFormed_200 : decode cX12_wellFormed 200 = .ok (.iconst 0, 1) := by decide +kernel
theorem dX12_wellFormed_201 : decode cX12_wellFormed 201 = .ok (.istore 7, 2) := by decide +kernel
theorem dX12_wellFormed_203 : decode cX12_wellFormed 203 = .ok (.iload 7, 2) := by decide +kernel
theorem dX12_wellFormed_205 : decode cX12_wellFormed 205 = .ok (.iload_n 3, 1) := by decide +kernel
theorem dX12_wellFormed_206 : decode cX12_wellFormed 206 = .ok (.if_icmp .ge 91, 3) := by decide +kernel
theorem dX12_wellFormed_209 : decode cX12_wellFormed 209 = .ok (.iload 7, 2) := by decide +kernel
theorem dX12_wellFormed_211 : decode cX12_wellFormed 211 = .ok (.iload_n 1, 1) := by decide +kernel
theorem dX12_wellFormed_212 : decode cX12_wellFormed 212 = .ok (.iload_n 1, 1) := by decide +kernel
theorem dX12_wellFormed_213 : decode cX12_wellFormed 213 = .ok (.imul, 1) := by decide +kernel
theorem dX12_wellFormed_214 : decode cX12_wellFormed 214 = .ok (.if_icmp .lt 17, 3) := by decide +kernel
theorem dX12_wellFormed_217 : decode cX12_wellFormed 217 = .ok (.iload 7, 2) := by decide +kernel
theorem dX12_wellFormed_219 : decode cX12_wellFormed 219 = .ok (.iconst 2, 1) := by decide +kernel
theorem dX12_wellFormed_220 : decode cX12_wellFormed 220 = .ok (.iload_n 1, 1) := by decide +kernel
theorem dX12_wellFormed_221 : decode cX12_wellFormed 221 = .ok (.imul, 1) := by decide +kernel
theorem dX12_wellFormed_222 : decode cX12_wellFormed 222 = .ok (.iload_n 1, 1) := by decide +kernel
theorem dX12_wellFormed_223 : decode cX12_wellFormed 223 = .ok (.imul, 1) := by decide +kernel
theorem dX12_wellFormed_224 : decode cX12_wellFormed 224 = .ok (.if_icmp .ge 7, 3) := by decide +kernel
theorem dX12_wellFormed_227 : decode cX12_wellFormed 227 = .ok (.iconst 1, 1) := by decide +kernel
theorem dX12_wellFormed_228 : decode cX12_wellFormed 228 = .ok (.goto 4, 3) := by decide +kernel
theorem dX12_wellFormed_231 : decode cX12_wellFormed 231 = .ok (.iconst 0, 1) := by decide +kernel
theorem dX12_wellFormed_232 : decode cX12_wellFormed 232 = .ok (.istore 8, 2) := by decide +kernel
theorem dX12_wellFormed_234 : decode cX12_wellFormed 234 = .ok (.iload 4, 2) := by decide +kernel
theorem dX12_wellFormed_236 : decode cX12_wellFormed 236 = .ok (.ifCond .eq 52, 3) := by decide +kernel
theorem dX12_wellFormed_239 : decode cX12_wellFormed 239 = .ok (.iload 8, 2) := by decide +kernel
theorem dX12_wellFormed_241 : decode cX12_wellFormed 241 = .ok (.ifCond .eq 20, 3) := by decide +kernel
theorem dX12_wellFormed_244 : decode cX12_wellFormed 244 = .ok (.aload_n 0, 1) := by decide +kernel
theorem dX12_wellFormed_245 : decode cX12_wellFormed 245 = .ok (.getfield 63, 3) := by decide +kernel
theorem dX12_wellFormed_248 : decode cX12_wellFormed 248 = .ok (.iload 6, 2) := by decide +kernel
theorem dX12_wellFormed_250 : decode cX12_wellFormed 250 = .ok (.iload 7, 2) := by decide +kernel
theorem dX12_wellFormed_252 : decode cX12_wellFormed 252 = .ok (.iadd, 1) := by decide +kernel
theorem dX12_wellFormed_253 : decode cX12_wellFormed 253 = .ok (.iaload, 1) := by decide +kernel
theorem dX12_wellFormed_254 : decode cX12_wellFormed 254 = .ok (.iload_n 1, 1) := by decide +kernel
theorem dX12_wellFormed_255 : decode cX12_wellFormed 255 = .ok (.if_icmp .gt 33, 3) := by decide +kernel
theorem dX12_wellFormed_258 : decode cX12_wellFormed 258 = .ok (.goto 26, 3) := by decide +kernel
theorem dX12_wellFormed_261 : decode cX12_wellFormed 261 = .ok (.aload_n 0, 1) := by decide +kernel
theorem dX12_wellFormed_262 : decode cX12_wellFormed 262 = .ok (.getfield 63, 3) := by decide +kernel
theorem dX12_wellFormed_265 : decode cX12_wellFormed 265 = .ok (.iload 6, 2) := by decide +kernel
theorem dX12_wellFormed_267 : decode cX12_wellFormed 267 = .ok (.iload 7, 2) := by decide +kernel
theorem dX12_wellFormed_269 : decode cX12_wellFormed 269 = .ok (.iadd, 1) := by decide +kernel
theorem dX12_wellFormed_270 : decode cX12_wellFormed 270 = .ok (.iaload, 1) := by decide +kernel
theorem dX12_wellFormed_271 : decode cX12_wellFormed 271 = .ok (.aload_n 0, 1) := by decide +kernel
theorem dX12_wellFormed_272 : decode cX12_wellFormed 272 = .ok (.getfield 63, 3) := by decide +kernel
theorem dX12_wellFormed_275 : decode cX12_wellFormed 275 = .ok (.iconst 2, 1) := by decide +kernel
theorem dX12_wellFormed_276 : decode cX12_wellFormed 276 = .ok (.iload 5, 2) := by decide +kernel
theorem dX12_wellFormed_278 : decode cX12_wellFormed 278 = .ok (.iadd, 1) := by decide +kernel
theorem dX12_wellFormed_279 : decode cX12_wellFormed 279 = .ok (.iaload, 1) := by decide +kernel
theorem dX12_wellFormed_280 : decode cX12_wellFormed 280 = .ok (.ishr, 1) := by decide +kernel
theorem dX12_wellFormed_281 : decode cX12_wellFormed 281 = .ok (.ifCond .ne 7, 3) := by decide +kernel
theorem dX12_wellFormed_284 : decode cX12_wellFormed 284 = .ok (.iconst 1, 1) := by decide +kernel
theorem dX12_wellFormed_285 : decode cX12_wellFormed 285 = .ok (.goto 4, 3) := by decide +kernel
theorem dX12_wellFormed_288 : decode cX12_wellFormed 288 = .ok (.iconst 0, 1) := by decide +kernel
theorem dX12_wellFormed_289 : decode cX12_wellFormed 289 = .ok (.istore 4, 2) := by decide +kernel
theorem dX12_wellFormed_291 : decode cX12_wellFormed 291 = .ok (.iinc 7 1, 3) := by decide +kernel
theorem dX12_wellFormed_294 : decode cX12_wellFormed 294 = .ok (.goto (-91), 3) := by decide +kernel
theorem dX12_wellFormed_297 : decode cX12_wellFormed 297 = .ok (.iinc 5 1, 3) := by decide +kernel
theorem dX12_wellFormed_300 : decode cX12_wellFormed 300 = .ok (.goto (-123), 3) := by decide +kernel
theorem dX12_wellFormed_303 : decode cX12_wellFormed 303 = .ok (.iload 4, 2) := by decide +kernel
theorem dX12_wellFormed_305 : decode cX12_wellFormed 305 = .ok (.ireturn, 1) := by decide +kernel
theorem dX12_read_0 : decode cX12_read 0 = .ok (.aload_n 0, 1) := by decide +kernel
theorem dX12_read_1 : decode cX12_read 1 = .ok (.invokevirtual 230, 3) := by decide +kernel
theorem dX12_read_4 : decode cX12_read 4 = .ok (.istore_n 1, 1) := by decide +kernel
theorem dX12_read_5 : decode cX12_read 5 = .ok (.aload_n 0, 1) := by decide +kernel
theorem dX12_read_6 : decode cX12_read 6 = .ok (.iload_n 1, 1) := by decide +kernel
theorem dX12_read_7 : decode cX12_read 7 = .ok (.ifCond .eq 7, 3) := by decide +kernel
theorem dX12_read_10 : decode cX12_read 10 = .ok (.iconst 0, 1) := by decide +kernel
theorem dX12_read_11 : decode cX12_read 11 = .ok (.goto 4, 3) := by decide +kernel
theorem dX12_read_14 : decode cX12_read 14 = .ok (.iconst 1, 1) := by decide +kernel
theorem dX12_read_15 : decode cX12_read 15 = .ok (.putfield 76, 3) := by decide +kernel
theorem dX12_read_18 : decode cX12_read 18 = .ok (.iload_n 1, 1) := by decide +kernel
theorem dX12_read_19 : decode cX12_read 19 = .ok (.ifCond .eq 260, 3) := by decide +kernel
theorem dX12_read_22 : decode cX12_read 22 = .ok (.aload_n 0, 1) := by decide +kernel
theorem dX12_read_23 : decode cX12_read 23 = .ok (.aload_n 0, 1) := by decide +kernel
theorem dX12_read_24 : decode cX12_read 24 = .ok (.getfield 63, 3) := by decide +kernel
theorem dX12_read_27 : decode cX12_read 27 = .ok (.iconst 0, 1) := by decide +kernel
theorem dX12_read_28 : decode cX12_read 28 = .ok (.iaload, 1) := by decide +kernel
theorem dX12_read_29 : decode cX12_read 29 = .ok (.putfield 172, 3) := by decide +kernel
theorem dX12_read_32 : decode cX12_read 32 = .ok (.aload_n 0, 1) := by decide +kernel
theorem dX12_read_33 : decode cX12_read 33 = .ok (.aload_n 0, 1) := by decide +kernel
theorem dX12_read_34 : decode cX12_read 34 = .ok (.getfield 63, 3) := by decide +kernel
theorem dX12_read_37 : decode cX12_read 37 = .ok (.iconst 1, 1) := by decide +kernel
theorem dX12_read_38 : decode cX12_read 38 = .ok (.iaload, 1) := by decide +kernel
theorem dX12_read_39 : decode cX12_read 39 = .ok (.putfield 175, 3) := by decide +kernel
theorem dX12_read_42 : decode cX12_read 42 = .ok (.aload_n 0, 1) := by decide +kernel
theorem dX12_read_43 : decode cX12_read 43 = .ok (.iconst 0, 1) := by decide +kernel
theorem dX12_read_44 : decode cX12_read 44 = .ok (.putfield 200, 3) := by decide +kernel
theorem dX12_read_47 : decode cX12_read 47 = .ok (.iconst 0, 1) := by decide +kernel
theorem dX12_read_48 : decode cX12_read 48 = .ok (.istore_n 2, 1) := by decide +kernel
theorem dX12_read_49 : decode cX12_read 49 = .ok (.iload_n 2, 1) := by decide +kernel
theorem dX12_read_50 : decode cX12_read 50 = .ok (.aload_n 0, 1) := by decide +kernel
theorem dX12_read_51 : decode cX12_read 51 = .ok (.getfield 175, 3) := by decide +kernel
theorem dX12_read_54 : decode cX12_read 54 = .ok (.if_icmp .ge 190, 3) := by decide +kernel
theorem dX12_read_57 : decode cX12_read 57 = .ok (.aload_n 0, 1) := by decide +kernel
theorem dX12_read_58 : decode cX12_read 58 = .ok (.getfield 33, 3) := by decide +kernel
theorem dX12_read_61 : decode cX12_read 61 = .ok (.iload_n 2, 1) := by decide +kernel
theorem dX12_read_62 : decode cX12_read 62 = .ok (.aload_n 0, 1) := by decide +kernel
theorem dX12_read_63 : decode cX12_read 63 = .ok (.getfield 63, 3) := by decide +kernel
theorem dX12_read_66 : decode cX12_read 66 = .ok (.iconst 2, 1) := by decide +kernel
theorem dX12_read_67 : decode cX12_read 67 = .ok (.iload_n 2, 1) := by decide +kernel
theorem dX12_read_68 : decode cX12_read 68 = .ok (.iadd, 1) := by decide +kernel
theorem dX12_read_69 : decode cX12_read 69 = .ok (.iaload, 1) := by decide +kernel
theorem dX12_read_70 : decode cX12_read 70 = .ok (.iastore, 1) := by decide +kernel
theorem dX12_read_71 : decode cX12_read 71 = .ok (.iconst 2, 1) := by decide +kernel
theorem dX12_read_72 : decode cX12_read 72 = .ok (.aload_n 0, 1) := by decide +kernel
theorem dX12_read_73 : decode cX12_read 73 = .ok (.getfield 175, 3) := by decide +kernel
theorem dX12_read_76 : decode cX12_read 76 = .ok (.iadd, 1) := by decide +kernel
theorem dX12_read_77 : decode cX12_read 77 = .ok (.aload_n 0, 1) := by decide +kernel
theorem dX12_read_78 : decode cX12_read 78 = .ok (.getfield 172, 3) := by decide +kernel
theorem dX12_read_81 : decode cX12_read 81 = .ok (.iadd, 1) := by decide +kernel
theorem dX12_read_82 : decode cX12_read 82 = .ok (.iload_n 2, 1) := by decide +kernel
theorem dX12_read_83 : decode cX12_read 83 = .ok (.iconst 2, 1) := by decide +kernel
theorem dX12_read_84 : decode cX12_read 84 = .ok (.aload_n 0, 1) := by decide +kernel
theorem dX12_read_85 : decode cX12_read 85 = .ok (.getfield 172, 3) := by decide +kernel
theorem dX12_read_88 : decode cX12_read 88 = .ok (.imul, 1) := by decide +kernel
theorem dX12_read_89 : decode cX12_read 89 = .ok (.aload_n 0, 1) := by decide +kernel
theorem dX12_read_90 : decode cX12_read 90 = .ok (.getfield 172, 3) := by decide +kernel
theorem dX12_read_93 : decode cX12_read 93 = .ok (.imul, 1) := by decide +kernel
theorem dX12_read_94 : decode cX12_read 94 = .ok (.iconst 5, 1) := by decide +kernel
theorem dX12_read_95 : decode cX12_read 95 = .ok (.iadd, 1) := by decide +kernel
theorem dX12_read_96 : decode cX12_read 96 = .ok (.imul, 1) := by decide +kernel
theorem dX12_read_97 : decode cX12_read 97 = .ok (.iadd, 1) := by decide +kernel
theorem dX12_read_98 : decode cX12_read 98 = .ok (.istore_n 3, 1) := by decide +kernel
theorem dX12_read_99 : decode cX12_read 99 = .ok (.iconst 0, 1) := by decide +kernel
theorem dX12_read_100 : decode cX12_read 100 = .ok (.istore 4, 2) := by decide +kernel
theorem dX12_read_102 : decode cX12_read 102 = .ok (.iload 4, 2) := by decide +kernel
theorem dX12_read_104 : decode cX12_read 104 = .ok (.aload_n 0, 1) := by decide +kernel
theorem dX12_read_105 : decode cX12_read 105 = .ok (.getfield 172, 3) := by decide +kernel
theorem dX12_read_108 : decode cX12_read 108 = .ok (.aload_n 0, 1) := by decide +kernel
theorem dX12_read_109 : decode cX12_read 109 = .ok (.getfield 172, 3) := by decide +kernel
theorem dX12_read_112 : decode cX12_read 112 = .ok (.imul, 1) := by decide +kernel
theorem dX12_read_113 : decode cX12_read 113 = .ok (.if_icmp .ge 78, 3) := by decide +kernel
theorem dX12_read_116 : decode cX12_read 116 = .ok (.bipush 64, 2) := by decide +kernel
theorem dX12_read_118 : decode cX12_read 118 = .ok (.iload_n 2, 1) := by decide +kernel
theorem dX12_read_119 : decode cX12_read 119 = .ok (.imul, 1) := by decide +kernel
theorem dX12_read_120 : decode cX12_read 120 = .ok (.bipush 8, 2) := by decide +kernel
theorem dX12_read_122 : decode cX12_read 122 = .ok (.iload 4, 2) := by decide +kernel
theorem dX12_read_124 : decode cX12_read 124 = .ok (.aload_n 0, 1) := by decide +kernel
theorem dX12_read_125 : decode cX12_read 125 = .ok (.getfield 172, 3) := by decide +kernel
theorem dX12_read_128 : decode cX12_read 128 = .ok (.idiv, 1) := by decide +kernel
theorem dX12_read_129 : decode cX12_read 129 = .ok (.imul, 1) := by decide +kernel
theorem dX12_read_130 : decode cX12_read 130 = .ok (.iadd, 1) := by decide +kernel
theorem dX12_read_131 : decode cX12_read 131 = .ok (.iload 4, 2) := by decide +kernel
theorem dX12_read_133 : decode cX12_read 133 = .ok (.aload_n 0, 1) := by decide +kernel
theorem dX12_read_134 : decode cX12_read 134 = .ok (.getfield 172, 3) := by decide +kernel
theorem dX12_read_137 : decode cX12_read 137 = .ok (.irem, 1) := by decide +kernel
theorem dX12_read_138 : decode cX12_read 138 = .ok (.iadd, 1) := by decide +kernel
theorem dX12_read_139 : decode cX12_read 139 = .ok (.istore 5, 2) := by decide +kernel
theorem dX12_read_141 : decode cX12_read 141 = .ok (.aload_n 0, 1) := by decide +kernel
theorem dX12_read_142 : decode cX12_read 142 = .ok (.getfield 39, 3) := by decide +kernel
theorem dX12_read_145 : decode cX12_read 145 = .ok (.iload 5, 2) := by decide +kernel
theorem dX12_read_147 : decode cX12_read 147 = .ok (.aload_n 0, 1) := by decide +kernel
theorem dX12_read_148 : decode cX12_read 148 = .ok (.getfield 63, 3) := by decide +kernel
theorem dX12_read_151 : decode cX12_read 151 = .ok (.iload_n 3, 1) := by decide +kernel
theorem dX12_read_152 : decode cX12_read 152 = .ok (.iload 4, 2) := by decide +kernel
theorem dX12_read_154 : decode cX12_read 154 = .ok (.iadd, 1) := by decide +kernel
theorem dX12_read_155 : decode cX12_read 155 = .ok (.iaload, 1) := by decide +kernel
theorem dX12_read_156 : decode cX12_read 156 = .ok (.iastore, 1) := by decide +kernel
theorem dX12_read_157 : decode cX12_read 157 = .ok (.aload_n 0, 1) := by decide +kernel
theorem dX12_read_158 : decode cX12_read 158 = .ok (.getfield 42, 3) := by decide +kernel
theorem dX12_read_161 : decode cX12_read 161 = .ok (.iload 5, 2) := by decide +kernel
theorem dX12_read_163 : decode cX12_read 163 = .ok (.aload_n 0, 1) := by decide +kernel
theorem dX12_read_164 : decode cX12_read 164 = .ok (.getfield 63, 3) := by decide +kernel
theorem dX12_read_167 : decode cX12_read 167 = .ok (.iload_n 3, 1) := by decide +kernel
theorem dX12_read_168 : decode cX12_read 168 = .ok (.aload_n 0, 1) := by decide +kernel
theorem dX12_read_169 : decode cX12_read 169 = .ok (.getfield 172, 3) := by decide +kernel
theorem dX12_read_172 : decode cX12_read 172 = .ok (.aload_n 0, 1) := by decide +kernel
theorem dX12_read_173 : decode cX12_read 173 = .ok (.getfield 172, 3) := by decide +kernel
theorem dX12_read_176 : decode cX12_read 176 = .ok (.imul, 1) := by decide +kernel
theorem dX12_read_177 : decode cX12_read 177 = .ok (.iadd, 1) := by decide +kernel
theorem dX12_read_178 : decode cX12_read 178 = .ok (.iload 4, 2) := by decide +kernel
theorem dX12_read_180 : decode cX12_read 180 = .ok (.iadd, 1) := by decide +kernel
theorem dX12_read_181 : decode cX12_read 181 = .ok (.iaload, 1) := by decide +kernel
theorem dX12_read_182 : decode cX12_read 182 = .ok (.iconst 1, 1) := by decide +kernel
theorem dX12_read_183 : decode cX12_read 183 = .ok (.isub, 1) := by decide +kernel
theorem dX12_read_184 : decode cX12_read 184 = .ok (.iastore, 1) := by decide +kernel
theorem dX12_read_185 : decode cX12_read 185 = .ok (.iinc 4 1, 3) := by decide +kernel
theorem dX12_read_188 : decode cX12_read 188 = .ok (.goto (-86), 3) := by decide +kernel
theorem dX12_read_191 : decode cX12_read 191 = .ok (.iconst 0, 1) := by decide +kernel
theorem dX12_read_192 : decode cX12_read 192 = .ok (.istore 4, 2) := by decide +kernel
theorem dX12_read_194 : decode cX12_read 194 = .ok (.iload 4, 2) := by decide +kernel
theorem dX12_read_196 : decode cX12_read 196 = .ok (.iconst 5, 1) := by decide +kernel
theorem dX12_read_197 : decode cX12_read 197 = .ok (.if_icmp .ge 41, 3) := by decide +kernel
theorem dX12_read_200 : decode cX12_read 200 = .ok (.aload_n 0, 1) := by decide +kernel
theorem dX12_read_201 : decode cX12_read 201 = .ok (.getfield 45, 3) := by decide +kernel
theorem dX12_read_204 : decode cX12_read 204 = .ok (.iconst 5, 1) := by decide +kernel
theorem dX12_read_205 : decode cX12_read 205 = .ok (.iload_n 2, 1) := by decide +kernel
theorem dX12_read_206 : decode cX12_read 206 = .ok (.imul, 1) := by decide +kernel
theorem dX12_read_207 : decode cX12_read 207 = .ok (.iload 4, 2) := by decide +kernel
theorem dX12_read_209 : decode cX12_read 209 = .ok (.iadd, 1) := by decide +kernel
theorem dX12_read_210 : decode cX12_read 210 = .ok (.aload_n 0, 1) := by decide +kernel
theorem dX12_read_211 : decode cX12_read 211 = .ok (.getfield 63, 3) := by decide +kernel
theorem dX12_read_214 : decode cX12_read 214 = .ok (.iload_n 3, 1) := by decide +kernel
theorem dX12_read_215 : decode cX12_read 215 = .ok (.iconst 2, 1) := by decide +kernel
theorem dX12_read_216 : decode cX12_read 216 = .ok (.aload_n 0, 1) := by decide +kernel
theorem dX12_read_217 : decode cX12_read 217 = .ok (.getfield 172, 3) := by decide +kernel
theorem dX12_read_220 : decode cX12_read 220 = .ok (.imul, 1) := by decide +kernel
theorem dX12_read_221 : decode cX12_read 221 = .ok (.aload_n 0, 1) := by decide +kernel
theorem dX12_read_222 : decode cX12_read 222 = .ok (.getfield 172, 3) := by decide +kernel
theorem dX12_read_225 : decode cX12_read 225 = .ok (.imul, 1) := by decide +kernel
theorem dX12_read_226 : decode cX12_read 226 = .ok (.iadd, 1) := by decide +kernel
theorem dX12_read_227 : decode cX12_read 227 = .ok (.iload 4, 2) := by decide +kernel
theorem dX12_read_229 : decode cX12_read 229 = .ok (.iadd, 1) := by decide +kernel
theorem dX12_read_230 : decode cX12_read 230 = .ok (.iaload, 1) := by decide +kernel
theorem dX12_read_231 : decode cX12_read 231 = .ok (.iastore, 1) := by decide +kernel
theorem dX12_read_232 : decode cX12_read 232 = .ok (.iinc 4 1, 3) := by decide +kernel
theorem dX12_read_235 : decode cX12_read 235 = .ok (.goto (-41), 3) := by decide +kernel
theorem dX12_read_238 : decode cX12_read 238 = .ok (.iinc 2 1, 3) := by decide +kernel
theorem dX12_read_241 : decode cX12_read 241 = .ok (.goto (-192), 3) := by decide +kernel
theorem dX12_read_244 : decode cX12_read 244 = .ok (.iconst 0, 1) := by decide +kernel
theorem dX12_read_245 : decode cX12_read 245 = .ok (.istore_n 2, 1) := by decide +kernel
theorem dX12_read_246 : decode cX12_read 246 = .ok (.iload_n 2, 1) := by decide +kernel
theorem dX12_read_247 : decode cX12_read 247 = .ok (.aload_n 0, 1) := by decide +kernel
theorem dX12_read_248 : decode cX12_read 248 = .ok (.getfield 172, 3) := by decide +kernel
theorem dX12_read_251 : decode cX12_read 251 = .ok (.if_icmp .ge 28, 3) := by decide +kernel
theorem dX12_read_254 : decode cX12_read 254 = .ok (.aload_n 0, 1) := by decide +kernel
theorem dX12_read_255 : decode cX12_read 255 = .ok (.getfield 36, 3) := by decide +kernel
theorem dX12_read_258 : decode cX12_read 258 = .ok (.iload_n 2, 1) := by decide +kernel
theorem dX12_read_259 : decode cX12_read 259 = .ok (.aload_n 0, 1) := by decide +kernel
theorem dX12_read_260 : decode cX12_read 260 = .ok (.getfield 63, 3) := by decide +kernel
theorem dX12_read_263 : decode cX12_read 263 = .ok (.iconst 2, 1) := by decide +kernel
theorem dX12_read_264 : decode cX12_read 264 = .ok (.aload_n 0, 1) := by decide +kernel
theorem dX12_read_265 : decode cX12_read 265 = .ok (.getfield 175, 3) := by decide +kernel
theorem dX12_read_268 : decode cX12_read 268 = .ok (.iadd, 1) := by decide +kernel
theorem dX12_read_269 : decode cX12_read 269 = .ok (.iload_n 2, 1) := by decide +kernel
theorem dX12_read_270 : decode cX12_read 270 = .ok (.iadd, 1) := by decide +kernel
theorem dX12_read_271 : decode cX12_read 271 = .ok (.iaload, 1) := by decide +kernel
theorem dX12_read_272 : decode cX12_read 272 = .ok (.iastore, 1) := by decide +kernel
theorem dX12_read_273 : decode cX12_read 273 = .ok (.iinc 2 1, 3) := by decide +kernel
theorem dX12_read_276 : decode cX12_read 276 = .ok (.goto (-30), 3) := by decide +kernel
theorem dX12_read_279 : decode cX12_read 279 = .ok (.aload_n 0, 1) := by decide +kernel
theorem dX12_read_280 : decode cX12_read 280 = .ok (.iconst 0, 1) := by decide +kernel
theorem dX12_read_281 : decode cX12_read 281 = .ok (.putfield 224, 3) := by decide +kernel
theorem dX12_read_284 : decode cX12_read 284 = .ok (.iload_n 1, 1) := by decide +kernel
theorem dX12_read_285 : decode cX12_read 285 = .ok (.ifCond .eq 10, 3) := by decide +kernel
theorem dX12_read_288 : decode cX12_read 288 = .ok (.aload_n 0, 1) := by decide +kernel
theorem dX12_read_289 : decode cX12_read 289 = .ok (.getfield 172, 3) := by decide +kernel
theorem dX12_read_292 : decode cX12_read 292 = .ok (.goto 4, 3) := by decide +kernel
theorem dX12_read_295 : decode cX12_read 295 = .ok (.iconst 0, 1) := by decide +kernel
theorem dX12_read_296 : decode cX12_read 296 = .ok (.ireturn, 1) := by decide +kernel
theorem dJx29ce0_ordinal_8abf5_0 : decode cJx29ce0_ordinal_8abf5 0 = .ok (.aload_n 0, 1) := by decide +kernel
theorem dJx29ce0_ordinal_8abf5_1 : decode cJx29ce0_ordinal_8abf5 1 = .ok (.getfield 7, 3) := by decide +kernel
theorem dJx29ce0_ordinal_8abf5_4 : decode cJx29ce0_ordinal_8abf5 4 = .ok (.ireturn, 1) := by decide +kernel
theorem dJ9_max_7cf53_0 : decode cJ9_max_7cf53 0 = .ok (.iload_n 0, 1) := by decide +kernel
theorem dJ9_max_7cf53_1 : decode cJ9_max_7cf53 1 = .ok (.iload_n 1, 1) := by decide +kernel
theorem dJ9_max_7cf53_2 : decode cJ9_max_7cf53 2 = .ok (.if_icmp .lt 7, 3) := by decide +kernel
theorem dJ9_max_7cf53_5 : decode cJ9_max_7cf53 5 = .ok (.iload_n 0, 1) := by decide +kernel
theorem dJ9_max_7cf53_6 : decode cJ9_max_7cf53 6 = .ok (.goto 4, 3) := by decide +kernel
theorem dJ9_max_7cf53_9 : decode cJ9_max_7cf53 9 = .ok (.iload_n 1, 1) := by decide +kernel
theorem dJ9_max_7cf53_10 : decode cJ9_max_7cf53 10 = .ok (.ireturn, 1) := by decide +kernel
theorem dJ9_min_7cf53_0 : decode cJ9_min_7cf53 0 = .ok (.iload_n 0, 1) := by decide +kernel
theorem dJ9_min_7cf53_1 : decode cJ9_min_7cf53 1 = .ok (.iload_n 1, 1) := by decide +kernel
theorem dJ9_min_7cf53_2 : decode cJ9_min_7cf53 2 = .ok (.if_icmp .gt 7, 3) := by decide +kernel
theorem dJ9_min_7cf53_5 : decode cJ9_min_7cf53 5 = .ok (.iload_n 0, 1) := by decide +kernel
theorem dJ9_min_7cf53_6 : decode cJ9_min_7cf53 6 = .ok (.goto 4, 3) := by decide +kernel
theorem dJ9_min_7cf53_9 : decode cJ9_min_7cf53 9 = .ok (.iload_n 1, 1) := by decide +kernel
theorem dJ9_min_7cf53_10 : decode cJ9_min_7cf53 10 = .ok (.ireturn, 1) := by decide +kernel
theorem dJ0_length_8abf5_0 : decode cJ0_length_8abf5 0 = .ok (.aload_n 0, 1) := by decide +kernel
theorem dJ0_length_8abf5_1 : decode cJ0_length_8abf5 1 = .ok (.getfield 9, 3) := by decide +kernel
theorem dJ0_length_8abf5_4 : decode cJ0_length_8abf5 4 = .ok (.arraylength, 1) := by decide +kernel
theorem dJ0_length_8abf5_5 : decode cJ0_length_8abf5 5 = .ok (.aload_n 0, 1) := by decide +kernel
theorem dJ0_length_8abf5_6 : decode cJ0_length_8abf5 6 = .ok (.invokevirtual 335, 3) := by decide +kernel
theorem dJ0_length_8abf5_9 : decode cJ0_length_8abf5 9 = .ok (.ishr, 1) := by decide +kernel
theorem dJ0_length_8abf5_10 : decode cJ0_length_8abf5 10 = .ok (.ireturn, 1) := by decide +kernel
theorem dJ0_isEmpty_aae02_0 : decode cJ0_isEmpty_aae02 0 = .ok (.aload_n 0, 1) := by decide +kernel
theorem dJ0_isEmpty_aae02_1 : decode cJ0_isEmpty_aae02 1 = .ok (.getfield 9, 3) := by decide +kernel
theorem dJ0_isEmpty_aae02_4 : decode cJ0_isEmpty_aae02 4 = .ok (.arraylength, 1) := by decide +kernel
theorem dJ0_isEmpty_aae02_5 : decode cJ0_isEmpty_aae02 5 = .ok (.ifCond .ne 7, 3) := by decide +kernel
theorem dJ0_isEmpty_aae02_8 : decode cJ0_isEmpty_aae02 8 = .ok (.iconst 1, 1) := by decide +kernel
theorem dJ0_isEmpty_aae02_9 : decode cJ0_isEmpty_aae02 9 = .ok (.goto 4, 3) := by decide +kernel
theorem dJ0_isEmpty_aae02_12 : decode cJ0_isEmpty_aae02 12 = .ok (.iconst 0, 1) := by decide +kernel
theorem dJ0_isEmpty_aae02_13 : decode cJ0_isEmpty_aae02 13 = .ok (.ireturn, 1) := by decide +kernel
theorem dJ0_charAt_5068e_0 : decode cJ0_charAt_5068e 0 = .ok (.aload_n 0, 1) := by decide +kernel
theorem dJ0_charAt_5068e_1 : decode cJ0_charAt_5068e 1 = .ok (.invokevirtual 492, 3) := by decide +kernel
theorem dJ0_charAt_5068e_4 : decode cJ0_charAt_5068e 4 = .ok (.ifCond .eq 12, 3) := by decide +kernel
theorem dJ0_charAt_5068e_7 : decode cJ0_charAt_5068e 7 = .ok (.aload_n 0, 1) := by decide +kernel
theorem dJ0_charAt_5068e_8 : decode cJ0_charAt_5068e 8 = .ok (.getfield 9, 3) := by decide +kernel
theorem dJ0_charAt_5068e_11 : decode cJ0_charAt_5068e 11 = .ok (.iload_n 1, 1) := by decide +kernel
theorem dJ0_charAt_5068e_12 : decode cJ0_charAt_5068e 12 = .ok (.invokestatic 495, 3) := by decide +kernel
theorem dJ0_charAt_5068e_15 : decode cJ0_charAt_5068e 15 = .ok (.ireturn, 1) := by decide +kernel
theorem dJ0_charAt_5068e_16 : decode cJ0_charAt_5068e 16 = .ok (.aload_n 0, 1) := by decide +kernel
theorem dJ0_charAt_5068e_17 : decode cJ0_charAt_5068e 17 = .ok (.getfield 9, 3) := by decide +kernel
theorem dJ0_charAt_5068e_20 : decode cJ0_charAt_5068e 20 = .ok (.iload_n 1, 1) := by decide +kernel
theorem dJ0_charAt_5068e_21 : decode cJ0_charAt_5068e 21 = .ok (.invokestatic 498, 3) := by decide +kernel
theorem dJ0_charAt_5068e_24 : decode cJ0_charAt_5068e 24 = .ok (.ireturn, 1) := by decide +kernel
theorem dJ0_indexOf_0f7a4_0 : decode cJ0_indexOf_0f7a4 0 = .ok (.aload_n 0, 1) := by decide +kernel
theorem dJ0_indexOf_0f7a4_1 : decode cJ0_indexOf_0f7a4 1 = .ok (.iload_n 1, 1) := by decide +kernel
theorem dJ0_indexOf_0f7a4_2 : decode cJ0_indexOf_0f7a4 2 = .ok (.iconst 0, 1) := by decide +kernel
theorem dJ0_indexOf_0f7a4_3 : decode cJ0_indexOf_0f7a4 3 = .ok (.invokevirtual 633, 3) := by decide +kernel
theorem dJ0_indexOf_0f7a4_6 : decode cJ0_indexOf_0f7a4 6 = .ok (.ireturn, 1) := by decide +kernel
theorem dJ0_indexOf_7cf53_0 : decode cJ0_indexOf_7cf53 0 = .ok (.aload_n 0, 1) := by decide +kernel
theorem dJ0_indexOf_7cf53_1 : decode cJ0_indexOf_7cf53 1 = .ok (.invokevirtual 492, 3) := by decide +kernel
theorem dJ0_indexOf_7cf53_4 : decode cJ0_indexOf_7cf53 4 = .ok (.ifCond .eq 19, 3) := by decide +kernel
theorem dJ0_indexOf_7cf53_7 : decode cJ0_indexOf_7cf53 7 = .ok (.aload_n 0, 1) := by decide +kernel
theorem dJ0_indexOf_7cf53_8 : decode cJ0_indexOf_7cf53 8 = .ok (.getfield 9, 3) := by decide +kernel
theorem dJ0_indexOf_7cf53_11 : decode cJ0_indexOf_7cf53 11 = .ok (.iload_n 1, 1) := by decide +kernel
theorem dJ0_indexOf_7cf53_12 : decode cJ0_indexOf_7cf53 12 = .ok (.iload_n 2, 1) := by decide +kernel
theorem dJ0_indexOf_7cf53_13 : decode cJ0_indexOf_7cf53 13 = .ok (.aload_n 0, 1) := by decide +kernel
theorem dJ0_indexOf_7cf53_14 : decode cJ0_indexOf_7cf53 14 = .ok (.invokevirtual 505, 3) := by decide +kernel
theorem dJ0_indexOf_7cf53_17 : decode cJ0_indexOf_7cf53 17 = .ok (.invokestatic 637, 3) := by decide +kernel
theorem dJ0_indexOf_7cf53_20 : decode cJ0_indexOf_7cf53 20 = .ok (.goto 16, 3) := by decide +kernel
theorem dJ0_indexOf_7cf53_23 : decode cJ0_indexOf_7cf53 23 = .ok (.aload_n 0, 1) := by decide +kernel
theorem dJ0_indexOf_7cf53_24 : decode cJ0_indexOf_7cf53 24 = .ok (.getfield 9, 3) := by decide +kernel
theorem dJ0_indexOf_7cf53_27 : decode cJ0_indexOf_7cf53 27 = .ok (.iload_n 1, 1) := by decide +kernel
theorem dJ0_indexOf_7cf53_28 : decode cJ0_indexOf_7cf53 28 = .ok (.iload_n 2, 1) := by decide +kernel
theorem dJ0_indexOf_7cf53_29 : decode cJ0_indexOf_7cf53 29 = .ok (.aload_n 0, 1) := by decide +kernel
theorem dJ0_indexOf_7cf53_30 : decode cJ0_indexOf_7cf53 30 = .ok (.invokevirtual 505, 3) := by decide +kernel
theorem dJ0_indexOf_7cf53_33 : decode cJ0_indexOf_7cf53 33 = .ok (.invokestatic 640, 3) := by decide +kernel
theorem dJ0_indexOf_7cf53_36 : decode cJ0_indexOf_7cf53 36 = .ok (.ireturn, 1) := by decide +kernel
theorem dJ0_coder_7d493_0 : decode cJ0_coder_7d493 0 = .ok (.getstatic 38, 3) := by decide +kernel
theorem dJ0_coder_7d493_3 : decode cJ0_coder_7d493 3 = .ok (.ifCond .eq 10, 3) := by decide +kernel
theorem dJ0_coder_7d493_6 : decode cJ0_coder_7d493 6 = .ok (.aload_n 0, 1) := by decide +kernel
theorem dJ0_coder_7d493_7 : decode cJ0_coder_7d493 7 = .ok (.getfield 15, 3) := by decide +kernel
theorem dJ0_coder_7d493_10 : decode cJ0_coder_7d493 10 = .ok (.goto 4, 3) := by decide +kernel
theorem dJ0_coder_7d493_13 : decode cJ0_coder_7d493 13 = .ok (.iconst 1, 1) := by decide +kernel
theorem dJ0_coder_7d493_14 : decode cJ0_coder_7d493 14 = .ok (.ireturn, 1) := by decide +kernel
theorem dJ0_isLatin1_aae02_0 : decode cJ0_isLatin1_aae02 0 = .ok (.getstatic 38, 3) := by decide +kernel
theorem dJ0_isLatin1_aae02_3 : decode cJ0_isLatin1_aae02 3 = .ok (.ifCond .eq 14, 3) := by decide +kernel
theorem dJ0_isLatin1_aae02_6 : decode cJ0_isLatin1_aae02 6 = .ok (.aload_n 0, 1) := by decide +kernel
theorem dJ0_isLatin1_aae02_7 : decode cJ0_isLatin1_aae02 7 = .ok (.getfield 15, 3) := by decide +kernel
theorem dJ0_isLatin1_aae02_10 : decode cJ0_isLatin1_aae02 10 = .ok (.ifCond .ne 7, 3) := by decide +kernel
theorem dJ0_isLatin1_aae02_13 : decode cJ0_isLatin1_aae02 13 = .ok (.iconst 1, 1) := by decide +kernel
theorem dJ0_isLatin1_aae02_14 : decode cJ0_isLatin1_aae02 14 = .ok (.goto 4, 3) := by decide +kernel
theorem dJ0_isLatin1_aae02_17 : decode cJ0_isLatin1_aae02 17 = .ok (.iconst 0, 1) := by decide +kernel
theorem dJ0_isLatin1_aae02_18 : decode cJ0_isLatin1_aae02 18 = .ok (.ireturn, 1) := by decide +kernel
theorem dJ0_checkIndex_df160_0 : decode cJ0_checkIndex_df160 0 = .ok (.iload_n 0, 1) := by decide +kernel
theorem dJ0_checkIndex_df160_1 : decode cJ0_checkIndex_df160 1 = .ok (.iload_n 1, 1) := by decide +kernel
theorem dJ0_checkIndex_df160_2 : decode cJ0_checkIndex_df160 2 = .ok (.getstatic 1053, 3) := by decide +kernel
theorem dJ0_checkIndex_df160_5 : decode cJ0_checkIndex_df160 5 = .ok (.invokestatic 1059, 3) := by decide +kernel
theorem dJ0_checkIndex_df160_8 : decode cJ0_checkIndex_df160 8 = .ok (.pop, 1) := by decide +kernel
theorem dJ0_checkIndex_df160_9 : decode cJ0_checkIndex_df160 9 = .ok (.return_, 1) := by decide +kernel
theorem dJ0_checkBoundsBeginEnd_23922_0 : decode cJ0_checkBoundsBeginEnd_23922 0 = .ok (.iload_n 0, 1) := by decide +kernel
theorem dJ0_checkBoundsBeginEnd_23922_1 : decode cJ0_checkBoundsBeginEnd_23922 1 = .ok (.iload_n 1, 1) := by decide +kernel
theorem dJ0_checkBoundsBeginEnd_23922_2 : decode cJ0_checkBoundsBeginEnd_23922 2 = .ok (.iload_n 2, 1) := by decide +kernel
theorem dJ0_checkBoundsBeginEnd_23922_3 : decode cJ0_checkBoundsBeginEnd_23922 3 = .ok (.getstatic 1053, 3) := by decide +kernel
theorem dJ0_checkBoundsBeginEnd_23922_6 : decode cJ0_checkBoundsBeginEnd_23922 6 = .ok (.invokestatic 1062, 3) := by decide +kernel
theorem dJ0_checkBoundsBeginEnd_23922_9 : decode cJ0_checkBoundsBeginEnd_23922 9 = .ok (.pop, 1) := by decide +kernel
theorem dJ0_checkBoundsBeginEnd_23922_10 : decode cJ0_checkBoundsBeginEnd_23922 10 = .ok (.return_, 1) := by decide +kernel
theorem dJ1_charAt_3b067_0 : decode cJ1_charAt_3b067 0 = .ok (.iload_n 1, 1) := by decide +kernel
theorem dJ1_charAt_3b067_1 : decode cJ1_charAt_3b067 1 = .ok (.aload_n 0, 1) := by decide +kernel
theorem dJ1_charAt_3b067_2 : decode cJ1_charAt_3b067 2 = .ok (.arraylength, 1) := by decide +kernel
theorem dJ1_charAt_3b067_3 : decode cJ1_charAt_3b067 3 = .ok (.invokestatic 9, 3) := by decide +kernel
theorem dJ1_charAt_3b067_6 : decode cJ1_charAt_3b067 6 = .ok (.aload_n 0, 1) := by decide +kernel
theorem dJ1_charAt_3b067_7 : decode cJ1_charAt_3b067 7 = .ok (.iload_n 1, 1) := by decide +kernel
theorem dJ1_charAt_3b067_8 : decode cJ1_charAt_3b067 8 = .ok (.baload, 1) := by decide +kernel
theorem dJ1_charAt_3b067_9 : decode cJ1_charAt_3b067 9 = .ok (.sipush 255, 3) := by decide +kernel
theorem dJ1_charAt_3b067_12 : decode cJ1_charAt_3b067 12 = .ok (.iand, 1) := by decide +kernel
theorem dJ1_charAt_3b067_13 : decode cJ1_charAt_3b067 13 = .ok (.i2c, 1) := by decide +kernel
theorem dJ1_charAt_3b067_14 : decode cJ1_charAt_3b067 14 = .ok (.ireturn, 1) := by decide +kernel
theorem dJ1_canEncode_9a6ad_0 : decode cJ1_canEncode_9a6ad 0 = .ok (.iload_n 0, 1) := by decide +kernel
theorem dJ1_canEncode_9a6ad_1 : decode cJ1_canEncode_9a6ad 1 = .ok (.ifCond .lt 14, 3) := by decide +kernel
theorem dJ1_canEncode_9a6ad_4 : decode cJ1_canEncode_9a6ad 4 = .ok (.iload_n 0, 1) := by decide +kernel
theorem dJ1_canEncode_9a6ad_5 : decode cJ1_canEncode_9a6ad 5 = .ok (.sipush 255, 3) := by decide +kernel
theorem dJ1_canEncode_9a6ad_8 : decode cJ1_canEncode_9a6ad 8 = .ok (.if_icmp .gt 7, 3) := by decide +kernel
theorem dJ1_canEncode_9a6ad_11 : decode cJ1_canEncode_9a6ad 11 = .ok (.iconst 1, 1) := by decide +kernel
theorem dJ1_canEncode_9a6ad_12 : decode cJ1_canEncode_9a6ad 12 = .ok (.goto 4, 3) := by decide +kernel
theorem dJ1_canEncode_9a6ad_15 : decode cJ1_canEncode_9a6ad 15 = .ok (.iconst 0, 1) := by decide +kernel
theorem dJ1_canEncode_9a6ad_16 : decode cJ1_canEncode_9a6ad 16 = .ok (.ireturn, 1) := by decide +kernel
theorem dJ1_indexOf_4cfef_0 : decode cJ1_indexOf_4cfef 0 = .ok (.iload_n 1, 1) := by decide +kernel
theorem dJ1_indexOf_4cfef_1 : decode cJ1_indexOf_4cfef 1 = .ok (.invokestatic 88, 3) := by decide +kernel
theorem dJ1_indexOf_4cfef_4 : decode cJ1_indexOf_4cfef 4 = .ok (.ifCond .ne 5, 3) := by decide +kernel
theorem dJ1_indexOf_4cfef_7 : decode cJ1_indexOf_4cfef 7 = .ok (.iconst (-1), 1) := by decide +kernel
theorem dJ1_indexOf_4cfef_8 : decode cJ1_indexOf_4cfef 8 = .ok (.ireturn, 1) := by decide +kernel
theorem dJ1_indexOf_4cfef_9 : decode cJ1_indexOf_4cfef 9 = .ok (.iload_n 2, 1) := by decide +kernel
theorem dJ1_indexOf_4cfef_10 : decode cJ1_indexOf_4cfef 10 = .ok (.iconst 0, 1) := by decide +kernel
theorem dJ1_indexOf_4cfef_11 : decode cJ1_indexOf_4cfef 11 = .ok (.invokestatic 92, 3) := by decide +kernel
theorem dJ1_indexOf_4cfef_14 : decode cJ1_indexOf_4cfef 14 = .ok (.istore_n 2, 1) := by decide +kernel
theorem dJ1_indexOf_4cfef_15 : decode cJ1_indexOf_4cfef 15 = .ok (.iload_n 3, 1) := by decide +kernel
theorem dJ1_indexOf_4cfef_16 : decode cJ1_indexOf_4cfef 16 = .ok (.aload_n 0, 1) := by decide +kernel
theorem dJ1_indexOf_4cfef_17 : decode cJ1_indexOf_4cfef 17 = .ok (.arraylength, 1) := by decide +kernel
theorem dJ1_indexOf_4cfef_18 : decode cJ1_indexOf_4cfef 18 = .ok (.invokestatic 38, 3) := by decide +kernel
theorem dJ1_indexOf_4cfef_21 : decode cJ1_indexOf_4cfef 21 = .ok (.istore_n 3, 1) := by decide +kernel
theorem dJ1_indexOf_4cfef_22 : decode cJ1_indexOf_4cfef 22 = .ok (.iload_n 2, 1) := by decide +kernel
theorem dJ1_indexOf_4cfef_23 : decode cJ1_indexOf_4cfef 23 = .ok (.iload_n 3, 1) := by decide +kernel
theorem dJ1_indexOf_4cfef_24 : decode cJ1_indexOf_4cfef 24 = .ok (.if_icmp .lt 5, 3) := by decide +kernel
theorem dJ1_indexOf_4cfef_27 : decode cJ1_indexOf_4cfef 27 = .ok (.iconst (-1), 1) := by decide +kernel
theorem dJ1_indexOf_4cfef_28 : decode cJ1_indexOf_4cfef 28 = .ok (.ireturn, 1) := by decide +kernel
theorem dJ1_indexOf_4cfef_29 : decode cJ1_indexOf_4cfef 29 = .ok (.aload_n 0, 1) := by decide +kernel
theorem dJ1_indexOf_4cfef_30 : decode cJ1_indexOf_4cfef 30 = .ok (.iload_n 1, 1) := by decide +kernel
theorem dJ1_indexOf_4cfef_31 : decode cJ1_indexOf_4cfef 31 = .ok (.iload_n 2, 1) := by decide +kernel
theorem dJ1_indexOf_4cfef_32 : decode cJ1_indexOf_4cfef 32 = .ok (.iload_n 3, 1) := by decide +kernel
theorem dJ1_indexOf_4cfef_33 : decode cJ1_indexOf_4cfef 33 = .ok (.invokestatic 95, 3) := by decide +kernel
theorem dJ1_indexOf_4cfef_36 : decode cJ1_indexOf_4cfef 36 = .ok (.ireturn, 1) := by decide +kernel
theorem dJ1_indexOfChar_4cfef_0 : decode cJ1_indexOfChar_4cfef 0 = .ok (.iload_n 1, 1) := by decide +kernel
theorem dJ1_indexOfChar_4cfef_1 : decode cJ1_indexOfChar_4cfef 1 = .ok (.i2b, 1) := by decide +kernel
theorem dJ1_indexOfChar_4cfef_2 : decode cJ1_indexOfChar_4cfef 2 = .ok (.istore 4, 2) := by decide +kernel
theorem dJ1_indexOfChar_4cfef_4 : decode cJ1_indexOfChar_4cfef 4 = .ok (.iload_n 2, 1) := by decide +kernel
theorem dJ1_indexOfChar_4cfef_5 : decode cJ1_indexOfChar_4cfef 5 = .ok (.istore 5, 2) := by decide +kernel
theorem dJ1_indexOfChar_4cfef_7 : decode cJ1_indexOfChar_4cfef 7 = .ok (.iload 5, 2) := by decide +kernel
theorem dJ1_indexOfChar_4cfef_9 : decode cJ1_indexOfChar_4cfef 9 = .ok (.iload_n 3, 1) := by decide +kernel
theorem dJ1_indexOfChar_4cfef_10 : decode cJ1_indexOfChar_4cfef 10 = .ok (.if_icmp .ge 21, 3) := by decide +kernel
theorem dJ1_indexOfChar_4cfef_13 : decode cJ1_indexOfChar_4cfef 13 = .ok (.aload_n 0, 1) := by decide +kernel
theorem dJ1_indexOfChar_4cfef_14 : decode cJ1_indexOfChar_4cfef 14 = .ok (.iload 5, 2) := by decide +kernel
theorem dJ1_indexOfChar_4cfef_16 : decode cJ1_indexOfChar_4cfef 16 = .ok (.baload, 1) := by decide +kernel
theorem dJ1_indexOfChar_4cfef_17 : decode cJ1_indexOfChar_4cfef 17 = .ok (.iload 4, 2) := by decide +kernel
theorem dJ1_indexOfChar_4cfef_19 : decode cJ1_indexOfChar_4cfef 19 = .ok (.if_icmp .ne 6, 3) := by decide +kernel
theorem dJ1_indexOfChar_4cfef_22 : decode cJ1_indexOfChar_4cfef 22 = .ok (.iload 5, 2) := by decide +kernel
theorem dJ1_indexOfChar_4cfef_24 : decode cJ1_indexOfChar_4cfef 24 = .ok (.ireturn, 1) := by decide +kernel
theorem dJ1_indexOfChar_4cfef_25 : decode cJ1_indexOfChar_4cfef 25 = .ok (.iinc 5 1, 3) := by decide +kernel
theorem dJ1_indexOfChar_4cfef_28 : decode cJ1_indexOfChar_4cfef 28 = .ok (.goto (-21), 3) := by decide +kernel
theorem dJ1_indexOfChar_4cfef_31 : decode cJ1_indexOfChar_4cfef 31 = .ok (.iconst (-1), 1) := by decide +kernel
theorem dJ1_indexOfChar_4cfef_32 : decode cJ1_indexOfChar_4cfef 32 = .ok (.ireturn, 1) := by decide +kernel
theorem dJ7_fill_53178_0 : decode cJ7_fill_53178 0 = .ok (.iconst 0, 1) := by decide +kernel
theorem dJ7_fill_53178_1 : decode cJ7_fill_53178 1 = .ok (.istore_n 2, 1) := by decide +kernel
theorem dJ7_fill_53178_2 : decode cJ7_fill_53178 2 = .ok (.aload_n 0, 1) := by decide +kernel
theorem dJ7_fill_53178_3 : decode cJ7_fill_53178 3 = .ok (.arraylength, 1) := by decide +kernel
theorem dJ7_fill_53178_4 : decode cJ7_fill_53178 4 = .ok (.istore_n 3, 1) := by decide +kernel
theorem dJ7_fill_53178_5 : decode cJ7_fill_53178 5 = .ok (.iload_n 2, 1) := by decide +kernel
theorem dJ7_fill_53178_6 : decode cJ7_fill_53178 6 = .ok (.iload_n 3, 1) := by decide +kernel
theorem dJ7_fill_53178_7 : decode cJ7_fill_53178 7 = .ok (.if_icmp .ge 13, 3) := by decide +kernel
theorem dJ7_fill_53178_10 : decode cJ7_fill_53178 10 = .ok (.aload_n 0, 1) := by decide +kernel
theorem dJ7_fill_53178_11 : decode cJ7_fill_53178 11 = .ok (.iload_n 2, 1) := by decide +kernel
theorem dJ7_fill_53178_12 : decode cJ7_fill_53178 12 = .ok (.iload_n 1, 1) := by decide +kernel
theorem dJ7_fill_53178_13 : decode cJ7_fill_53178 13 = .ok (.iastore, 1) := by decide +kernel
theorem dJ7_fill_53178_14 : decode cJ7_fill_53178 14 = .ok (.iinc 2 1, 3) := by decide +kernel
theorem dJ7_fill_53178_17 : decode cJ7_fill_53178 17 = .ok (.goto (-12), 3) := by decide +kernel
theorem dJ7_fill_53178_20 : decode cJ7_fill_53178 20 = .ok (.return_, 1) := by decide +kernel
theorem dJ3_checkIndex_8e157_0 : decode cJ3_checkIndex_8e157 0 = .ok (.iload_n 0, 1) := by decide +kernel
theorem dJ3_checkIndex_8e157_1 : decode cJ3_checkIndex_8e157 1 = .ok (.ifCond .lt 8, 3) := by decide +kernel
theorem dJ3_checkIndex_8e157_4 : decode cJ3_checkIndex_8e157 4 = .ok (.iload_n 0, 1) := by decide +kernel
theorem dJ3_checkIndex_8e157_5 : decode cJ3_checkIndex_8e157 5 = .ok (.iload_n 1, 1) := by decide +kernel
theorem dJ3_checkIndex_8e157_6 : decode cJ3_checkIndex_8e157 6 = .ok (.if_icmp .lt 10, 3) := by decide +kernel
theorem dJ3_checkIndex_8e157_9 : decode cJ3_checkIndex_8e157 9 = .ok (.aload_n 2, 1) := by decide +kernel
theorem dJ3_checkIndex_8e157_10 : decode cJ3_checkIndex_8e157 10 = .ok (.iload_n 0, 1) := by decide +kernel
theorem dJ3_checkIndex_8e157_11 : decode cJ3_checkIndex_8e157 11 = .ok (.iload_n 1, 1) := by decide +kernel
theorem dJ3_checkIndex_8e157_12 : decode cJ3_checkIndex_8e157 12 = .ok (.invokestatic 95, 3) := by decide +kernel
theorem dJ3_checkIndex_8e157_15 : decode cJ3_checkIndex_8e157 15 = .ok (.athrow, 1) := by decide +kernel
theorem dJ3_checkIndex_8e157_16 : decode cJ3_checkIndex_8e157 16 = .ok (.iload_n 0, 1) := by decide +kernel
theorem dJ3_checkIndex_8e157_17 : decode cJ3_checkIndex_8e157 17 = .ok (.ireturn, 1) := by decide +kernel
theorem dJ3_checkFromToIndex_8c36e_0 : decode cJ3_checkFromToIndex_8c36e 0 = .ok (.iload_n 0, 1) := by decide +kernel
theorem dJ3_checkFromToIndex_8c36e_1 : decode cJ3_checkFromToIndex_8c36e 1 = .ok (.ifCond .lt 13, 3) := by decide +kernel
theorem dJ3_checkFromToIndex_8c36e_4 : decode cJ3_checkFromToIndex_8c36e 4 = .ok (.iload_n 0, 1) := by decide +kernel
theorem dJ3_checkFromToIndex_8c36e_5 : decode cJ3_checkFromToIndex_8c36e 5 = .ok (.iload_n 1, 1) := by decide +kernel
theorem dJ3_checkFromToIndex_8c36e_6 : decode cJ3_checkFromToIndex_8c36e 6 = .ok (.if_icmp .gt 8, 3) := by decide +kernel
theorem dJ3_checkFromToIndex_8c36e_9 : decode cJ3_checkFromToIndex_8c36e 9 = .ok (.iload_n 1, 1) := by decide +kernel
theorem dJ3_checkFromToIndex_8c36e_10 : decode cJ3_checkFromToIndex_8c36e 10 = .ok (.iload_n 2, 1) := by decide +kernel
theorem dJ3_checkFromToIndex_8c36e_11 : decode cJ3_checkFromToIndex_8c36e 11 = .ok (.if_icmp .le 11, 3) := by decide +kernel
theorem dJ3_checkFromToIndex_8c36e_14 : decode cJ3_checkFromToIndex_8c36e 14 = .ok (.aload_n 3, 1) := by decide +kernel
theorem dJ3_checkFromToIndex_8c36e_15 : decode cJ3_checkFromToIndex_8c36e 15 = .ok (.iload_n 0, 1) := by decide +kernel
theorem dJ3_checkFromToIndex_8c36e_16 : decode cJ3_checkFromToIndex_8c36e 16 = .ok (.iload_n 1, 1) := by decide +kernel
theorem dJ3_checkFromToIndex_8c36e_17 : decode cJ3_checkFromToIndex_8c36e 17 = .ok (.iload_n 2, 1) := by decide +kernel
theorem dJ3_checkFromToIndex_8c36e_18 : decode cJ3_checkFromToIndex_8c36e 18 = .ok (.invokestatic 99, 3) := by decide +kernel
theorem dJ3_checkFromToIndex_8c36e_21 : decode cJ3_checkFromToIndex_8c36e 21 = .ok (.athrow, 1) := by decide +kernel
theorem dJ3_checkFromToIndex_8c36e_22 : decode cJ3_checkFromToIndex_8c36e 22 = .ok (.iload_n 0, 1) := by decide +kernel
theorem dJ3_checkFromToIndex_8c36e_23 : decode cJ3_checkFromToIndex_8c36e 23 = .ok (.ireturn, 1) := by decide +kernel
theorem dL_cell_0 : decode cL_cell 0 = .ok (.iload_n 1, 1) := by decide +kernel
theorem dL_cell_1 : decode cL_cell 1 = .ok (.aload_n 0, 1) := by decide +kernel
theorem dL_cell_2 : decode cL_cell 2 = .ok (.arraylength, 1) := by decide +kernel
theorem dL_cell_3 : decode cL_cell 3 = .ok (.if_icmp .ge 9, 3) := by decide +kernel
theorem dL_cell_6 : decode cL_cell 6 = .ok (.aload_n 0, 1) := by decide +kernel
theorem dL_cell_7 : decode cL_cell 7 = .ok (.iload_n 1, 1) := by decide +kernel
theorem dL_cell_8 : decode cL_cell 8 = .ok (.iaload, 1) := by decide +kernel
theorem dL_cell_9 : decode cL_cell 9 = .ok (.goto 4, 3) := by decide +kernel
theorem dL_cell_12 : decode cL_cell 12 = .ok (.iconst 0, 1) := by decide +kernel
theorem dL_cell_13 : decode cL_cell 13 = .ok (.ireturn, 1) := by decide +kernel
theorem dL_add_0 : decode cL_add 0 = .ok (.aload_n 1, 1) := by decide +kernel
theorem dL_add_1 : decode cL_add 1 = .ok (.iconst 0, 1) := by decide +kernel
theorem dL_add_2 : decode cL_add 2 = .ok (.aload_n 0, 1) := by decide +kernel
theorem dL_add_3 : decode cL_add 3 = .ok (.invokevirtual 7, 3) := by decide +kernel
theorem dL_add_6 : decode cL_add 6 = .ok (.i2l, 1) := by decide +kernel
theorem dL_add_7 : decode cL_add 7 = .ok (.lastore, 1) := by decide +kernel
theorem dL_add_8 : decode cL_add 8 = .ok (.goto 9, 3) := by decide +kernel
theorem dL_add_11 : decode cL_add 11 = .ok (.astore_n 2, 1) := by decide +kernel
theorem dL_add_12 : decode cL_add 12 = .ok (.iconst 1, 1) := by decide +kernel
theorem dL_add_13 : decode cL_add 13 = .ok (.ireturn, 1) := by decide +kernel
theorem dL_add_14 : decode cL_add 14 = .ok (.astore_n 2, 1) := by decide +kernel
theorem dL_add_15 : decode cL_add 15 = .ok (.iconst 2, 1) := by decide +kernel
theorem dL_add_16 : decode cL_add 16 = .ok (.ireturn, 1) := by decide +kernel
theorem dL_add_17 : decode cL_add 17 = .ok (.iconst 0, 1) := by decide +kernel
theorem dL_add_18 : decode cL_add 18 = .ok (.ireturn, 1) := by decide +kernel
theorem dL_accept_0 : decode cL_accept 0 = .ok (.aload_n 1, 1) := by decide +kernel
theorem dL_accept_1 : decode cL_accept 1 = .ok (.iconst 0, 1) := by decide +kernel
theorem dL_accept_2 : decode cL_accept 2 = .ok (.aload_n 0, 1) := by decide +kernel
theorem dL_accept_3 : decode cL_accept 3 = .ok (.invokevirtual 17, 3) := by decide +kernel
theorem dL_accept_6 : decode cL_accept 6 = .ok (.i2l, 1) := by decide +kernel
theorem dL_accept_7 : decode cL_accept 7 = .ok (.lastore, 1) := by decide +kernel
theorem dL_accept_8 : decode cL_accept 8 = .ok (.goto 9, 3) := by decide +kernel
theorem dL_accept_11 : decode cL_accept 11 = .ok (.astore_n 2, 1) := by decide +kernel
theorem dL_accept_12 : decode cL_accept 12 = .ok (.iconst 1, 1) := by decide +kernel
theorem dL_accept_13 : decode cL_accept 13 = .ok (.ireturn, 1) := by decide +kernel
theorem dL_accept_14 : decode cL_accept 14 = .ok (.astore_n 2, 1) := by decide +kernel
theorem dL_accept_15 : decode cL_accept 15 = .ok (.iconst 2, 1) := by decide +kernel
theorem dL_accept_16 : decode cL_accept 16 = .ok (.ireturn, 1) := by decide +kernel
theorem dL_accept_17 : decode cL_accept 17 = .ok (.iconst 0, 1) := by decide +kernel
theorem dL_accept_18 : decode cL_accept 18 = .ok (.ireturn, 1) := by decide +kernel
theorem dL_may_0 : decode cL_may 0 = .ok (.aload 4, 2) := by decide +kernel
theorem dL_may_2 : decode cL_may 2 = .ok (.iconst 0, 1) := by decide +kernel
theorem dL_may_3 : decode cL_may 3 = .ok (.aload_n 0, 1) := by decide +kernel
theorem dL_may_4 : decode cL_may 4 = .ok (.iload_n 1, 1) := by decide +kernel
theorem dL_may_5 : decode cL_may 5 = .ok (.iload_n 2, 1) := by decide +kernel
theorem dL_may_6 : decode cL_may 6 = .ok (.iload_n 3, 1) := by decide +kernel
theorem dL_may_7 : decode cL_may 7 = .ok (.invokevirtual 20, 3) := by decide +kernel
theorem dL_may_10 : decode cL_may 10 = .ok (.i2l, 1) := by decide +kernel
theorem dL_may_11 : decode cL_may 11 = .ok (.lastore, 1) := by decide +kernel
theorem dL_may_12 : decode cL_may 12 = .ok (.goto 7, 3) := by decide +kernel
theorem dL_may_15 : decode cL_may 15 = .ok (.astore 5, 2) := by decide +kernel
theorem dL_may_17 : decode cL_may 17 = .ok (.iconst 1, 1) := by decide +kernel
theorem dL_may_18 : decode cL_may 18 = .ok (.ireturn, 1) := by decide +kernel
theorem dL_may_19 : decode cL_may 19 = .ok (.iconst 0, 1) := by decide +kernel
theorem dL_may_20 : decode cL_may 20 = .ok (.ireturn, 1) := by decide +kernel
theorem dL_read_0 : decode cL_read 0 = .ok (.aload_n 1, 1) := by decide +kernel
theorem dL_read_1 : decode cL_read 1 = .ok (.iconst 0, 1) := by decide +kernel
theorem dL_read_2 : decode cL_read 2 = .ok (.aload_n 0, 1) := by decide +kernel
theorem dL_read_3 : decode cL_read 3 = .ok (.invokevirtual 26, 3) := by decide +kernel
theorem dL_read_6 : decode cL_read 6 = .ok (.i2l, 1) := by decide +kernel
theorem dL_read_7 : decode cL_read 7 = .ok (.lastore, 1) := by decide +kernel
theorem dL_read_8 : decode cL_read 8 = .ok (.goto 6, 3) := by decide +kernel
theorem dL_read_11 : decode cL_read 11 = .ok (.astore_n 2, 1) := by decide +kernel
theorem dL_read_12 : decode cL_read 12 = .ok (.iconst 1, 1) := by decide +kernel
theorem dL_read_13 : decode cL_read 13 = .ok (.ireturn, 1) := by decide +kernel
theorem dL_read_14 : decode cL_read 14 = .ok (.iconst 0, 1) := by decide +kernel
theorem dL_read_15 : decode cL_read 15 = .ok (.ireturn, 1) := by decide +kernel
theorem dL_law_0 : decode cL_law 0 = .ok (.new 8, 3) := by decide +kernel
theorem dL_law_3 : decode cL_law 3 = .ok (.dup, 1) := by decide +kernel
theorem dL_law_4 : decode cL_law 4 = .ok (.aload_n 0, 1) := by decide +kernel
theorem dL_law_5 : decode cL_law 5 = .ok (.iconst 0, 1) := by decide +kernel
theorem dL_law_6 : decode cL_law 6 = .ok (.invokestatic 29, 3) := by decide +kernel
theorem dL_law_9 : decode cL_law 9 = .ok (.invokespecial 35, 3) := by decide +kernel
theorem dL_law_12 : decode cL_law 12 = .ok (.astore_n 1, 1) := by decide +kernel
theorem dL_law_13 : decode cL_law 13 = .ok (.new 38, 3) := by decide +kernel
theorem dL_law_16 : decode cL_law 16 = .ok (.dup, 1) := by decide +kernel
theorem dL_law_17 : decode cL_law 17 = .ok (.aload_n 0, 1) := by decide +kernel
theorem dL_law_18 : decode cL_law 18 = .ok (.iconst 0, 1) := by decide +kernel
theorem dL_law_19 : decode cL_law 19 = .ok (.invokestatic 29, 3) := by decide +kernel
theorem dL_law_22 : decode cL_law 22 = .ok (.invokespecial 40, 3) := by decide +kernel
theorem dL_law_25 : decode cL_law 25 = .ok (.astore_n 2, 1) := by decide +kernel
theorem dL_law_26 : decode cL_law 26 = .ok (.iconst 1, 1) := by decide +kernel
theorem dL_law_27 : decode cL_law 27 = .ok (.newarray .long, 2) := by decide +kernel
theorem dL_law_29 : decode cL_law 29 = .ok (.astore_n 3, 1) := by decide +kernel
theorem dL_law_30 : decode cL_law 30 = .ok (.iconst 1, 1) := by decide +kernel
theorem dL_law_31 : decode cL_law 31 = .ok (.istore 4, 2) := by decide +kernel
theorem dL_law_33 : decode cL_law 33 = .ok (.iload 4, 2) := by decide +kernel
theorem dL_law_35 : decode cL_law 35 = .ok (.aload_n 0, 1) := by decide +kernel
theorem dL_law_36 : decode cL_law 36 = .ok (.arraylength, 1) := by decide +kernel
theorem dL_law_37 : decode cL_law 37 = .ok (.iconst 4, 1) := by decide +kernel
theorem dL_law_38 : decode cL_law 38 = .ok (.isub, 1) := by decide +kernel
theorem dL_law_39 : decode cL_law 39 = .ok (.if_icmp .gt 625, 3) := by decide +kernel
theorem dL_law_42 : decode cL_law 42 = .ok (.aload_n 0, 1) := by decide +kernel
theorem dL_law_43 : decode cL_law 43 = .ok (.iload 4, 2) := by decide +kernel
theorem dL_law_45 : decode cL_law 45 = .ok (.iaload, 1) := by decide +kernel
theorem dL_law_46 : decode cL_law 46 = .ok (.bipush 15, 2) := by decide +kernel
theorem dL_law_48 : decode cL_law 48 = .ok (.iand, 1) := by decide +kernel
theorem dL_law_49 : decode cL_law 49 = .ok (.tableswitch 609 0 13 #[71, 128, 172, 185, 210, 254, 267, 347, 396, 433, 458, 471, 496, 565], 71) := by decide +kernel
theorem dL_law_120 : decode cL_law 120 = .ok (.aload_n 1, 1) := by decide +kernel
theorem dL_law_121 : decode cL_law 121 = .ok (.aload_n 0, 1) := by decide +kernel
theorem dL_law_122 : decode cL_law 122 = .ok (.iload 4, 2) := by decide +kernel
theorem dL_law_124 : decode cL_law 124 = .ok (.iconst 1, 1) := by decide +kernel
theorem dL_law_125 : decode cL_law 125 = .ok (.iadd, 1) := by decide +kernel
theorem dL_law_126 : decode cL_law 126 = .ok (.iaload, 1) := by decide +kernel
theorem dL_law_127 : decode cL_law 127 = .ok (.i2l, 1) := by decide +kernel
theorem dL_law_128 : decode cL_law 128 = .ok (.bipush 32, 2) := by decide +kernel
theorem dL_law_130 : decode cL_law 130 = .ok (.lshl, 1) := by decide +kernel
theorem dL_law_131 : decode cL_law 131 = .ok (.aload_n 0, 1) := by decide +kernel
theorem dL_law_132 : decode cL_law 132 = .ok (.iload 4, 2) := by decide +kernel
theorem dL_law_134 : decode cL_law 134 = .ok (.iconst 2, 1) := by decide +kernel
theorem dL_law_135 : decode cL_law 135 = .ok (.iadd, 1) := by decide +kernel
theorem dL_law_136 : decode cL_law 136 = .ok (.iaload, 1) := by decide +kernel
theorem dL_law_137 : decode cL_law 137 = .ok (.i2l, 1) := by decide +kernel
theorem dL_law_138 : decode cL_law 138 = .ok (.ldc2_w 41, 3) := by decide +kernel
theorem dL_law_141 : decode cL_law 141 = .ok (.land, 1) := by decide +kernel
theorem dL_law_142 : decode cL_law 142 = .ok (.lor, 1) := by decide +kernel
theorem dL_law_143 : decode cL_law 143 = .ok (.invokevirtual 43, 3) := by decide +kernel
theorem dL_law_146 : decode cL_law 146 = .ok (.aload_n 2, 1) := by decide +kernel
theorem dL_law_147 : decode cL_law 147 = .ok (.aload_n 0, 1) := by decide +kernel
theorem dL_law_148 : decode cL_law 148 = .ok (.iload 4, 2) := by decide +kernel
theorem dL_law_150 : decode cL_law 150 = .ok (.iconst 1, 1) := by decide +kernel
theorem dL_law_151 : decode cL_law 151 = .ok (.iadd, 1) := by decide +kernel
theorem dL_law_152 : decode cL_law 152 = .ok (.iaload, 1) := by decide +kernel
theorem dL_law_153 : decode cL_law 153 = .ok (.i2l, 1) := by decide +kernel
theorem dL_law_154 : decode cL_law 154 = .ok (.bipush 32, 2) := by decide +kernel
theorem dL_law_156 : decode cL_law 156 = .ok (.lshl, 1) := by decide +kernel
theorem dL_law_157 : decode cL_law 157 = .ok (.aload_n 0, 1) := by decide +kernel
theorem dL_law_158 : decode cL_law 158 = .ok (.iload 4, 2) := by decide +kernel
theorem dL_law_160 : decode cL_law 160 = .ok (.iconst 2, 1) := by decide +kernel
theorem dL_law_161 : decode cL_law 161 = .ok (.iadd, 1) := by decide +kernel
theorem dL_law_162 : decode cL_law 162 = .ok (.iaload, 1) := by decide +kernel
theorem dL_law_163 : decode cL_law 163 = .ok (.i2l, 1) := by decide +kernel
theorem dL_law_164 : decode cL_law 164 = .ok (.ldc2_w 41, 3) := by decide +kernel
theorem dL_law_167 : decode cL_law 167 = .ok (.land, 1) := by decide +kernel
theorem dL_law_168 : decode cL_law 168 = .ok (.lor, 1) := by decide +kernel
theorem dL_law_169 : decode cL_law 169 = .ok (.invokevirtual 47, 3) := by decide +kernel
theorem dL_law_172 : decode cL_law 172 = .ok (.if_icmp .eq 486, 3) := by decide +kernel
theorem dL_law_175 : decode cL_law 175 = .ok (.iconst 0, 1) := by decide +kernel
theorem dL_law_176 : decode cL_law 176 = .ok (.ireturn, 1) := by decide +kernel
theorem dL_law_177 : decode cL_law 177 = .ok (.aload_n 1, 1) := by decide +kernel
theorem dL_law_178 : decode cL_law 178 = .ok (.aload_n 3, 1) := by decide +kernel
theorem dL_law_179 : decode cL_law 179 = .ok (.invokestatic 48, 3) := by decide +kernel
theorem dL_law_182 : decode cL_law 182 = .ok (.istore 5, 2) := by decide +kernel
theorem dL_law_184 : decode cL_law 184 = .ok (.aload_n 2, 1) := by decide +kernel
theorem dL_law_185 : decode cL_law 185 = .ok (.invokevirtual 51, 3) := by decide +kernel
theorem dL_law_188 : decode cL_law 188 = .ok (.istore 6, 2) := by decide +kernel
theorem dL_law_190 : decode cL_law 190 = .ok (.aload_n 2, 1) := by decide +kernel
theorem dL_law_191 : decode cL_law 191 = .ok (.invokevirtual 52, 3) := by decide +kernel
theorem dL_law_194 : decode cL_law 194 = .ok (.iload 5, 2) := by decide +kernel
theorem dL_law_196 : decode cL_law 196 = .ok (.if_icmp .eq 5, 3) := by decide +kernel
theorem dL_law_199 : decode cL_law 199 = .ok (.iconst 0, 1) := by decide +kernel
theorem dL_law_200 : decode cL_law 200 = .ok (.ireturn, 1) := by decide +kernel
theorem dL_law_201 : decode cL_law 201 = .ok (.iload 5, 2) := by decide +kernel
theorem dL_law_203 : decode cL_law 203 = .ok (.ifCond .ne 15, 3) := by decide +kernel
theorem dL_law_206 : decode cL_law 206 = .ok (.aload_n 3, 1) := by decide +kernel
theorem dL_law_207 : decode cL_law 207 = .ok (.iconst 0, 1) := by decide +kernel
theorem dL_law_208 : decode cL_law 208 = .ok (.laload, 1) := by decide +kernel
theorem dL_law_209 : decode cL_law 209 = .ok (.iload 6, 2) := by decide +kernel
theorem dL_law_211 : decode cL_law 211 = .ok (.i2l, 1) := by decide +kernel
theorem dL_law_212 : decode cL_law 212 = .ok (.lcmp, 1) := by decide +kernel
theorem dL_law_213 : decode cL_law 213 = .ok (.ifCond .eq 5, 3) := by decide +kernel
theorem dL_law_216 : decode cL_law 216 = .ok (.iconst 0, 1) := by decide +kernel
theorem dL_law_217 : decode cL_law 217 = .ok (.ireturn, 1) := by decide +kernel
theorem dL_law_218 : decode cL_law 218 = .ok (.goto 440, 3) := by decide +kernel
theorem dL_law_221 : decode cL_law 221 = .ok (.aload_n 1, 1) := by decide +kernel
theorem dL_law_222 : decode cL_law 222 = .ok (.invokevirtual 55, 3) := by decide +kernel
theorem dL_law_225 : decode cL_law 225 = .ok (.aload_n 2, 1) := by decide +kernel
theorem dL_law_226 : decode cL_law 226 = .ok (.invokevirtual 58, 3) := by decide +kernel
theorem dL_law_229 : decode cL_law 229 = .ok (.if_icmp .eq 429, 3) := by decide +kernel
theorem dL_law_232 : decode cL_law 232 = .ok (.iconst 0, 1) := by decide +kernel
theorem dL_law_233 : decode cL_law 233 = .ok (.ireturn, 1) := by decide +kernel
theorem dL_law_234 : decode cL_law 234 = .ok (.aload_n 1, 1) := by decide +kernel
theorem dL_law_235 : decode cL_law 235 = .ok (.aload_n 0, 1) := by decide +kernel
theorem dL_law_236 : decode cL_law 236 = .ok (.iload 4, 2) := by decide +kernel
theorem dL_law_238 : decode cL_law 238 = .ok (.iconst 1, 1) := by decide +kernel
theorem dL_law_239 : decode cL_law 239 = .ok (.iadd, 1) := by decide +kernel
theorem dL_law_240 : decode cL_law 240 = .ok (.iaload, 1) := by decide +kernel
theorem dL_law_241 : decode cL_law 241 = .ok (.invokevirtual 59, 3) := by decide +kernel
theorem dL_law_244 : decode cL_law 244 = .ok (.aload_n 2, 1) := by decide +kernel
theorem dL_law_245 : decode cL_law 245 = .ok (.aload_n 0, 1) := by decide +kernel
theorem dL_law_246 : decode cL_law 246 = .ok (.iload 4, 2) := by decide +kernel
theorem dL_law_248 : decode cL_law 248 = .ok (.iconst 1, 1) := by decide +kernel
theorem dL_law_249 : decode cL_law 249 = .ok (.iadd, 1) := by decide +kernel
theorem dL_law_250 : decode cL_law 250 = .ok (.iaload, 1) := by decide +kernel
theorem dL_law_251 : decode cL_law 251 = .ok (.invokevirtual 63, 3) := by decide +kernel
theorem dL_law_254 : decode cL_law 254 = .ok (.if_icmp .eq 404, 3) := by decide +kernel
theorem dL_law_257 : decode cL_law 257 = .ok (.iconst 0, 1) := by decide +kernel
theorem dL_law_258 : decode cL_law 258 = .ok (.ireturn, 1) := by decide +kernel
theorem dL_law_259 : decode cL_law 259 = .ok (.aload_n 1, 1) := by decide +kernel
theorem dL_law_260 : decode cL_law 260 = .ok (.aload_n 3, 1) := by decide +kernel
theorem dL_law_261 : decode cL_law 261 = .ok (.invokestatic 64, 3) := by decide +kernel
theorem dL_law_264 : decode cL_law 264 = .ok (.istore 5, 2) := by decide +kernel
theorem dL_law_266 : decode cL_law 266 = .ok (.aload_n 2, 1) := by decide +kernel
theorem dL_law_267 : decode cL_law 267 = .ok (.invokevirtual 66, 3) := by decide +kernel
theorem dL_law_270 : decode cL_law 270 = .ok (.istore 6, 2) := by decide +kernel
theorem dL_law_272 : decode cL_law 272 = .ok (.aload_n 2, 1) := by decide +kernel
theorem dL_law_273 : decode cL_law 273 = .ok (.invokevirtual 52, 3) := by decide +kernel
theorem dL_law_276 : decode cL_law 276 = .ok (.iload 5, 2) := by decide +kernel
theorem dL_law_278 : decode cL_law 278 = .ok (.if_icmp .eq 5, 3) := by decide +kernel
theorem dL_law_281 : decode cL_law 281 = .ok (.iconst 0, 1) := by decide +kernel
theorem dL_law_282 : decode cL_law 282 = .ok (.ireturn, 1) := by decide +kernel
theorem dL_law_283 : decode cL_law 283 = .ok (.iload 5, 2) := by decide +kernel
theorem dL_law_285 : decode cL_law 285 = .ok (.ifCond .ne 15, 3) := by decide +kernel
theorem dL_law_288 : decode cL_law 288 = .ok (.aload_n 3, 1) := by decide +kernel
theorem dL_law_289 : decode cL_law 289 = .ok (.iconst 0, 1) := by decide +kernel
theorem dL_law_290 : decode cL_law 290 = .ok (.laload, 1) := by decide +kernel
theorem dL_law_291 : decode cL_law 291 = .ok (.iload 6, 2) := by decide +kernel
theorem dL_law_293 : decode cL_law 293 = .ok (.i2l, 1) := by decide +kernel
theorem dL_law_294 : decode cL_law 294 = .ok (.lcmp, 1) := by decide +kernel
theorem dL_law_295 : decode cL_law 295 = .ok (.ifCond .eq 5, 3) := by decide +kernel
theorem dL_law_298 : decode cL_law 298 = .ok (.iconst 0, 1) := by decide +kernel
theorem dL_law_299 : decode cL_law 299 = .ok (.ireturn, 1) := by decide +kernel
theorem dL_law_300 : decode cL_law 300 = .ok (.goto 358, 3) := by decide +kernel
theorem dL_law_303 : decode cL_law 303 = .ok (.aload_n 1, 1) := by decide +kernel
theorem dL_law_304 : decode cL_law 304 = .ok (.invokevirtual 67, 3) := by decide +kernel
theorem dL_law_307 : decode cL_law 307 = .ok (.aload_n 2, 1) := by decide +kernel
theorem dL_law_308 : decode cL_law 308 = .ok (.invokevirtual 70, 3) := by decide +kernel
theorem dL_law_311 : decode cL_law 311 = .ok (.if_icmp .eq 347, 3) := by decide +kernel
theorem dL_law_314 : decode cL_law 314 = .ok (.iconst 0, 1) := by decide +kernel
theorem dL_law_315 : decode cL_law 315 = .ok (.ireturn, 1) := by decide +kernel
theorem dL_law_316 : decode cL_law 316 = .ok (.aload_n 1, 1) := by decide +kernel
theorem dL_law_317 : decode cL_law 317 = .ok (.aload_n 0, 1) := by decide +kernel
theorem dL_law_318 : decode cL_law 318 = .ok (.iload 4, 2) := by decide +kernel
theorem dL_law_320 : decode cL_law 320 = .ok (.iconst 1, 1) := by decide +kernel
theorem dL_law_321 : decode cL_law 321 = .ok (.iadd, 1) := by decide +kernel
theorem dL_law_322 : decode cL_law 322 = .ok (.iaload, 1) := by decide +kernel
theorem dL_law_323 : decode cL_law 323 = .ok (.aload_n 0, 1) := by decide +kernel
theorem dL_law_324 : decode cL_law 324 = .ok (.iload 4, 2) := by decide +kernel
theorem dL_law_326 : decode cL_law 326 = .ok (.iconst 2, 1) := by decide +kernel
theorem dL_law_327 : decode cL_law 327 = .ok (.iadd, 1) := by decide +kernel
theorem dL_law_328 : decode cL_law 328 = .ok (.iaload, 1) := by decide +kernel
theorem dL_law_329 : decode cL_law 329 = .ok (.aload_n 0, 1) := by decide +kernel
theorem dL_law_330 : decode cL_law 330 = .ok (.iload 4, 2) := by decide +kernel
theorem dL_law_332 : decode cL_law 332 = .ok (.iconst 3, 1) := by decide +kernel
theorem dL_law_333 : decode cL_law 333 = .ok (.iadd, 1) := by decide +kernel
theorem dL_law_334 : decode cL_law 334 = .ok (.iaload, 1) := by decide +kernel
theorem dL_law_335 : decode cL_law 335 = .ok (.aload_n 3, 1) := by decide +kernel
theorem dL_law_336 : decode cL_law 336 = .ok (.invokestatic 71, 3) := by decide +kernel
theorem dL_law_339 : decode cL_law 339 = .ok (.istore 5, 2) := by decide +kernel
theorem dL_law_341 : decode cL_law 341 = .ok (.aload_n 2, 1) := by decide +kernel
theorem dL_law_342 : decode cL_law 342 = .ok (.aload_n 0, 1) := by decide +kernel
theorem dL_law_343 : decode cL_law 343 = .ok (.iload 4, 2) := by decide +kernel
theorem dL_law_345 : decode cL_law 345 = .ok (.iconst 1, 1) := by decide +kernel
theorem dL_law_346 : decode cL_law 346 = .ok (.iadd, 1) := by decide +kernel
theorem dL_law_347 : decode cL_law 347 = .ok (.iaload, 1) := by decide +kernel
theorem dL_law_348 : decode cL_law 348 = .ok (.aload_n 0, 1) := by decide +kernel
theorem dL_law_349 : decode cL_law 349 = .ok (.iload 4, 2) := by decide +kernel
theorem dL_law_351 : decode cL_law 351 = .ok (.iconst 2, 1) := by decide +kernel
theorem dL_law_352 : decode cL_law 352 = .ok (.iadd, 1) := by decide +kernel
theorem dL_law_353 : decode cL_law 353 = .ok (.iaload, 1) := by decide +kernel
theorem dL_law_354 : decode cL_law 354 = .ok (.aload_n 0, 1) := by decide +kernel
theorem dL_law_355 : decode cL_law 355 = .ok (.iload 4, 2) := by decide +kernel
theorem dL_law_357 : decode cL_law 357 = .ok (.iconst 3, 1) := by decide +kernel
theorem dL_law_358 : decode cL_law 358 = .ok (.iadd, 1) := by decide +kernel
theorem dL_law_359 : decode cL_law 359 = .ok (.iaload, 1) := by decide +kernel
theorem dL_law_360 : decode cL_law 360 = .ok (.invokevirtual 74, 3) := by decide +kernel
theorem dL_law_363 : decode cL_law 363 = .ok (.istore 6, 2) := by decide +kernel
theorem dL_law_365 : decode cL_law 365 = .ok (.aload_n 2, 1) := by decide +kernel
theorem dL_law_366 : decode cL_law 366 = .ok (.invokevirtual 52, 3) := by decide +kernel
theorem dL_law_369 : decode cL_law 369 = .ok (.iload 5, 2) := by decide +kernel
theorem dL_law_371 : decode cL_law 371 = .ok (.if_icmp .eq 5, 3) := by decide +kernel
theorem dL_law_374 : decode cL_law 374 = .ok (.iconst 0, 1) := by decide +kernel
theorem dL_law_375 : decode cL_law 375 = .ok (.ireturn, 1) := by decide +kernel
theorem dL_law_376 : decode cL_law 376 = .ok (.iload 5, 2) := by decide +kernel
theorem dL_law_378 : decode cL_law 378 = .ok (.ifCond .ne 15, 3) := by decide +kernel
theorem dL_law_381 : decode cL_law 381 = .ok (.aload_n 3, 1) := by decide +kernel
theorem dL_law_382 : decode cL_law 382 = .ok (.iconst 0, 1) := by decide +kernel
theorem dL_law_383 : decode cL_law 383 = .ok (.laload, 1) := by decide +kernel
theorem dL_law_384 : decode cL_law 384 = .ok (.iload 6, 2) := by decide +kernel
theorem dL_law_386 : decode cL_law 386 = .ok (.i2l, 1) := by decide +kernel
theorem dL_law_387 : decode cL_law 387 = .ok (.lcmp, 1) := by decide +kernel
theorem dL_law_388 : decode cL_law 388 = .ok (.ifCond .eq 5, 3) := by decide +kernel
theorem dL_law_391 : decode cL_law 391 = .ok (.iconst 0, 1) := by decide +kernel
theorem dL_law_392 : decode cL_law 392 = .ok (.ireturn, 1) := by decide +kernel
theorem dL_law_393 : decode cL_law 393 = .ok (.goto 265, 3) := by decide +kernel
theorem dL_law_396 : decode cL_law 396 = .ok (.aload_n 1, 1) := by decide +kernel
theorem dL_law_397 : decode cL_law 397 = .ok (.aload_n 0, 1) := by decide +kernel
theorem dL_law_398 : decode cL_law 398 = .ok (.iload 4, 2) := by decide +kernel
theorem dL_law_400 : decode cL_law 400 = .ok (.iconst 1, 1) := by decide +kernel
theorem dL_law_401 : decode cL_law 401 = .ok (.iadd, 1) := by decide +kernel
theorem dL_law_402 : decode cL_law 402 = .ok (.iaload, 1) := by decide +kernel
theorem dL_law_403 : decode cL_law 403 = .ok (.aload_n 0, 1) := by decide +kernel
theorem dL_law_404 : decode cL_law 404 = .ok (.iload 4, 2) := by decide +kernel
theorem dL_law_406 : decode cL_law 406 = .ok (.iconst 2, 1) := by decide +kernel
theorem dL_law_407 : decode cL_law 407 = .ok (.iadd, 1) := by decide +kernel
theorem dL_law_408 : decode cL_law 408 = .ok (.iaload, 1) := by decide +kernel
theorem dL_law_409 : decode cL_law 409 = .ok (.aload_n 0, 1) := by decide +kernel
theorem dL_law_410 : decode cL_law 410 = .ok (.iload 4, 2) := by decide +kernel
theorem dL_law_412 : decode cL_law 412 = .ok (.iconst 3, 1) := by decide +kernel
theorem dL_law_413 : decode cL_law 413 = .ok (.iadd, 1) := by decide +kernel
theorem dL_law_414 : decode cL_law 414 = .ok (.iaload, 1) := by decide +kernel
theorem dL_law_415 : decode cL_law 415 = .ok (.invokevirtual 75, 3) := by decide +kernel
theorem dL_law_418 : decode cL_law 418 = .ok (.aload_n 2, 1) := by decide +kernel
theorem dL_law_419 : decode cL_law 419 = .ok (.aload_n 0, 1) := by decide +kernel
theorem dL_law_420 : decode cL_law 420 = .ok (.iload 4, 2) := by decide +kernel
theorem dL_law_422 : decode cL_law 422 = .ok (.iconst 1, 1) := by decide +kernel
theorem dL_law_423 : decode cL_law 423 = .ok (.iadd, 1) := by decide +kernel
theorem dL_law_424 : decode cL_law 424 = .ok (.iaload, 1) := by decide +kernel
theorem dL_law_425 : decode cL_law 425 = .ok (.aload_n 0, 1) := by decide +kernel
theorem dL_law_426 : decode cL_law 426 = .ok (.iload 4, 2) := by decide +kernel
theorem dL_law_428 : decode cL_law 428 = .ok (.iconst 2, 1) := by decide +kernel
theorem dL_law_429 : decode cL_law 429 = .ok (.iadd, 1) := by decide +kernel
theorem dL_law_430 : decode cL_law 430 = .ok (.iaload, 1) := by decide +kernel
theorem dL_law_431 : decode cL_law 431 = .ok (.aload_n 0, 1) := by decide +kernel
theorem dL_law_432 : decode cL_law 432 = .ok (.iload 4, 2) := by decide +kernel
theorem dL_law_434 : decode cL_law 434 = .ok (.iconst 3, 1) := by decide +kernel
theorem dL_law_435 : decode cL_law 435 = .ok (.iadd, 1) := by decide +kernel
theorem dL_law_436 : decode cL_law 436 = .ok (.iaload, 1) := by decide +kernel
theorem dL_law_437 : decode cL_law 437 = .ok (.invokevirtual 78, 3) := by decide +kernel
theorem dL_law_440 : decode cL_law 440 = .ok (.if_icmp .eq 218, 3) := by decide +kernel
theorem dL_law_443 : decode cL_law 443 = .ok (.iconst 0, 1) := by decide +kernel
theorem dL_law_444 : decode cL_law 444 = .ok (.ireturn, 1) := by decide +kernel
theorem dL_law_445 : decode cL_law 445 = .ok (.aload_n 1, 1) := by decide +kernel
theorem dL_law_446 : decode cL_law 446 = .ok (.aload_n 0, 1) := by decide +kernel
theorem dL_law_447 : decode cL_law 447 = .ok (.iload 4, 2) := by decide +kernel
theorem dL_law_449 : decode cL_law 449 = .ok (.iconst 1, 1) := by decide +kernel
theorem dL_law_450 : decode cL_law 450 = .ok (.iadd, 1) := by decide +kernel
theorem dL_law_451 : decode cL_law 451 = .ok (.iaload, 1) := by decide +kernel
theorem dL_law_452 : decode cL_law 452 = .ok (.aload_n 0, 1) := by decide +kernel
theorem dL_law_453 : decode cL_law 453 = .ok (.iload 4, 2) := by decide +kernel
theorem dL_law_455 : decode cL_law 455 = .ok (.iconst 2, 1) := by decide +kernel
theorem dL_law_456 : decode cL_law 456 = .ok (.iadd, 1) := by decide +kernel
theorem dL_law_457 : decode cL_law 457 = .ok (.iaload, 1) := by decide +kernel
theorem dL_law_458 : decode cL_law 458 = .ok (.invokevirtual 79, 3) := by decide +kernel
theorem dL_law_461 : decode cL_law 461 = .ok (.aload_n 2, 1) := by decide +kernel
theorem dL_law_462 : decode cL_law 462 = .ok (.aload_n 0, 1) := by decide +kernel
theorem dL_law_463 : decode cL_law 463 = .ok (.iload 4, 2) := by decide +kernel
theorem dL_law_465 : decode cL_law 465 = .ok (.iconst 1, 1) := by decide +kernel
theorem dL_law_466 : decode cL_law 466 = .ok (.iadd, 1) := by decide +kernel
theorem dL_law_467 : decode cL_law 467 = .ok (.iaload, 1) := by decide +kernel
theorem dL_law_468 : decode cL_law 468 = .ok (.aload_n 0, 1) := by decide +kernel
theorem dL_law_469 : decode cL_law 469 = .ok (.iload 4, 2) := by decide +kernel
theorem dL_law_471 : decode cL_law 471 = .ok (.iconst 2, 1) := by decide +kernel
theorem dL_law_472 : decode cL_law 472 = .ok (.iadd, 1) := by decide +kernel
theorem dL_law_473 : decode cL_law 473 = .ok (.iaload, 1) := by decide +kernel
theorem dL_law_474 : decode cL_law 474 = .ok (.invokevirtual 83, 3) := by decide +kernel
theorem dL_law_477 : decode cL_law 477 = .ok (.if_icmp .eq 181, 3) := by decide +kernel
theorem dL_law_480 : decode cL_law 480 = .ok (.iconst 0, 1) := by decide +kernel
theorem dL_law_481 : decode cL_law 481 = .ok (.ireturn, 1) := by decide +kernel
theorem dL_law_482 : decode cL_law 482 = .ok (.aload_n 1, 1) := by decide +kernel
theorem dL_law_483 : decode cL_law 483 = .ok (.aload_n 0, 1) := by decide +kernel
theorem dL_law_484 : decode cL_law 484 = .ok (.iload 4, 2) := by decide +kernel
theorem dL_law_486 : decode cL_law 486 = .ok (.iconst 1, 1) := by decide +kernel
theorem dL_law_487 : decode cL_law 487 = .ok (.iadd, 1) := by decide +kernel
theorem dL_law_488 : decode cL_law 488 = .ok (.iaload, 1) := by decide +kernel
theorem dL_law_489 : decode cL_law 489 = .ok (.invokevirtual 84, 3) := by decide +kernel
theorem dL_law_492 : decode cL_law 492 = .ok (.aload_n 2, 1) := by decide +kernel
theorem dL_law_493 : decode cL_law 493 = .ok (.aload_n 0, 1) := by decide +kernel
theorem dL_law_494 : decode cL_law 494 = .ok (.iload 4, 2) := by decide +kernel
theorem dL_law_496 : decode cL_law 496 = .ok (.iconst 1, 1) := by decide +kernel
theorem dL_law_497 : decode cL_law 497 = .ok (.iadd, 1) := by decide +kernel
theorem dL_law_498 : decode cL_law 498 = .ok (.iaload, 1) := by decide +kernel
theorem dL_law_499 : decode cL_law 499 = .ok (.invokevirtual 88, 3) := by decide +kernel
theorem dL_law_502 : decode cL_law 502 = .ok (.if_icmp .eq 156, 3) := by decide +kernel
theorem dL_law_505 : decode cL_law 505 = .ok (.iconst 0, 1) := by decide +kernel
theorem dL_law_506 : decode cL_law 506 = .ok (.ireturn, 1) := by decide +kernel
theorem dL_law_507 : decode cL_law 507 = .ok (.aload_n 1, 1) := by decide +kernel
theorem dL_law_508 : decode cL_law 508 = .ok (.invokevirtual 89, 3) := by decide +kernel
theorem dL_law_511 : decode cL_law 511 = .ok (.aload_n 2, 1) := by decide +kernel
theorem dL_law_512 : decode cL_law 512 = .ok (.invokevirtual 92, 3) := by decide +kernel
theorem dL_law_515 : decode cL_law 515 = .ok (.if_icmp .eq 143, 3) := by decide +kernel
theorem dL_law_518 : decode cL_law 518 = .ok (.iconst 0, 1) := by decide +kernel
theorem dL_law_519 : decode cL_law 519 = .ok (.ireturn, 1) := by decide +kernel
theorem dL_law_520 : decode cL_law 520 = .ok (.aload_n 1, 1) := by decide +kernel
theorem dL_law_521 : decode cL_law 521 = .ok (.aload_n 0, 1) := by decide +kernel
theorem dL_law_522 : decode cL_law 522 = .ok (.iload 4, 2) := by decide +kernel
theorem dL_law_524 : decode cL_law 524 = .ok (.iconst 1, 1) := by decide +kernel
theorem dL_law_525 : decode cL_law 525 = .ok (.iadd, 1) := by decide +kernel
theorem dL_law_526 : decode cL_law 526 = .ok (.iaload, 1) := by decide +kernel
theorem dL_law_527 : decode cL_law 527 = .ok (.invokevirtual 93, 3) := by decide +kernel
theorem dL_law_530 : decode cL_law 530 = .ok (.aload_n 2, 1) := by decide +kernel
theorem dL_law_531 : decode cL_law 531 = .ok (.aload_n 0, 1) := by decide +kernel
theorem dL_law_532 : decode cL_law 532 = .ok (.iload 4, 2) := by decide +kernel
theorem dL_law_534 : decode cL_law 534 = .ok (.iconst 1, 1) := by decide +kernel
theorem dL_law_535 : decode cL_law 535 = .ok (.iadd, 1) := by decide +kernel
theorem dL_law_536 : decode cL_law 536 = .ok (.iaload, 1) := by decide +kernel
theorem dL_law_537 : decode cL_law 537 = .ok (.invokevirtual 96, 3) := by decide +kernel
theorem dL_law_540 : decode cL_law 540 = .ok (.if_icmp .eq 118, 3) := by decide +kernel
theorem dL_law_543 : decode cL_law 543 = .ok (.iconst 0, 1) := by decide +kernel
theorem dL_law_544 : decode cL_law 544 = .ok (.ireturn, 1) := by decide +kernel
theorem dL_law_545 : decode cL_law 545 = .ok (.aload_n 1, 1) := by decide +kernel
theorem dL_law_546 : decode cL_law 546 = .ok (.aload_n 0, 1) := by decide +kernel
theorem dL_law_547 : decode cL_law 547 = .ok (.iload 4, 2) := by decide +kernel
theorem dL_law_549 : decode cL_law 549 = .ok (.iconst 1, 1) := by decide +kernel
theorem dL_law_550 : decode cL_law 550 = .ok (.iadd, 1) := by decide +kernel
theorem dL_law_551 : decode cL_law 551 = .ok (.iaload, 1) := by decide +kernel
theorem dL_law_552 : decode cL_law 552 = .ok (.i2l, 1) := by decide +kernel
theorem dL_law_553 : decode cL_law 553 = .ok (.bipush 32, 2) := by decide +kernel
theorem dL_law_555 : decode cL_law 555 = .ok (.lshl, 1) := by decide +kernel
theorem dL_law_556 : decode cL_law 556 = .ok (.aload_n 0, 1) := by decide +kernel
theorem dL_law_557 : decode cL_law 557 = .ok (.iload 4, 2) := by decide +kernel
theorem dL_law_559 : decode cL_law 559 = .ok (.iconst 2, 1) := by decide +kernel
theorem dL_law_560 : decode cL_law 560 = .ok (.iadd, 1) := by decide +kernel
theorem dL_law_561 : decode cL_law 561 = .ok (.iaload, 1) := by decide +kernel
theorem dL_law_562 : decode cL_law 562 = .ok (.i2l, 1) := by decide +kernel
theorem dL_law_563 : decode cL_law 563 = .ok (.ldc2_w 41, 3) := by decide +kernel
theorem dL_law_566 : decode cL_law 566 = .ok (.land, 1) := by decide +kernel
theorem dL_law_567 : decode cL_law 567 = .ok (.lor, 1) := by decide +kernel
theorem dL_law_568 : decode cL_law 568 = .ok (.aload_n 0, 1) := by decide +kernel
theorem dL_law_569 : decode cL_law 569 = .ok (.iload 4, 2) := by decide +kernel
theorem dL_law_571 : decode cL_law 571 = .ok (.iconst 3, 1) := by decide +kernel
theorem dL_law_572 : decode cL_law 572 = .ok (.iadd, 1) := by decide +kernel
theorem dL_law_573 : decode cL_law 573 = .ok (.iaload, 1) := by decide +kernel
theorem dL_law_574 : decode cL_law 574 = .ok (.invokevirtual 97, 3) := by decide +kernel
theorem dL_law_577 : decode cL_law 577 = .ok (.aload_n 2, 1) := by decide +kernel
theorem dL_law_578 : decode cL_law 578 = .ok (.aload_n 0, 1) := by decide +kernel
theorem dL_law_579 : decode cL_law 579 = .ok (.iload 4, 2) := by decide +kernel
theorem dL_law_581 : decode cL_law 581 = .ok (.iconst 1, 1) := by decide +kernel
theorem dL_law_582 : decode cL_law 582 = .ok (.iadd, 1) := by decide +kernel
theorem dL_law_583 : decode cL_law 583 = .ok (.iaload, 1) := by decide +kernel
theorem dL_law_584 : decode cL_law 584 = .ok (.i2l, 1) := by decide +kernel
theorem dL_law_585 : decode cL_law 585 = .ok (.bipush 32, 2) := by decide +kernel
theorem dL_law_587 : decode cL_law 587 = .ok (.lshl, 1) := by decide +kernel
theorem dL_law_588 : decode cL_law 588 = .ok (.aload_n 0, 1) := by decide +kernel
theorem dL_law_589 : decode cL_law 589 = .ok (.iload 4, 2) := by decide +kernel
theorem dL_law_591 : decode cL_law 591 = .ok (.iconst 2, 1) := by decide +kernel
theorem dL_law_592 : decode cL_law 592 = .ok (.iadd, 1) := by decide +kernel
theorem dL_law_593 : decode cL_law 593 = .ok (.iaload, 1) := by decide +kernel
theorem dL_law_594 : decode cL_law 594 = .ok (.i2l, 1) := by decide +kernel
theorem dL_law_595 : decode cL_law 595 = .ok (.ldc2_w 41, 3) := by decide +kernel
theorem dL_law_598 : decode cL_law 598 = .ok (.land, 1) := by decide +kernel
theorem dL_law_599 : decode cL_law 599 = .ok (.lor, 1) := by decide +kernel
theorem dL_law_600 : decode cL_law 600 = .ok (.aload_n 0, 1) := by decide +kernel
theorem dL_law_601 : decode cL_law 601 = .ok (.iload 4, 2) := by decide +kernel
theorem dL_law_603 : decode cL_law 603 = .ok (.iconst 3, 1) := by decide +kernel
theorem dL_law_604 : decode cL_law 604 = .ok (.iadd, 1) := by decide +kernel
theorem dL_law_605 : decode cL_law 605 = .ok (.iaload, 1) := by decide +kernel
theorem dL_law_606 : decode cL_law 606 = .ok (.invokevirtual 101, 3) := by decide +kernel
theorem dL_law_609 : decode cL_law 609 = .ok (.if_icmp .eq 49, 3) := by decide +kernel
theorem dL_law_612 : decode cL_law 612 = .ok (.iconst 0, 1) := by decide +kernel
theorem dL_law_613 : decode cL_law 613 = .ok (.ireturn, 1) := by decide +kernel
theorem dL_law_614 : decode cL_law 614 = .ok (.aload_n 1, 1) := by decide +kernel
theorem dL_law_615 : decode cL_law 615 = .ok (.aload_n 3, 1) := by decide +kernel
theorem dL_law_616 : decode cL_law 616 = .ok (.invokestatic 102, 3) := by decide +kernel
theorem dL_law_619 : decode cL_law 619 = .ok (.istore 5, 2) := by decide +kernel
theorem dL_law_621 : decode cL_law 621 = .ok (.aload_n 2, 1) := by decide +kernel
theorem dL_law_622 : decode cL_law 622 = .ok (.invokevirtual 104, 3) := by decide +kernel
theorem dL_law_625 : decode cL_law 625 = .ok (.istore 6, 2) := by decide +kernel
theorem dL_law_627 : decode cL_law 627 = .ok (.aload_n 2, 1) := by decide +kernel
theorem dL_law_628 : decode cL_law 628 = .ok (.invokevirtual 52, 3) := by decide +kernel
theorem dL_law_631 : decode cL_law 631 = .ok (.iload 5, 2) := by decide +kernel
theorem dL_law_633 : decode cL_law 633 = .ok (.if_icmp .eq 5, 3) := by decide +kernel
theorem dL_law_636 : decode cL_law 636 = .ok (.iconst 0, 1) := by decide +kernel
theorem dL_law_637 : decode cL_law 637 = .ok (.ireturn, 1) := by decide +kernel
theorem dL_law_638 : decode cL_law 638 = .ok (.iload 5, 2) := by decide +kernel
theorem dL_law_640 : decode cL_law 640 = .ok (.ifCond .ne 15, 3) := by decide +kernel
theorem dL_law_643 : decode cL_law 643 = .ok (.aload_n 3, 1) := by decide +kernel
theorem dL_law_644 : decode cL_law 644 = .ok (.iconst 0, 1) := by decide +kernel
theorem dL_law_645 : decode cL_law 645 = .ok (.laload, 1) := by decide +kernel
theorem dL_law_646 : decode cL_law 646 = .ok (.iload 6, 2) := by decide +kernel
theorem dL_law_648 : decode cL_law 648 = .ok (.i2l, 1) := by decide +kernel
theorem dL_law_649 : decode cL_law 649 = .ok (.lcmp, 1) := by decide +kernel
theorem dL_law_650 : decode cL_law 650 = .ok (.ifCond .eq 5, 3) := by decide +kernel
theorem dL_law_653 : decode cL_law 653 = .ok (.iconst 0, 1) := by decide +kernel
theorem dL_law_654 : decode cL_law 654 = .ok (.ireturn, 1) := by decide +kernel
theorem dL_law_655 : decode cL_law 655 = .ok (.goto 3, 3) := by decide +kernel
theorem dL_law_658 : decode cL_law 658 = .ok (.iinc 4 4, 3) := by decide +kernel
theorem dL_law_661 : decode cL_law 661 = .ok (.goto (-628), 3) := by decide +kernel
theorem dL_law_664 : decode cL_law 664 = .ok (.iconst 1, 1) := by decide +kernel
theorem dL_law_665 : decode cL_law 665 = .ok (.ireturn, 1) := by decide +kernel
end
section
/-! THE LOGIC: Ex, a walk over an abstract heap (size, cells by address); ES, a method's contract in its words. -/
def egood : List Cond := lw_tbl.filter goodWord
theorem eg (i : Nat) {w : Cond} (h : lw_tbl[i]? = some w) (g : goodWord w = true) : w ∈ egood := List.mem_filter.mpr ⟨List.mem_of_getElem? h, g⟩
theorem egood_all : GoodIn egood egood := fun w h => ⟨h, good_of_word (List.mem_filter.mp h).2⟩
abbrev EM : Type := MethodName × ByteArray × Nat × Option FieldType × List (Nat × Nat × Nat × Nat)
abbrev eY (M : EM) : MethodName := M.1
abbrev eC (M : EM) : ByteArray := M.2.1
abbrev eL (M : EM) : Nat := M.2.2.1
abbrev eR (M : EM) : Option FieldType := M.2.2.2.1
abbrev eTb (M : EM) : List (Nat × Nat × Nat × Nat) := M.2.2.2.2
/-- class numbers and slots, array classes, addresses of constants, the heap's size at the law's start, the script, Preconditions' formatter -/
abbrev EG : Type := va_G × (Nat → ClassId) × (Nat → Nat) × Nat × (Nat × Nat × (Nat → Int32)) × Option Nat
def eD (G : EG) : va_G := G.1
def eA (G : EG) : Nat → ClassId := G.2.1
def ead (G : EG) : Nat → Nat := G.2.2.1
def eb (G : EG) : Nat := G.2.2.2.1
def esc (G : EG) : Nat × Nat × (Nat → Int32) := G.2.2.2.2.1
def efm (G : EG) : Option Nat := G.2.2.2.2.2
def eF (G : EG) : Nat → Prop := fun q => eb G ≤ q
def etys (G : EG) : List (ClassId × FieldType) := [(eA G 0, .int), (eA G 1, .long), (eA G 2, .char), (eA G 3, .boolean), (eA G 4, .object "PolicyDesk$Statement")]
abbrev EH : Type := Nat × (Nat → Option va_E)
def eRel (G : EG) (h : EH) (H : Heap) : Prop := H.size = h.1 ∧ eb G ≤ h.1 ∧ ∀ (a : Nat) (e : va_E), h.2 a = some e → va_at (eD G) vwCl (a, e) H ∧ eb G ≤ a
def hup (h : EH) (a : Nat) (e : va_E) : EH := (h.1, fun b => if b = a then some e else h.2 b)
def hnew (h : EH) (e : va_E) : EH := (h.1 + 1, fun b => if b = h.1 then some e else h.2 b)
-- what the constants hold
def kNames : List Int32 := [1, 1, 3, 3, 4, 1, 1, 1, 1]
def kFewest : List Int32 := [1, 0, 1, 1, 0, 0, 1, 1, 1]
def kMost : List Int32 := [6, 4, 6, 6, 0, 0, 6, 6, 6]
def kMarks : List Nat := [9, 9, 9, 9, 9, 10, 11, 9, 9]
def kStr : List (List Int32) := [[99, 108, 97, 115, 115], [116, 121, 112, 101], [97, 108, 108, 111, 119], [110, 101, 118, 101, 114], [109, 97, 107, 101], [114, 97, 110, 107], [110, 101, 101, 100], [115, 101, 101, 115], [112, 117, 116, 115], [], [48, 49, 50, 51, 52, 53, 54, 55], [62, 61, 60]]
def kCon : List String := ["CLASS", "TYPE", "ALLOW", "NEVER", "MAKE", "RANK", "NEED", "SEES", "PUTS"]
def kMsg : List (Nat × String) := [(98, "the text is no statement"), (109, "the draft is full"), (122, "the draft is wrong"), (134, "the draft is against itself"), (145, "no such type or class"), (215, "what was fed is no image")]
def eZ (G : EG) : List (String × String × String × Value) := (List.range 9).map (fun i => ("PolicyDesk$Kind", kCon.getD i "", "LPolicyDesk$Kind;", Value.ref (ead G i))) ++ [("PolicyDesk", "KINDS", "[LPolicyDesk$Kind;", .ref (ead G 9)), ("PolicyDesk$1", "$SwitchMap$PolicyDesk$Kind", "[I", .ref (ead G 10)), ("java/lang/String", "COMPACT_STRINGS", "Z", .int 1), ("jdk/internal/util/Preconditions", "SIOOBE_FORMATTER", "Ljava/util/function/BiFunction;", va_rf (efm G))]
def eO (G : EG) : List (String × Nat) := (List.range 9).map (fun i => ("PolicyDesk$Kind", ead G i)) ++ (List.range 12).map (fun i => ("java/lang/String", ead G (16 + i)))
def eO1 (G : EG) (i : Nat) : List (String × String × String × Value × Nat) := [("PolicyDesk$Kind", "word", "Ljava/lang/String;", .ref (ead G (16 + i)), ead G i), ("PolicyDesk$Kind", "names", "I", .int (kNames.getD i 0), ead G i), ("PolicyDesk$Kind", "marks", "Ljava/lang/String;", .ref (ead G (16 + kMarks.getD i 0)), ead G i), ("PolicyDesk$Kind", "fewest", "I", .int (kFewest.getD i 0), ead G i), ("PolicyDesk$Kind", "most", "I", .int (kMost.getD i 0), ead G i), ("java/lang/Enum", "ordinal", "I", .int (nI i), ead G i)]
def eO2 (G : EG) (i : Nat) : List (String × String × String × Value × Nat) := [("java/lang/String", "value", "[B", .ref (ead G (32 + i)), ead G (16 + i)), ("java/lang/String", "coder", "B", .int 0, ead G (16 + i))]
def eOF (G : EG) (z : String × String × String × Value × Nat) : Prop := (∃ i, i < 9 ∧ z ∈ eO1 G i) ∨ ∃ i, i < 12 ∧ z ∈ eO2 G i
def eT (G : EG) (z : FieldType × Nat × Nat × (Nat → Value)) : Prop := z = (.int, (esc G).1, (esc G).2.1, fun j => .int ((esc G).2.2 j)) ∨ z = (.int, ead G 10, 9, fun j => .int (nI (j + 1))) ∨ z = (.object "PolicyDesk$Kind", ead G 9, 9, fun j => .ref (ead G j)) ∨ ∃ i, i < 12 ∧ z = (.byte, ead G (32 + i), (kStr.getD i []).length, fun j => .int ((kStr.getD i []).getD j 0))
def eStat (G : EG) (U : State) (H : Heap) : Prop := (∀ z ∈ eZ G, va_Z z.1 z.2.1 z.2.2.1 z.2.2.2 (eF G) U H) ∧ (∀ z ∈ eO G, va_O z.1 z.2 (eF G) U H) ∧ (∀ z, eOF G z → va_OF z.1 z.2.1 z.2.2.1 z.2.2.2.1 z.2.2.2.2 (eF G) U H) ∧ (∀ z, eT G z → va_T z.1 z.2.1 z.2.2.1 z.2.2.2 (eF G) U H) ∧ vx_Zq Bundle.tN "UNASSIGNED_STACK" Bundle.steD (eF G) U H ∧ vx_Zq Bundle.tN "SUPPRESSED_SENTINEL" Bundle.listD (eF G) U H
theorem eStat.moved {G : EG} {u U : State} {H : Heap} (hvm : u.vm.Alike U.vm) (h : eStat G u H) : eStat G U H := ⟨fun z hz => va_Z.moved hvm (h.1 z hz), fun z hz => va_O.moved hvm (h.2.1 z hz), fun z hz => va_OF.moved hvm (h.2.2.1 z hz), fun z hz => va_T.moved hvm (h.2.2.2.1 z hz), vx_Zq.moved hvm h.2.2.2.2.1, vx_Zq.moved hvm h.2.2.2.2.2⟩
theorem eStat.kept {G : EG} {U : State} {H H1 : Heap} (h : eStat G U H) (hq : ∀ a : Nat, a < H.size → ¬ eF G a → H1[a]? = H[a]?) : eStat G U H1 := ⟨fun z hz => (h.1 z hz).kept hq, fun z hz => (h.2.1 z hz).kept hq, fun z hz => (h.2.2.1 z hz).kept hq, fun z hz => (h.2.2.2.1 z hz).kept hq, vx_Zq.kept h.2.2.2.2.1 hq, vx_Zq.kept h.2.2.2.2.2 hq⟩
def eMsg (G : EG) (U : State) : Prop := ∀ i, i < 6 → vk_R "PolicyDesk" (kMsg.getD i (0, "")).1 (kMsg.getD i (0, "")).2 (ead G (48 + i)) U
/-- what is kept of a state beside its heap's cells -/
def eNst (U : State) : Prop := (∀ (a : String) (i : Nat) (x : MethodName) (h : String), Cond.methodLinkNest a i x h ∈ lw_tbl → va_Nw (.methodLinkNest a i x h) U) ∧ (∀ (a : String) (i : Nat) (b n d h : String), Cond.fieldLinkNest a i b n d h ∈ lw_tbl → va_Nw (.fieldLinkNest a i b n d h) U) ∧ (∀ C T : String, Cond.castable C T ∈ lw_tbl → va_Nw (.castable C T) U) ∧ va_Nc "java/lang/IllegalStateException" "java/lang/IllegalArgumentException" U
theorem eNst.warm {s U : State} (hW : s.WarmedH U.vm) (h : eNst s) : eNst U := ⟨fun a i x o hh => va_Nw.warmM hW (h.1 a i x o hh), fun a i b n d o hh => va_Nw.warmF hW (h.2.1 a i b n d o hh), fun C T hh => va_Nw.warmC hW (h.2.2.1 C T hh), h.2.2.2.moved hW.alike⟩
theorem eNst.same {s U : State} (hv : s.vm = U.vm) (h : eNst s) : eNst U := ⟨fun a i x o hh => va_Nw.same rfl hv (h.1 a i x o hh), fun a i b n d o hh => va_Nw.same rfl hv (h.2.1 a i b n d o hh), fun C T hh => va_Nw.same rfl hv (h.2.2.1 C T hh), h.2.2.2.moved (by rw [hv]; exact Vm.Alike.refl _)⟩
def eW (G : EG) (U : State) : Prop := va_K (eD G) vwCl (etys G) U ∧ eStat G U U.heap ∧ eMsg G U ∧ (Cond.arrayOver (.object "PolicyDesk$Statement")).before #[] U = true ∧ eb G ≤ U.heap.size ∧ eNst U
def erm (d mc ms : Nat) : Room := { frames := d, cells := mc, slots := ms, locals := 38 * d }
def eQ (G : EG) (Q : Option Value → EH → Prop) : Array Value → State → Outcome → State → Prop := fun _ st o t => ∃ (v : Option Value) (h : EH), o = .returned v ∧ Q v h ∧ eRel G h t.heap ∧ va_F (eF G) st t
def eX (G : EG) (X : String → EH → Prop) : String → State → State → Prop := fun E st t => ∃ h : EH, X E h ∧ eRel G h t.heap ∧ va_F (eF G) st t
def eCtx (G : EG) (M : EM) (p : Program) (s : State) (m : MethodId) (args : Array Value) (meth : Method) (c : Code) : Prop :=
  p.tables.exec = Jvm.exec ∧ c.code = eC M ∧ c.maxLocals = eL M ∧ s.vm.findClass (eY M).cls = some m.cls ∧ (∀ w ∈ egood, w.before args s = true) ∧ meth.sig.returnType = eR M ∧ meth.locks = false ∧ (meth.name = (eY M).name ∧ c.exceptionTable.toList = tableOf (eTb M)) ∧ eW G s
/-- the walk from pc, with locals lv, stack st, abstract heap h, k cells and n slots still to be made: it returns with Q or throws with X -/
def Ex (G : EG) (l : Launch) (d : Nat) (M : EM) (Q : Option Value → EH → Prop) (X : String → EH → Prop) (k n pc : Nat) (lv : List (Nat × Value)) (st : List Value) (h : EH) : Prop :=
  ∀ (p : Program) (e : Env) (s : State) (m : MethodId) (args : Array Value) (below : List Frame) (meth : Method) (c : Code) (H : Heap) (locs : List Loc) (ls : Array Slot) (cells slots mc ms : Nat),
    eCtx G M p s m args meth c → eRel G h H → va_S (eF G) s.heap H locs → lv_has ls (eL M) lv → cells + k = mc → slots + n = ms →
    W p l e (erm d mc ms) s m args below meth c H locs cells slots (vx_MQ below (eQ G Q) (eX G X) args s mc ms (eF G)) (F0 m pc ls st)
def ews (M : EM) : List Cond := (match eTb M with
  | [] => Cond.code (eY M) (eC M) (eL M) (eR M)
  | hh => Cond.codeWith (eY M) (eC M) (eL M) (eR M) hh) :: egood
/-- a method's contract -/
def ES (G : EG) (l : Launch) (d : Nat) (M : EM) (As : List Value) (h : EH) (mc ms : Nat) (Q : Option Value → EH → Prop) (X : String → EH → Prop) : Prop :=
  vx_Met l (eY M) (ews M) (erm d mc ms) (va_Pc As (fun U => eRel G h U.heap ∧ eW G U)) (eQ G Q) (eX G X) mc ms (eF G)
def eNoX : String → EH → Prop := fun _ _ => False
-- locals
def lget : List (Nat × Value) → Nat → Option Value
  | [], _ => none
  | (i, v) :: t, k => match Nat.beq i k with
    | true => some v
    | false => lget t k
theorem lget_mem {l : List (Nat × Value)} {k : Nat} {v : Value} (h : lget l k = some v) : (k, v) ∈ l := by
  induction l with
  | nil => cases h
  | cons q t ih =>
    obtain ⟨i, w⟩ := q
    unfold lget at h
    cases hb : Nat.beq i k with
    | true =>
      rw [hb] at h
      have hi : i = k := Nat.eq_of_beq_eq_true hb
      cases h
      subst hi
      exact List.mem_cons_self
    | false =>
      rw [hb] at h
      exact List.mem_cons_of_mem _ (ih h)
def lset : List (Nat × Value) → Nat → Value → List (Nat × Value)
  | [], i, v => [(i, v)]
  | (j, w) :: t, i, v => match Nat.beq j i with
    | true => (i, v) :: t.filter (fun q => !(Nat.beq q.1 i))
    | false => (j, w) :: lset t i v
/-- none holds a wide value just ahead of i -/
def lfree : List (Nat × Value) → Nat → Bool
  | [], _ => true
  | (j, w) :: t, i => match Nat.beq (j + 1) i with
    | true => (match w.category with
      | 1 => lfree t i
      | _ => false)
    | false => lfree t i
theorem lset_mem {l : List (Nat × Value)} {i : Nat} {v : Value} {q : Nat × Value} (h : q ∈ lset l i v) : q = (i, v) ∨ (q ∈ l ∧ q.1 ≠ i) := by
  induction l with
  | nil => exact Or.inl (List.mem_singleton.mp h)
  | cons r t ih =>
    obtain ⟨j, w⟩ := r
    unfold lset at h
    cases hb : Nat.beq j i with
    | true =>
      rw [hb] at h
      rcases List.mem_cons.mp h with h | h
      · exact Or.inl h
      · obtain ⟨h1, h2⟩ := List.mem_filter.mp h
        refine Or.inr ⟨List.mem_cons_of_mem _ h1, fun hq => ?_⟩
        rw [hq] at h2
        simp at h2
    | false =>
      rw [hb] at h
      rcases List.mem_cons.mp h with h | h
      · refine Or.inr ⟨by rw [h]; exact List.mem_cons_self, fun hq => ?_⟩
        rw [h] at hq
        rw [show j = i from hq] at hb
        simp at hb
      · rcases ih h with h | h
        · exact Or.inl h
        · exact Or.inr ⟨List.mem_cons_of_mem _ h.1, h.2⟩
theorem lfree_spec {l : List (Nat × Value)} {i : Nat} (h : lfree l i = true) {q : Nat × Value} (hq : q ∈ l) : ¬ (q.1 + 1 = i ∧ q.2.category = 2) := by
  induction l with
  | nil => cases hq
  | cons r t ih =>
    obtain ⟨j, w⟩ := r
    unfold lfree at h
    rcases List.mem_cons.mp hq with e | e
    · subst e
      rintro ⟨e1, e2⟩
      rw [show Nat.beq (j + 1) i = true from by rw [show j + 1 = i from e1]; simp] at h
      rw [show w.category = 2 from e2] at h
      cases h
    · refine ih ?_ e
      cases hb : Nat.beq (j + 1) i with
      | true =>
        rw [hb] at h
        rcases lv_cat w with e1 | e1
        · rw [e1] at h; exact h
        · rw [e1] at h; cases h
      | false => rw [hb] at h; exact h
theorem lset_has {ls : Array Slot} {nL i : Nat} {v : Value} {l : List (Nat × Value)} (hf : lfree l i = true) (h : lv_has ls nL ((i, v) :: l.filter (fun q => !(q.1 == i) && !(q.1 + 1 == i && q.2.category == 2)))) : lv_has ls nL (lset l i v) := by
  refine ⟨h.1, h.2.1, fun q hq => h.2.2 q ?_⟩
  rcases lset_mem hq with e | ⟨e1, e2⟩
  · rw [e]; exact List.mem_cons_self
  · refine List.mem_cons_of_mem _ (List.mem_filter.mpr ⟨e1, ?_⟩)
    have := lfree_spec hf e1
    simp [e2]
    omega
theorem lv_of {ls : Array Slot} {nL i : Nat} {v : Value} {l : List (Nat × Value)} (h : lv_has ls nL l) (hg : lget l i = some v) : ls[i]? = some (.val v) := h.2.2 (i, v) (lget_mem hg)
/-- the locals in another order, or fewer of them -/
def lall (l : List (Nat × Value)) : List (Nat × Value) → Prop
  | [] => True
  | (i, v) :: t => lget l i = some v ∧ lall l t
theorem lall_mem {l l' : List (Nat × Value)} (h : lall l l') {q : Nat × Value} (hq : q ∈ l') : q ∈ l := by
  induction l' with
  | nil => cases hq
  | cons r t ih =>
    obtain ⟨i, v⟩ := r
    rcases List.mem_cons.mp hq with e | e
    · rw [e]; exact lget_mem h.1
    · exact ih h.2 e

section EXR
variable {G : EG} {l : Launch} {d : Nat} {M : EM} {Q : Option Value → EH → Prop} {X : String → EH → Prop} {k n pc : Nat} {lv : List (Nat × Value)} {rest st : List Value} {h : EH}
theorem ex_iconst {z : Int} {v : Int32} (hv : Int32.ofInt z = v) (hd : decode (eC M) pc = .ok (.iconst z, 1)) (kk : Ex G l d M Q X k n (pc + 1) lv (.int v :: rest) h) : Ex G l d M Q X k n pc lv (rest) h := by
  intro p e s m args below meth c H locs ls cells slots mc ms C R S L e1 e2
  exact lv_iconst C.1 C.2.1 hd hv (kk p e s m args below meth c H locs ls cells slots mc ms C R S L e1 e2)
theorem ex_bipush {z : Int} {v : Int32} (hv : (Int8.ofInt z).toInt32 = v) (hd : decode (eC M) pc = .ok (.bipush z, 2)) (kk : Ex G l d M Q X k n (pc + 2) lv (.int v :: rest) h) : Ex G l d M Q X k n pc lv (rest) h := by
  intro p e s m args below meth c H locs ls cells slots mc ms C R S L e1 e2
  exact lv_bipush C.1 C.2.1 hd hv (kk p e s m args below meth c H locs ls cells slots mc ms C R S L e1 e2)
theorem ex_sipush {z : Int} {v : Int32} (hv : (Int16.ofInt z).toInt32 = v) (hd : decode (eC M) pc = .ok (.sipush z, 3)) (kk : Ex G l d M Q X k n (pc + 3) lv (.int v :: rest) h) : Ex G l d M Q X k n pc lv (rest) h := by
  intro p e s m args below meth c H locs ls cells slots mc ms C R S L e1 e2
  exact lv_sipush C.1 C.2.1 hd hv (kk p e s m args below meth c H locs ls cells slots mc ms C R S L e1 e2)
theorem ex_ldc {i : Nat} {v : Int32} (hc : Cond.constant (eY M).cls i v ∈ egood) (hd : decode (eC M) pc = .ok (.ldc i, 2)) (kk : Ex G l d M Q X k n (pc + 2) lv (.int v :: rest) h) : Ex G l d M Q X k n pc lv (rest) h := by
  intro p e s m args below meth c H locs ls cells slots mc ms C R S L e1 e2
  exact lv_ldc C.1 C.2.1 C.2.2.2.1 (C.2.2.2.2.1 _ hc) hd (kk p e s m args below meth c H locs ls cells slots mc ms C R S L e1 e2)
theorem ex_ldc2 {i : Nat} {v : Int64} (hc : Cond.constantLong (eY M).cls i v ∈ egood) (hd : decode (eC M) pc = .ok (.ldc2_w i, 3)) (kk : Ex G l d M Q X k n (pc + 3) lv (.long v :: rest) h) : Ex G l d M Q X k n pc lv (rest) h := by
  intro p e s m args below meth c H locs ls cells slots mc ms C R S L e1 e2
  exact lv_ldc2 C.1 C.2.1 C.2.2.2.1 (C.2.2.2.2.1 _ hc) hd (kk p e s m args below meth c H locs ls cells slots mc ms C R S L e1 e2)
theorem ex_iload_n {i : Fin 4} {x : Int32} (hl : lget lv i = some (.int x)) (hd : decode (eC M) pc = .ok (.iload_n i, 1)) (kk : Ex G l d M Q X k n (pc + 1) lv (.int x :: rest) h) : Ex G l d M Q X k n pc lv (rest) h := by
  intro p e s m args below meth c H locs ls cells slots mc ms C R S L e1 e2
  exact lv_iload_n C.1 C.2.1 hd rfl (lv_of L hl) (kk p e s m args below meth c H locs ls cells slots mc ms C R S L e1 e2)
theorem ex_iload {i : Nat} {x : Int32} (hl : lget lv i = some (.int x)) (hd : decode (eC M) pc = .ok (.iload i, 2)) (kk : Ex G l d M Q X k n (pc + 2) lv (.int x :: rest) h) : Ex G l d M Q X k n pc lv (rest) h := by
  intro p e s m args below meth c H locs ls cells slots mc ms C R S L e1 e2
  exact lv_iload C.1 C.2.1 hd (lv_of L hl) (kk p e s m args below meth c H locs ls cells slots mc ms C R S L e1 e2)
theorem ex_lload_n {i : Fin 4} {x : Int64} (hl : lget lv i = some (.long x)) (hd : decode (eC M) pc = .ok (.lload_n i, 1)) (kk : Ex G l d M Q X k n (pc + 1) lv (.long x :: rest) h) : Ex G l d M Q X k n pc lv (rest) h := by
  intro p e s m args below meth c H locs ls cells slots mc ms C R S L e1 e2
  exact lv_lload_n C.1 C.2.1 hd rfl (lv_of L hl) (kk p e s m args below meth c H locs ls cells slots mc ms C R S L e1 e2)
theorem ex_lload {i : Nat} {x : Int64} (hl : lget lv i = some (.long x)) (hd : decode (eC M) pc = .ok (.lload i, 2)) (kk : Ex G l d M Q X k n (pc + 2) lv (.long x :: rest) h) : Ex G l d M Q X k n pc lv (rest) h := by
  intro p e s m args below meth c H locs ls cells slots mc ms C R S L e1 e2
  exact lv_lload C.1 C.2.1 hd (lv_of L hl) (kk p e s m args below meth c H locs ls cells slots mc ms C R S L e1 e2)
theorem ex_aload_n {i : Fin 4} {x : Nat} (hl : lget lv i = some (.ref x)) (hd : decode (eC M) pc = .ok (.aload_n i, 1)) (kk : Ex G l d M Q X k n (pc + 1) lv (.ref x :: rest) h) : Ex G l d M Q X k n pc lv (rest) h := by
  intro p e s m args below meth c H locs ls cells slots mc ms C R S L e1 e2
  exact lv_aload_n C.1 C.2.1 hd rfl (lv_of L hl) (kk p e s m args below meth c H locs ls cells slots mc ms C R S L e1 e2)
theorem ex_aload {i : Nat} {x : Nat} (hl : lget lv i = some (.ref x)) (hd : decode (eC M) pc = .ok (.aload i, 2)) (kk : Ex G l d M Q X k n (pc + 2) lv (.ref x :: rest) h) : Ex G l d M Q X k n pc lv (rest) h := by
  intro p e s m args below meth c H locs ls cells slots mc ms C R S L e1 e2
  exact lv_aload C.1 C.2.1 hd (lv_of L hl) (kk p e s m args below meth c H locs ls cells slots mc ms C R S L e1 e2)
theorem ex_istore_n {i : Fin 4} {x : Int32} (hi : (i : Nat) < eL M) (hf : lfree lv i = true) (hd : decode (eC M) pc = .ok (.istore_n i, 1)) (kk : Ex G l d M Q X k n (pc + 1) (lset lv i (.int x)) rest h) : Ex G l d M Q X k n pc lv (.int x :: rest) h := by
  intro p e s m args below meth c H locs ls cells slots mc ms C R S L e1 e2
  exact lv_istore_n C.1 C.2.1 hd rfl L hi rfl (fun ls' L' => kk p e s m args below meth c H locs ls' cells slots mc ms C R S (lset_has hf L') e1 e2)
theorem ex_istore {i : Nat} {x : Int32} (hi : (i : Nat) < eL M) (hf : lfree lv i = true) (hd : decode (eC M) pc = .ok (.istore i, 2)) (kk : Ex G l d M Q X k n (pc + 2) (lset lv i (.int x)) rest h) : Ex G l d M Q X k n pc lv (.int x :: rest) h := by
  intro p e s m args below meth c H locs ls cells slots mc ms C R S L e1 e2
  exact lv_istore C.1 C.2.1 hd L hi rfl (fun ls' L' => kk p e s m args below meth c H locs ls' cells slots mc ms C R S (lset_has hf L') e1 e2)
theorem ex_astore_n {i : Fin 4} {x : Nat} (hi : (i : Nat) < eL M) (hf : lfree lv i = true) (hd : decode (eC M) pc = .ok (.astore_n i, 1)) (kk : Ex G l d M Q X k n (pc + 1) (lset lv i (.ref x)) rest h) : Ex G l d M Q X k n pc lv (.ref x :: rest) h := by
  intro p e s m args below meth c H locs ls cells slots mc ms C R S L e1 e2
  exact lv_astore_n C.1 C.2.1 hd rfl L hi rfl (fun ls' L' => kk p e s m args below meth c H locs ls' cells slots mc ms C R S (lset_has hf L') e1 e2)
theorem ex_astore {i : Nat} {x : Nat} (hi : (i : Nat) < eL M) (hf : lfree lv i = true) (hd : decode (eC M) pc = .ok (.astore i, 2)) (kk : Ex G l d M Q X k n (pc + 2) (lset lv i (.ref x)) rest h) : Ex G l d M Q X k n pc lv (.ref x :: rest) h := by
  intro p e s m args below meth c H locs ls cells slots mc ms C R S L e1 e2
  exact lv_astore C.1 C.2.1 hd L hi rfl (fun ls' L' => kk p e s m args below meth c H locs ls' cells slots mc ms C R S (lset_has hf L') e1 e2)
theorem lget_at {l : List (Nat × Value)} {k : Nat} {v : Value} (h : lget l k = some v) : ∃ j : Nat, l[j]? = some (k, v) := List.getElem?_of_mem (lget_mem h)
theorem ex_iinc {i : Nat} {z : Int} {x v : Int32} (hl : lget lv i = some (.int x)) (hv : x + Int32.ofInt z = v) (hi : i < eL M) (hf : lfree lv i = true) (hd : decode (eC M) pc = .ok (.iinc i z, 3)) (kk : Ex G l d M Q X k n (pc + 3) (lset lv i (.int v)) st h) : Ex G l d M Q X k n pc lv st h := by
  intro p e s m args below meth c H locs ls cells slots mc ms C R S L e1 e2
  obtain ⟨j, hj⟩ := lget_at hl
  exact lv_iinc C.1 C.2.1 hd L hj hv hi rfl (fun ls' L' => kk p e s m args below meth c H locs ls' cells slots mc ms C R S (lset_has hf L') e1 e2)
theorem ex_iadd {x y : Int32} (hd : decode (eC M) pc = .ok (.iadd, 1)) (kk : Ex G l d M Q X k n (pc + 1) lv (.int (x + y) :: rest) h) : Ex G l d M Q X k n pc lv (.int y :: .int x :: rest) h := by
  intro p e s m args below meth c H locs ls cells slots mc ms C R S L e1 e2
  exact lv_iadd C.1 C.2.1 hd (kk p e s m args below meth c H locs ls cells slots mc ms C R S L e1 e2)
theorem ex_isub {x y : Int32} (hd : decode (eC M) pc = .ok (.isub, 1)) (kk : Ex G l d M Q X k n (pc + 1) lv (.int (x - y) :: rest) h) : Ex G l d M Q X k n pc lv (.int y :: .int x :: rest) h := by
  intro p e s m args below meth c H locs ls cells slots mc ms C R S L e1 e2
  exact lv_isub C.1 C.2.1 hd (kk p e s m args below meth c H locs ls cells slots mc ms C R S L e1 e2)
theorem ex_imul {x y : Int32} (hd : decode (eC M) pc = .ok (.imul, 1)) (kk : Ex G l d M Q X k n (pc + 1) lv (.int (x * y) :: rest) h) : Ex G l d M Q X k n pc lv (.int y :: .int x :: rest) h := by
  intro p e s m args below meth c H locs ls cells slots mc ms C R S L e1 e2
  exact lv_imul C.1 C.2.1 hd (kk p e s m args below meth c H locs ls cells slots mc ms C R S L e1 e2)
theorem ex_iand {x y : Int32} (hd : decode (eC M) pc = .ok (.iand, 1)) (kk : Ex G l d M Q X k n (pc + 1) lv (.int (x &&& y) :: rest) h) : Ex G l d M Q X k n pc lv (.int y :: .int x :: rest) h := by
  intro p e s m args below meth c H locs ls cells slots mc ms C R S L e1 e2
  exact lv_iand C.1 C.2.1 hd (kk p e s m args below meth c H locs ls cells slots mc ms C R S L e1 e2)
theorem ex_ior {x y : Int32} (hd : decode (eC M) pc = .ok (.ior, 1)) (kk : Ex G l d M Q X k n (pc + 1) lv (.int (x ||| y) :: rest) h) : Ex G l d M Q X k n pc lv (.int y :: .int x :: rest) h := by
  intro p e s m args below meth c H locs ls cells slots mc ms C R S L e1 e2
  exact lv_ior C.1 C.2.1 hd (kk p e s m args below meth c H locs ls cells slots mc ms C R S L e1 e2)
theorem ex_ixor {x y : Int32} (hd : decode (eC M) pc = .ok (.ixor, 1)) (kk : Ex G l d M Q X k n (pc + 1) lv (.int (x ^^^ y) :: rest) h) : Ex G l d M Q X k n pc lv (.int y :: .int x :: rest) h := by
  intro p e s m args below meth c H locs ls cells slots mc ms C R S L e1 e2
  exact lv_ixor C.1 C.2.1 hd (kk p e s m args below meth c H locs ls cells slots mc ms C R S L e1 e2)
theorem ex_ishl {x y : Int32} (hd : decode (eC M) pc = .ok (.ishl, 1)) (kk : Ex G l d M Q X k n (pc + 1) lv (.int (x <<< (y &&& 31)) :: rest) h) : Ex G l d M Q X k n pc lv (.int y :: .int x :: rest) h := by
  intro p e s m args below meth c H locs ls cells slots mc ms C R S L e1 e2
  exact lv_ishl C.1 C.2.1 hd (kk p e s m args below meth c H locs ls cells slots mc ms C R S L e1 e2)
theorem ex_ishr {x y : Int32} (hd : decode (eC M) pc = .ok (.ishr, 1)) (kk : Ex G l d M Q X k n (pc + 1) lv (.int (x >>> (y &&& 31)) :: rest) h) : Ex G l d M Q X k n pc lv (.int y :: .int x :: rest) h := by
  intro p e s m args below meth c H locs ls cells slots mc ms C R S L e1 e2
  exact lv_ishr C.1 C.2.1 hd (kk p e s m args below meth c H locs ls cells slots mc ms C R S L e1 e2)
theorem ex_idiv {x y : Int32} (hne : ¬ y = 0) (hd : decode (eC M) pc = .ok (.idiv, 1)) (kk : Ex G l d M Q X k n (pc + 1) lv (.int (x / y) :: rest) h) : Ex G l d M Q X k n pc lv (.int y :: .int x :: rest) h := by
  intro p e s m args below meth c H locs ls cells slots mc ms C R S L e1 e2
  exact lv_idiv C.1 C.2.1 hd hne (kk p e s m args below meth c H locs ls cells slots mc ms C R S L e1 e2)
theorem ex_irem {x y : Int32} (hne : ¬ y = 0) (hd : decode (eC M) pc = .ok (.irem, 1)) (kk : Ex G l d M Q X k n (pc + 1) lv (.int (x - x / y * y) :: rest) h) : Ex G l d M Q X k n pc lv (.int y :: .int x :: rest) h := by
  intro p e s m args below meth c H locs ls cells slots mc ms C R S L e1 e2
  exact lv_irem C.1 C.2.1 hd hne (kk p e s m args below meth c H locs ls cells slots mc ms C R S L e1 e2)
theorem ex_land {x y : Int64} (hd : decode (eC M) pc = .ok (.land, 1)) (kk : Ex G l d M Q X k n (pc + 1) lv (.long (x &&& y) :: rest) h) : Ex G l d M Q X k n pc lv (.long y :: .long x :: rest) h := by
  intro p e s m args below meth c H locs ls cells slots mc ms C R S L e1 e2
  exact lv_land C.1 C.2.1 hd (kk p e s m args below meth c H locs ls cells slots mc ms C R S L e1 e2)
theorem ex_lor {x y : Int64} (hd : decode (eC M) pc = .ok (.lor, 1)) (kk : Ex G l d M Q X k n (pc + 1) lv (.long (x ||| y) :: rest) h) : Ex G l d M Q X k n pc lv (.long y :: .long x :: rest) h := by
  intro p e s m args below meth c H locs ls cells slots mc ms C R S L e1 e2
  exact lv_lor C.1 C.2.1 hd (kk p e s m args below meth c H locs ls cells slots mc ms C R S L e1 e2)
theorem ex_lushr {x : Int64} {y : Int32} (hd : decode (eC M) pc = .ok (.lushr, 1)) (kk : Ex G l d M Q X k n (pc + 1) lv (.long ((x.toUInt64 >>> (y.toInt64.toUInt64 &&& Int64.toUInt64 63)).toInt64) :: rest) h) : Ex G l d M Q X k n pc lv (.int y :: .long x :: rest) h := by
  intro p e s m args below meth c H locs ls cells slots mc ms C R S L e1 e2
  exact lv_lushr C.1 C.2.1 hd rfl (kk p e s m args below meth c H locs ls cells slots mc ms C R S L e1 e2)
theorem ex_lshl {x : Int64} {y : Int32} (hd : decode (eC M) pc = .ok (.lshl, 1)) (kk : Ex G l d M Q X k n (pc + 1) lv (.long (x <<< (y.toInt64 &&& 63)) :: rest) h) : Ex G l d M Q X k n pc lv (.int y :: .long x :: rest) h := by
  intro p e s m args below meth c H locs ls cells slots mc ms C R S L e1 e2
  exact lv_lshl C.1 C.2.1 hd rfl (kk p e s m args below meth c H locs ls cells slots mc ms C R S L e1 e2)
theorem ex_iushr {x y : Int32} (hd : decode (eC M) pc = .ok (.iushr, 1)) (kk : Ex G l d M Q X k n (pc + 1) lv (.int ((x.toUInt32 >>> (y.toUInt32 &&& Int32.toUInt32 31)).toInt32) :: rest) h) : Ex G l d M Q X k n pc lv (.int y :: .int x :: rest) h := by
  intro p e s m args below meth c H locs ls cells slots mc ms C R S L e1 e2
  exact lv_iushr C.1 C.2.1 hd rfl (kk p e s m args below meth c H locs ls cells slots mc ms C R S L e1 e2)
theorem ex_lcmp {x y : Int64} (hd : decode (eC M) pc = .ok (.lcmp, 1)) (kk : Ex G l d M Q X k n (pc + 1) lv (.int (lg_cmp x y) :: rest) h) : Ex G l d M Q X k n pc lv (.long y :: .long x :: rest) h := by
  intro p e s m args below meth c H locs ls cells slots mc ms C R S L e1 e2
  exact W.lcmp C.1 C.2.1 hd (kk p e s m args below meth c H locs ls cells slots mc ms C R S L e1 e2)
theorem ex_i2l {x : Int32} (hd : decode (eC M) pc = .ok (.i2l, 1)) (kk : Ex G l d M Q X k n (pc + 1) lv (.long x.toInt64 :: rest) h) : Ex G l d M Q X k n pc lv (.int x :: rest) h := by
  intro p e s m args below meth c H locs ls cells slots mc ms C R S L e1 e2
  exact lv_i2l C.1 C.2.1 hd rfl (kk p e s m args below meth c H locs ls cells slots mc ms C R S L e1 e2)
theorem ex_l2i {x : Int64} (hd : decode (eC M) pc = .ok (.l2i, 1)) (kk : Ex G l d M Q X k n (pc + 1) lv (.int x.toInt32 :: rest) h) : Ex G l d M Q X k n pc lv (.long x :: rest) h := by
  intro p e s m args below meth c H locs ls cells slots mc ms C R S L e1 e2
  exact lv_l2i C.1 C.2.1 hd rfl (kk p e s m args below meth c H locs ls cells slots mc ms C R S L e1 e2)
theorem ex_i2c {x : Int32} (hd : decode (eC M) pc = .ok (.i2c, 1)) (kk : Ex G l d M Q X k n (pc + 1) lv (.int (x.toUInt32 % 65536).toInt32 :: rest) h) : Ex G l d M Q X k n pc lv (.int x :: rest) h := by
  intro p e s m args below meth c H locs ls cells slots mc ms C R S L e1 e2
  exact lv_i2c C.1 C.2.1 hd rfl (kk p e s m args below meth c H locs ls cells slots mc ms C R S L e1 e2)
theorem ex_i2b {x : Int32} (hd : decode (eC M) pc = .ok (.i2b, 1)) (kk : Ex G l d M Q X k n (pc + 1) lv (.int x.toInt8.toInt32 :: rest) h) : Ex G l d M Q X k n pc lv (.int x :: rest) h := by
  intro p e s m args below meth c H locs ls cells slots mc ms C R S L e1 e2
  exact lv_i2b C.1 C.2.1 hd rfl (kk p e s m args below meth c H locs ls cells slots mc ms C R S L e1 e2)
theorem ex_dup {v : Value} (hc : v.category = 1) (hd : decode (eC M) pc = .ok (.dup, 1)) (kk : Ex G l d M Q X k n (pc + 1) lv (v :: v :: rest) h) : Ex G l d M Q X k n pc lv (v :: rest) h := by
  intro p e s m args below meth c H locs ls cells slots mc ms C R S L e1 e2
  exact lv_dup C.1 C.2.1 hd hc (kk p e s m args below meth c H locs ls cells slots mc ms C R S L e1 e2)
theorem ex_pop {v : Value} (hc : v.category = 1) (hd : decode (eC M) pc = .ok (.pop, 1)) (kk : Ex G l d M Q X k n (pc + 1) lv (rest) h) : Ex G l d M Q X k n pc lv (v :: rest) h := by
  intro p e s m args below meth c H locs ls cells slots mc ms C R S L e1 e2
  exact lv_pop C.1 C.2.1 hd hc (kk p e s m args below meth c H locs ls cells slots mc ms C R S L e1 e2)
theorem ex_dup2 {v w : Value} (hc : v.category = 1) (hc2 : w.category = 1) (hd : decode (eC M) pc = .ok (.dup2, 1)) (kk : Ex G l d M Q X k n (pc + 1) lv (v :: w :: v :: w :: rest) h) : Ex G l d M Q X k n pc lv (v :: w :: rest) h := by
  intro p e s m args below meth c H locs ls cells slots mc ms C R S L e1 e2
  exact lv_dup2_11 C.1 C.2.1 hd hc hc2 (kk p e s m args below meth c H locs ls cells slots mc ms C R S L e1 e2)
theorem ex_goto {off : Int} {tgt : Nat} (ht : (pc : Int) + off = (tgt : Int)) (hd : decode (eC M) pc = .ok (.goto off, 3)) (kk : Ex G l d M Q X k n tgt lv st h) : Ex G l d M Q X k n pc lv st h := by
  intro p e s m args below meth c H locs ls cells slots mc ms C R S L e1 e2
  exact lv_goto C.1 C.2.1 hd ht (kk p e s m args below meth c H locs ls cells slots mc ms C R S L e1 e2)
theorem ex_if_eq {x : Int32} {off : Int} {tgt : Nat} (ht : (pc : Int) + off = (tgt : Int)) (hd : decode (eC M) pc = .ok (.ifCond .eq off, 3)) (kt : x = 0 → Ex G l d M Q X k n tgt lv rest h) (kf : ¬ x = 0 → Ex G l d M Q X k n (pc + 3) lv rest h) : Ex G l d M Q X k n pc lv (.int x :: rest) h := by
  intro p e s m args below meth c H locs ls cells slots mc ms C R S L e1 e2
  exact lv_if_eq C.1 C.2.1 hd ht (fun q => kt q p e s m args below meth c H locs ls cells slots mc ms C R S L e1 e2) (fun q => kf q p e s m args below meth c H locs ls cells slots mc ms C R S L e1 e2)
theorem ex_if_ne {x : Int32} {off : Int} {tgt : Nat} (ht : (pc : Int) + off = (tgt : Int)) (hd : decode (eC M) pc = .ok (.ifCond .ne off, 3)) (kt : ¬ x = 0 → Ex G l d M Q X k n tgt lv rest h) (kf : x = 0 → Ex G l d M Q X k n (pc + 3) lv rest h) : Ex G l d M Q X k n pc lv (.int x :: rest) h := by
  intro p e s m args below meth c H locs ls cells slots mc ms C R S L e1 e2
  exact lv_if_ne C.1 C.2.1 hd ht (fun q => kt q p e s m args below meth c H locs ls cells slots mc ms C R S L e1 e2) (fun q => kf q p e s m args below meth c H locs ls cells slots mc ms C R S L e1 e2)
theorem ex_if_lt {x : Int32} {off : Int} {tgt : Nat} (ht : (pc : Int) + off = (tgt : Int)) (hd : decode (eC M) pc = .ok (.ifCond .lt off, 3)) (kt : x < 0 → Ex G l d M Q X k n tgt lv rest h) (kf : ¬ x < 0 → Ex G l d M Q X k n (pc + 3) lv rest h) : Ex G l d M Q X k n pc lv (.int x :: rest) h := by
  intro p e s m args below meth c H locs ls cells slots mc ms C R S L e1 e2
  exact lv_if_lt C.1 C.2.1 hd ht (fun q => kt q p e s m args below meth c H locs ls cells slots mc ms C R S L e1 e2) (fun q => kf q p e s m args below meth c H locs ls cells slots mc ms C R S L e1 e2)
theorem ex_if_ge {x : Int32} {off : Int} {tgt : Nat} (ht : (pc : Int) + off = (tgt : Int)) (hd : decode (eC M) pc = .ok (.ifCond .ge off, 3)) (kt : 0 ≤ x → Ex G l d M Q X k n tgt lv rest h) (kf : ¬ 0 ≤ x → Ex G l d M Q X k n (pc + 3) lv rest h) : Ex G l d M Q X k n pc lv (.int x :: rest) h := by
  intro p e s m args below meth c H locs ls cells slots mc ms C R S L e1 e2
  exact lv_if_ge C.1 C.2.1 hd ht (fun q => kt q p e s m args below meth c H locs ls cells slots mc ms C R S L e1 e2) (fun q => kf q p e s m args below meth c H locs ls cells slots mc ms C R S L e1 e2)
theorem ex_if_gt {x : Int32} {off : Int} {tgt : Nat} (ht : (pc : Int) + off = (tgt : Int)) (hd : decode (eC M) pc = .ok (.ifCond .gt off, 3)) (kt : 0 < x → Ex G l d M Q X k n tgt lv rest h) (kf : ¬ 0 < x → Ex G l d M Q X k n (pc + 3) lv rest h) : Ex G l d M Q X k n pc lv (.int x :: rest) h := by
  intro p e s m args below meth c H locs ls cells slots mc ms C R S L e1 e2
  exact lv_if_gt C.1 C.2.1 hd ht (fun q => kt q p e s m args below meth c H locs ls cells slots mc ms C R S L e1 e2) (fun q => kf q p e s m args below meth c H locs ls cells slots mc ms C R S L e1 e2)
theorem ex_if_le {x : Int32} {off : Int} {tgt : Nat} (ht : (pc : Int) + off = (tgt : Int)) (hd : decode (eC M) pc = .ok (.ifCond .le off, 3)) (kt : x ≤ 0 → Ex G l d M Q X k n tgt lv rest h) (kf : ¬ x ≤ 0 → Ex G l d M Q X k n (pc + 3) lv rest h) : Ex G l d M Q X k n pc lv (.int x :: rest) h := by
  intro p e s m args below meth c H locs ls cells slots mc ms C R S L e1 e2
  exact lv_if_le C.1 C.2.1 hd ht (fun q => kt q p e s m args below meth c H locs ls cells slots mc ms C R S L e1 e2) (fun q => kf q p e s m args below meth c H locs ls cells slots mc ms C R S L e1 e2)
theorem ex_icmp_eq {x y : Int32} {off : Int} {tgt : Nat} (ht : (pc : Int) + off = (tgt : Int)) (hd : decode (eC M) pc = .ok (.if_icmp .eq off, 3)) (kt : x = y → Ex G l d M Q X k n tgt lv rest h) (kf : ¬ x = y → Ex G l d M Q X k n (pc + 3) lv rest h) : Ex G l d M Q X k n pc lv (.int y :: .int x :: rest) h := by
  intro p e s m args below meth c H locs ls cells slots mc ms C R S L e1 e2
  exact lv_icmp_eq C.1 C.2.1 hd ht (fun q => kt q p e s m args below meth c H locs ls cells slots mc ms C R S L e1 e2) (fun q => kf q p e s m args below meth c H locs ls cells slots mc ms C R S L e1 e2)
theorem ex_icmp_ne {x y : Int32} {off : Int} {tgt : Nat} (ht : (pc : Int) + off = (tgt : Int)) (hd : decode (eC M) pc = .ok (.if_icmp .ne off, 3)) (kt : ¬ x = y → Ex G l d M Q X k n tgt lv rest h) (kf : x = y → Ex G l d M Q X k n (pc + 3) lv rest h) : Ex G l d M Q X k n pc lv (.int y :: .int x :: rest) h := by
  intro p e s m args below meth c H locs ls cells slots mc ms C R S L e1 e2
  exact lv_icmp_ne C.1 C.2.1 hd ht (fun q => kt q p e s m args below meth c H locs ls cells slots mc ms C R S L e1 e2) (fun q => kf q p e s m args below meth c H locs ls cells slots mc ms C R S L e1 e2)
theorem ex_icmp_lt {x y : Int32} {off : Int} {tgt : Nat} (ht : (pc : Int) + off = (tgt : Int)) (hd : decode (eC M) pc = .ok (.if_icmp .lt off, 3)) (kt : x < y → Ex G l d M Q X k n tgt lv rest h) (kf : ¬ x < y → Ex G l d M Q X k n (pc + 3) lv rest h) : Ex G l d M Q X k n pc lv (.int y :: .int x :: rest) h := by
  intro p e s m args below meth c H locs ls cells slots mc ms C R S L e1 e2
  exact lv_icmp_lt C.1 C.2.1 hd ht (fun q => kt q p e s m args below meth c H locs ls cells slots mc ms C R S L e1 e2) (fun q => kf q p e s m args below meth c H locs ls cells slots mc ms C R S L e1 e2)
theorem ex_icmp_ge {x y : Int32} {off : Int} {tgt : Nat} (ht : (pc : Int) + off = (tgt : Int)) (hd : decode (eC M) pc = .ok (.if_icmp .ge off, 3)) (kt : y ≤ x → Ex G l d M Q X k n tgt lv rest h) (kf : ¬ y ≤ x → Ex G l d M Q X k n (pc + 3) lv rest h) : Ex G l d M Q X k n pc lv (.int y :: .int x :: rest) h := by
  intro p e s m args below meth c H locs ls cells slots mc ms C R S L e1 e2
  exact lv_icmp_ge C.1 C.2.1 hd ht (fun q => kt q p e s m args below meth c H locs ls cells slots mc ms C R S L e1 e2) (fun q => kf q p e s m args below meth c H locs ls cells slots mc ms C R S L e1 e2)
theorem ex_icmp_gt {x y : Int32} {off : Int} {tgt : Nat} (ht : (pc : Int) + off = (tgt : Int)) (hd : decode (eC M) pc = .ok (.if_icmp .gt off, 3)) (kt : y < x → Ex G l d M Q X k n tgt lv rest h) (kf : ¬ y < x → Ex G l d M Q X k n (pc + 3) lv rest h) : Ex G l d M Q X k n pc lv (.int y :: .int x :: rest) h := by
  intro p e s m args below meth c H locs ls cells slots mc ms C R S L e1 e2
  exact lv_icmp_gt C.1 C.2.1 hd ht (fun q => kt q p e s m args below meth c H locs ls cells slots mc ms C R S L e1 e2) (fun q => kf q p e s m args below meth c H locs ls cells slots mc ms C R S L e1 e2)
theorem ex_icmp_le {x y : Int32} {off : Int} {tgt : Nat} (ht : (pc : Int) + off = (tgt : Int)) (hd : decode (eC M) pc = .ok (.if_icmp .le off, 3)) (kt : x ≤ y → Ex G l d M Q X k n tgt lv rest h) (kf : ¬ x ≤ y → Ex G l d M Q X k n (pc + 3) lv rest h) : Ex G l d M Q X k n pc lv (.int y :: .int x :: rest) h := by
  intro p e s m args below meth c H locs ls cells slots mc ms C R S L e1 e2
  exact lv_icmp_le C.1 C.2.1 hd ht (fun q => kt q p e s m args below meth c H locs ls cells slots mc ms C R S L e1 e2) (fun q => kf q p e s m args below meth c H locs ls cells slots mc ms C R S L e1 e2)
theorem ex_acmp_eq {x y : Nat} {off : Int} {tgt : Nat} (ht : (pc : Int) + off = (tgt : Int)) (hd : decode (eC M) pc = .ok (.if_acmp .eq off, 3)) (kt : x = y → Ex G l d M Q X k n tgt lv rest h) (kf : ¬ x = y → Ex G l d M Q X k n (pc + 3) lv rest h) : Ex G l d M Q X k n pc lv (.ref y :: .ref x :: rest) h := by
  intro p e s m args below meth c H locs ls cells slots mc ms C R S L e1 e2
  exact lv_acmp_eq (rx := some x) (ry := some y) C.1 C.2.1 hd ht (fun q => kt (Option.some.inj q) p e s m args below meth c H locs ls cells slots mc ms C R S L e1 e2) (fun q => kf (fun z => q (congrArg some z)) p e s m args below meth c H locs ls cells slots mc ms C R S L e1 e2)
theorem ex_acmp_ne {x y : Nat} {off : Int} {tgt : Nat} (ht : (pc : Int) + off = (tgt : Int)) (hd : decode (eC M) pc = .ok (.if_acmp .ne off, 3)) (kt : ¬ x = y → Ex G l d M Q X k n tgt lv rest h) (kf : x = y → Ex G l d M Q X k n (pc + 3) lv rest h) : Ex G l d M Q X k n pc lv (.ref y :: .ref x :: rest) h := by
  intro p e s m args below meth c H locs ls cells slots mc ms C R S L e1 e2
  exact lv_acmp_ne (rx := some x) (ry := some y) C.1 C.2.1 hd ht (fun q => kt (fun z => q (congrArg some z)) p e s m args below meth c H locs ls cells slots mc ms C R S L e1 e2) (fun q => kf (Option.some.inj q) p e s m args below meth c H locs ls cells slots mc ms C R S L e1 e2)
theorem ex_tblO {dflt lo hi : Int} {offs : Array Int} {len : Nat} {x : Int32} {tgt : Nat} (hd : decode (eC M) pc = .ok (.tableswitch dflt lo hi offs, len)) (hx : x.toInt < lo ∨ hi < x.toInt) (ht : (pc : Int) + dflt = (tgt : Int)) (kk : Ex G l d M Q X k n tgt lv rest h) : Ex G l d M Q X k n pc lv (.int x :: rest) h := by
  intro p e s m args below meth c H locs ls cells slots mc ms C R S L e1 e2
  exact lv_tableOut C.1 C.2.1 hd hx ht (kk p e s m args below meth c H locs ls cells slots mc ms C R S L e1 e2)
theorem ex_tblI {dflt lo hi : Int} {offs : Array Int} {len : Nat} {x : Int32} {off : Int} {tgt : Nat} (hd : decode (eC M) pc = .ok (.tableswitch dflt lo hi offs, len)) (h1 : ¬ x.toInt < lo) (h2 : ¬ hi < x.toInt) (ho : offs[(x.toInt - lo).toNat]? = some off) (ht : (pc : Int) + off = (tgt : Int)) (kk : Ex G l d M Q X k n tgt lv rest h) : Ex G l d M Q X k n pc lv (.int x :: rest) h := by
  intro p e s m args below meth c H locs ls cells slots mc ms C R S L e1 e2
  exact lv_tableIn C.1 C.2.1 hd h1 h2 ho ht (kk p e s m args below meth c H locs ls cells slots mc ms C R S L e1 e2)
theorem ex_lv (lv' : List (Nat × Value)) (hs : lall lv lv') (kk : Ex G l d M Q X k n pc lv' st h) : Ex G l d M Q X k n pc lv st h := by
  intro p e s m args below meth c H locs ls cells slots mc ms C R S L e1 e2
  exact kk p e s m args below meth c H locs ls cells slots mc ms C R S ⟨L.1, L.2.1, fun q hq => L.2.2 q (lall_mem hs hq)⟩ e1 e2
theorem ex_mono {Q' : Option Value → EH → Prop} {X' : String → EH → Prop} (hq : ∀ v h, Q' v h → Q v h) (hx : ∀ E h, X' E h → X E h) (kk : Ex G l d M Q' X' k n pc lv st h) : Ex G l d M Q X k n pc lv st h := by
  intro p e s m args below meth c H locs ls cells slots mc ms C R S L e1 e2
  intro T hT Y
  obtain ⟨t, a, o, b1, b2, b3⟩ := kk p e s m args below meth c H locs ls cells slots mc ms C R S L e1 e2 T hT Y
  refine ⟨t, a, o, b1, b2, ?_⟩
  rcases b3 with ⟨⟨v, h', x1, x2, x3⟩, x4⟩ | ⟨q, x1, E, ce, L2, ⟨h', y1, y2⟩, x3⟩
  · exact Or.inl ⟨⟨v, h', x1, hq _ _ x2, x3⟩, x4⟩
  · exact Or.inr ⟨q, x1, E, ce, L2, ⟨h', hx _ _ y1, y2⟩, x3⟩
end EXR
end
section
/-! THE LOGIC, 2: the heap, calls, returns -/
theorem eRel.one {G : EG} {h : EH} {H : Heap} (R : eRel G h H) {a : Nat} {e : va_E} (ha : h.2 a = some e) : va_P (eD G) vwCl [(a, e)] H := by
  intro k q hk
  have hz : k < 1 := (List.getElem?_eq_some_iff.mp hk).1
  rw [show k = 0 by omega] at hk
  cases hk
  exact (R.2.2 a e ha).1
theorem eRel.up {G : EG} {h : EH} {H H1 : Heap} (R : eRel G h H) {a : Nat} {e0 e : va_E} (ha : h.2 a = some e0) (he : va_at (eD G) vwCl (a, e) H1) (hz : H1.size = H.size) (ho : ∀ q : Nat, q ≠ a → H1[q]? = H[q]?) : eRel G (hup h a e) H1 := by
  refine ⟨hz.trans R.1, R.2.1, fun b x hx => ?_⟩
  by_cases hb : b = a
  · subst hb
    have : x = e := by
      have h9 : (if b = b then some e else h.2 b) = some x := hx
      rw [if_pos rfl] at h9
      exact (Option.some.inj h9).symm
    subst this
    exact ⟨he, (R.2.2 b e0 ha).2⟩
  · have h9 : (if b = a then some e else h.2 b) = some x := hx
    rw [if_neg hb] at h9
    exact ⟨(R.2.2 b x h9).1.kept (ho b hb), (R.2.2 b x h9).2⟩
theorem eRel.born {G : EG} {h : EH} {H H1 : Heap} (R : eRel G h H) {e : va_E} (he : va_at (eD G) vwCl (H.size, e) H1) (hz : H1.size = H.size + 1) (ho : ∀ q : Nat, q < H.size → H1[q]? = H[q]?) : eRel G (hnew h e) H1 := by
  refine ⟨by rw [hz, R.1]; rfl, Nat.le_trans R.2.1 (Nat.le_succ _), fun b x hx => ?_⟩
  by_cases hb : b = h.1
  · subst hb
    have : x = e := by
      have h9 : (if h.1 = h.1 then some e else h.2 h.1) = some x := hx
      rw [if_pos rfl] at h9
      exact (Option.some.inj h9).symm
    subst this
    rw [← R.1]
    exact ⟨he, by rw [R.1]; exact R.2.1⟩
  · have h9 : (if b = h.1 then some e else h.2 b) = some x := hx
    rw [if_neg hb] at h9
    have h8 := R.2.2 b x h9
    exact ⟨h8.1.kept (ho b h8.1.lt), h8.2⟩
theorem eS_put {G : EG} {s : State} {H H1 : Heap} {locs : List Loc} {a i : Nat} (S : va_S (eF G) s.heap H locs) (hz : H1.size = H.size) (ho : ∀ q : Nat, q ≠ a → H1[q]? = H[q]?) (ha : eb G ≤ a) : va_S (eF G) s.heap H1 (locs ++ [⟨a, i⟩]) := S.put hz ho ha
theorem eS_new {G : EG} {s : State} {H H1 : Heap} {locs : List Loc} (S : va_S (eF G) s.heap H locs) (hz : H1.size = H.size + 1) (ho : ∀ q : Nat, q < H.size → H1[q]? = H[q]?) : va_S (eF G) s.heap H1 locs :=
  ⟨Nat.le_trans S.1 (by omega), fun x h1 h2 => (ho x (Nat.lt_of_lt_of_le h1 S.1)).trans (S.2.1 x h1 h2), S.2.2⟩
/-- a field's link, by class number and place -/
def EGF (own : String) (idx ci j : Nat) : Prop := ∃ (C : String) (T : u_T) (N : Nat), vwCl[ci]? = some (C, T, N) ∧ (∀ w ∈ u_ws C T N, w ∈ egood) ∧ j < N ∧ Cond.fieldLink own idx (T j).1 (T j).2.1 (T j).2.2.1 ∈ egood
/-- beside it what a store asks: the field's type, and whether it is final -/
def EPF (own : String) (idx ci j : Nat) (ty : FieldType) (fin : Bool) : Prop := ∃ (C : String) (T : u_T) (N : Nat) (ty0 : Nat → FieldType), vwCl[ci]? = some (C, T, N) ∧ (∀ w ∈ u_ws C T N, w ∈ egood) ∧ j < N ∧ Cond.fieldLink own idx (T j).1 (T j).2.1 (T j).2.2.1 ∈ egood ∧
  (∀ k, k < N → parseFieldDescriptor (T k).2.2.1 = some (ty0 k)) ∧ (∀ a, a < N → ∀ b, b < N → a ≠ b → (T a).2.1 ≠ (T b).2.1) ∧ ty0 j = ty ∧ (T j).2.2.2 = fin ∧ (fin = true → (T j).1 = own)
/-- a class that is made -/
def ENW (own : String) (idx ci N : Nat) (fs : List Value) : Prop := ∃ (C : String) (T : u_T) (ty0 : Nat → FieldType), vwCl[ci]? = some (C, T, N) ∧ (∀ w ∈ u_ws C T N, w ∈ egood) ∧ (∀ k, k < N → parseFieldDescriptor (T k).2.2.1 = some (ty0 k)) ∧ Cond.classLink own idx C ∈ egood ∧ Cond.instantiable C N ∈ egood ∧ Cond.initialized C ∈ egood ∧ ∀ j, j < N → defaultValue (ty0 j) = vp_V fs j
section EXH
variable {G : EG} {l : Launch} {d : Nat} {M : EM} {Q : Option Value → EH → Prop} {X : String → EH → Prop} {k n pc : Nat} {lv : List (Nat × Value)} {rest st : List Value} {h : EH}
theorem ex_get {a ci idx j : Nat} {fs : List Value} {v : Value} (hd : decode (eC M) pc = .ok (.getfield idx, 3)) (hf : EGF (eY M).cls idx ci j) (hh : h.2 a = some (.inr (ci, fs))) (hv : fs[j]? = some v) (kk : Ex G l d M Q X k n (pc + 3) lv (v :: rest) h) : Ex G l d M Q X k n pc lv (.ref a :: rest) h := by
  intro p e s m args below meth c H locs ls cells slots mc ms C R S L e1 e2
  obtain ⟨C9, T9, N9, f1, f2, f3, f4⟩ := hf
  exact va_get (D := eD G) (cl := vwCl) (tys := etys G) (ws := [(a, .inr (ci, fs))]) C.1 C.2.1 C.2.2.2.2.1 f2 C.2.2.2.1 C.2.2.2.2.2.2.2.2.1 (R.one hh) 0 rfl f1 j f3 (C.2.2.2.2.1 _ f4) (fun _ h9 => h9) hv hd (kk p e s m args below meth c H locs ls cells slots mc ms C R S L e1 e2)
theorem ex_put {a ci idx j : Nat} {fs : List Value} {v : Value} {ty : FieldType} (hd : decode (eC M) pc = .ok (.putfield idx, 3)) (hf : EPF (eY M).cls idx ci j ty false) (hh : h.2 a = some (.inr (ci, fs))) (hl : j < fs.length) (hn : narrow ty v = v) (hfit : fits ty v = true) (kk : Ex G l d M Q X k n (pc + 3) lv rest (hup h a (.inr (ci, fs.set j v)))) : Ex G l d M Q X k n pc lv (v :: .ref a :: rest) h := by
  intro p e s m args below meth c H locs ls cells slots mc ms C R S L e1 e2
  obtain ⟨C9, T9, N9, ty0, hc, hin, hk, hlink, hty, hnm, ety, hfin, -⟩ := hf
  have hK := C.2.2.2.2.2.2.2.2.1
  have hts := C.2.2.2.2.1
  have hap := va_apart (own := (eY M).cls) hts hin ty0 hty hnm hK hc
  obtain ⟨⟨r, h1, cell, q1, q2, q3, q4⟩, hba⟩ := R.2.2 a _ hh
  have hr : r = (C9, T9, N9) := Option.some.inj (h1.symm.trans hc)
  subst hr
  obtain ⟨hS, hfc, kC, hkC, hkind⟩ := hK.1 ci _ hc
  obtain ⟨cf, kf, fi, f, hi, hsl⟩ := hS j hk
  have hlay := hts _ (hin _ (u_in_lay hk))
  unfold u_lay at hlay
  rw [if_neg (by rw [hfin]; decide)] at hlay
  have hst := (u_facts hfc hkC (u_lays hts hin hk) hi).1
  have h6 := u_store hfc hkC hkind hlay hi (by rw [← ety]; exact hty j hk) hn hfit
  refine W.putK C.1 C.2.1 (f := f) ⟨C.2.2.2.1, hts _ hlink, ⟨_, _, _, hi⟩, hst⟩ (by rw [q2]; exact h6) q1 q3 (by rw [hsl]; exact k2_hasslot (q4 j hk)) rfl rfl hd fun H' e1' e2' e3' => ?_
  rw [hsl] at e1' ⊢
  exact kk p e s m args below meth c H' _ ls cells slots mc ms C (R.up hh ⟨_, hc, t_OB.to (V := updV (vp_V fs) j v) ⟨_, e1', q2, q3, t_set q4 hap hk v⟩ (fun i _ => vp_updV_set hl v i)⟩ e2' e3') (S.put e2' e3' hba) L e1 e2
theorem ex_putF {a ci idx j : Nat} {fs : List Value} {v : Value} {ty : FieldType} (hd : decode (eC M) pc = .ok (.putfield idx, 3)) (hf : EPF (eY M).cls idx ci j ty true) (hini : (eY M).name = "<init>") (hh : h.2 a = some (.inr (ci, fs))) (hl : j < fs.length) (hn : narrow ty v = v) (hfit : fits ty v = true) (kk : Ex G l d M Q X k n (pc + 3) lv rest (hup h a (.inr (ci, fs.set j v)))) : Ex G l d M Q X k n pc lv (v :: .ref a :: rest) h := by
  intro p e s m args below meth c H locs ls cells slots mc ms C R S L e1 e2
  obtain ⟨C9, T9, N9, ty0, hc, hin, hk, hlink, hty, hnm, ety, hfin, hdecl⟩ := hf
  have hK := C.2.2.2.2.2.2.2.2.1
  have hts := C.2.2.2.2.1
  have hap := va_apart (own := (eY M).cls) hts hin ty0 hty hnm hK hc
  obtain ⟨⟨r, h1, cell, q1, q2, q3, q4⟩, hba⟩ := R.2.2 a _ hh
  have hr : r = (C9, T9, N9) := Option.some.inj (h1.symm.trans hc)
  subst hr
  obtain ⟨hS, hfc, kC, hkC, hkind⟩ := hK.1 ci _ hc
  obtain ⟨cf, kf, fi, f, hi, hsl⟩ := hS j hk
  have hlay := hts _ (hin _ (u_in_lay hk))
  unfold u_lay at hlay
  rw [if_pos hfin] at hlay
  have hst := (u_facts hfc hkC (u_lays hts hin hk) hi).1
  have hcf : m.cls = cf := by
    obtain ⟨_, _, c', _, _, _, -, -, hf', -, -, -, hown2, -⟩ := Cond.laysFinal_spec hlay
    have z1 : c' = cf := by have := hi.symm.trans hf'; simp at this; exact this.1.symm
    rw [hdecl rfl] at hown2
    rw [← z1]; exact Option.some.inj (C.2.2.2.1.symm.trans hown2)
  have h6 := u_fits hfc hkC hkind (Or.inr hlay) hi (by rw [← ety]; exact hty j hk) hn hfit
  refine W.putFinK C.1 C.2.1 C.2.2.2.1 (hts _ hlink) hi hst hcf (C.2.2.2.2.2.2.2.1.1.trans hini) (by rw [q2]; exact h6) q1 q3 (by rw [hsl]; exact k2_hasslot (q4 j hk)) rfl rfl hd fun H' e1' e2' e3' => ?_
  rw [hsl] at e1' ⊢
  exact kk p e s m args below meth c H' _ ls cells slots mc ms C (R.up hh ⟨_, hc, t_OB.to (V := updV (vp_V fs) j v) ⟨_, e1', q2, q3, t_set q4 hap hk v⟩ (fun i _ => vp_updV_set hl v i)⟩ e2' e3') (S.put e2' e3' hba) L e1 e2
theorem ex_gets {idx : Nat} {z : String × String × String × Value} (hd : decode (eC M) pc = .ok (.getstatic idx, 3)) (hz : z ∈ eZ G) (hl : Cond.fieldLink (eY M).cls idx z.1 z.2.1 z.2.2.1 ∈ egood) (kk : Ex G l d M Q X k n (pc + 3) lv (z.2.2.2 :: rest) h) : Ex G l d M Q X k n pc lv rest h := by
  intro p e s m args below meth c H locs ls cells slots mc ms C R S L e1 e2
  exact va_gets C.1 C.2.1 (C.2.2.2.2.2.2.2.2.2.1.1 z hz) S C.2.2.2.1 (C.2.2.2.2.1 _ hl) (fun _ h9 => h9) hd (kk p e s m args below meth c H locs ls cells slots mc ms C R S L e1 e2)
theorem ex_getsN {idx : Nat} {z : String × String × String × Value} {host : String} (hd : decode (eC M) pc = .ok (.getstatic idx, 3)) (hz : z ∈ eZ G) (hl : Cond.fieldLinkNest (eY M).cls idx z.1 z.2.1 z.2.2.1 host ∈ lw_tbl) (kk : Ex G l d M Q X k n (pc + 3) lv (z.2.2.2 :: rest) h) : Ex G l d M Q X k n pc lv rest h := by
  intro p e s m args below meth c H locs ls cells slots mc ms C R S L e1 e2
  exact va_getsN C.1 C.2.1 (C.2.2.2.2.2.2.2.2.2.1.1 z hz) S C.2.2.2.1 (va_Nw.use rfl (C.2.2.2.2.2.2.2.2.2.2.2.2.2.2.1 _ _ _ _ _ _ hl)) (fun _ h9 => h9) hd (kk p e s m args below meth c H locs ls cells slots mc ms C R S L e1 e2)
theorem ex_getc {idx : Nat} {z : String × String × String × Value × Nat} (hd : decode (eC M) pc = .ok (.getfield idx, 3)) (hz : eOF G z) (hl : Cond.fieldLink (eY M).cls idx z.1 z.2.1 z.2.2.1 ∈ egood) (kk : Ex G l d M Q X k n (pc + 3) lv (z.2.2.2.1 :: rest) h) : Ex G l d M Q X k n pc lv (.ref z.2.2.2.2 :: rest) h := by
  intro p e s m args below meth c H locs ls cells slots mc ms C R S L e1 e2
  exact vk_getf C.1 C.2.1 (C.2.2.2.2.2.2.2.2.2.1.2.2.1 z hz) S C.2.2.2.1 (C.2.2.2.2.1 _ hl) (fun _ h9 => h9) hd (kk p e s m args below meth c H locs ls cells slots mc ms C R S L e1 e2)
theorem ex_getcN {idx : Nat} {z : String × String × String × Value × Nat} {host : String} (hd : decode (eC M) pc = .ok (.getfield idx, 3)) (hz : eOF G z) (hl : Cond.fieldLinkNest (eY M).cls idx z.1 z.2.1 z.2.2.1 host ∈ lw_tbl) (kk : Ex G l d M Q X k n (pc + 3) lv (z.2.2.2.1 :: rest) h) : Ex G l d M Q X k n pc lv (.ref z.2.2.2.2 :: rest) h := by
  intro p e s m args below meth c H locs ls cells slots mc ms C R S L e1 e2
  obtain ⟨cf, kf, i, f, cell, o1, o2, o3, o4, o5, o6⟩ := (C.2.2.2.2.2.2.2.2.2.1.2.2.1 z hz).kept S.2.1
  exact va_Wgetf C.1 C.2.1 C.2.2.2.1 (va_Nw.use rfl (C.2.2.2.2.2.2.2.2.2.2.2.2.2.2.1 _ _ _ _ _ _ hl)) o1 o2 o3 o4 o5 rfl rfl hd (kk p e s m args below meth c H locs ls cells slots mc ms C R S L e1 e2)
theorem ex_iald {a N : Nat} {f : Nat → Int32} {i : Int32} (hd : decode (eC M) pc = .ok (.iaload, 1)) (hh : h.2 a = some (.inl (eA G 0, N, .inl f))) (hin : vp_in i N) (kk : Ex G l d M Q X k n (pc + 1) lv (.int (f i.toNatClampNeg) :: rest) h) : Ex G l d M Q X k n pc lv (.int i :: .ref a :: rest) h := by
  intro p e s m args below meth c H locs ls cells slots mc ms C R S L e1 e2
  exact va_iald (D := eD G) (cl := vwCl) (tys := etys G) (ws := [(a, .inl (eA G 0, N, .inl f))]) C.1 C.2.1 C.2.2.2.2.2.2.2.2.1 (R.one hh) 0 0 rfl rfl hin hd (kk p e s m args below meth c H locs ls cells slots mc ms C R S L e1 e2)
theorem ex_lald {a N : Nat} {f : Nat → Int64} {i : Int32} (hd : decode (eC M) pc = .ok (.laload, 1)) (hh : h.2 a = some (.inl (eA G 1, N, .inr (.inl f)))) (hin : vp_in i N) (kk : Ex G l d M Q X k n (pc + 1) lv (.long (f i.toNatClampNeg) :: rest) h) : Ex G l d M Q X k n pc lv (.int i :: .ref a :: rest) h := by
  intro p e s m args below meth c H locs ls cells slots mc ms C R S L e1 e2
  exact va_lald (D := eD G) (cl := vwCl) (tys := etys G) (ws := [(a, .inl (eA G 1, N, .inr (.inl f)))]) C.1 C.2.1 C.2.2.2.2.2.2.2.2.1 (R.one hh) 0 1 rfl rfl hin hd (kk p e s m args below meth c H locs ls cells slots mc ms C R S L e1 e2)
theorem ex_cald {a N : Nat} {f : Nat → Int32} {i : Int32} (hd : decode (eC M) pc = .ok (.caload, 1)) (hh : h.2 a = some (.inl (eA G 2, N, .inl f))) (hin : vp_in i N) (kk : Ex G l d M Q X k n (pc + 1) lv (.int (f i.toNatClampNeg) :: rest) h) : Ex G l d M Q X k n pc lv (.int i :: .ref a :: rest) h := by
  intro p e s m args below meth c H locs ls cells slots mc ms C R S L e1 e2
  exact va_cald (D := eD G) (cl := vwCl) (tys := etys G) (ws := [(a, .inl (eA G 2, N, .inl f))]) C.1 C.2.1 C.2.2.2.2.2.2.2.2.1 (R.one hh) 0 2 rfl rfl hin hd (kk p e s m args below meth c H locs ls cells slots mc ms C R S L e1 e2)
theorem ex_zald {a N : Nat} {f : Nat → Int32} {i : Int32} (hd : decode (eC M) pc = .ok (.baload, 1)) (hh : h.2 a = some (.inl (eA G 3, N, .inl f))) (hin : vp_in i N) (kk : Ex G l d M Q X k n (pc + 1) lv (.int (f i.toNatClampNeg) :: rest) h) : Ex G l d M Q X k n pc lv (.int i :: .ref a :: rest) h := by
  intro p e s m args below meth c H locs ls cells slots mc ms C R S L e1 e2
  exact va_zald (D := eD G) (cl := vwCl) (tys := etys G) (ws := [(a, .inl (eA G 3, N, .inl f))]) C.1 C.2.1 C.2.2.2.2.2.2.2.2.1 (R.one hh) 0 3 rfl rfl hin hd (kk p e s m args below meth c H locs ls cells slots mc ms C R S L e1 e2)
theorem ex_aldq {a N : Nat} {f : Nat → Option Nat} {i : Int32} (hd : decode (eC M) pc = .ok (.aaload, 1)) (hh : h.2 a = some (.inl (eA G 4, N, .inr (.inr (.inr (.inr f)))))) (hin : vp_in i N) (kk : Ex G l d M Q X k n (pc + 1) lv (va_rf (f i.toNatClampNeg) :: rest) h) : Ex G l d M Q X k n pc lv (.int i :: .ref a :: rest) h := by
  intro p e s m args below meth c H locs ls cells slots mc ms C R S L e1 e2
  exact va_aldq (D := eD G) (cl := vwCl) (tys := etys G) (ws := [(a, .inl (eA G 4, N, .inr (.inr (.inr (.inr f)))))]) C.1 C.2.1 C.2.2.2.2.2.2.2.2.1 (R.one hh) 0 4 rfl rfl hin hd (kk p e s m args below meth c H locs ls cells slots mc ms C R S L e1 e2)
theorem ex_alen {a t : Nat} {x : vp_A} {ty : FieldType} {v : Int32} (hd : decode (eC M) pc = .ok (.arraylength, 1)) (hh : h.2 a = some (.inl (eA G t, x))) (ht : (etys G)[t]? = some (eA G t, ty)) (hv : Int32.ofNat x.1 = v) (kk : Ex G l d M Q X k n (pc + 1) lv (.int v :: rest) h) : Ex G l d M Q X k n pc lv (.ref a :: rest) h := by
  intro p e s m args below meth c H locs ls cells slots mc ms C R S L e1 e2
  exact va_alen (D := eD G) (cl := vwCl) (tys := etys G) (ws := [(a, .inl (eA G t, x))]) C.1 C.2.1 C.2.2.2.2.2.2.2.2.1 (R.one hh) 0 t rfl ht hv hd (kk p e s m args below meth c H locs ls cells slots mc ms C R S L e1 e2)
theorem ex_iast {a N : Nat} {f : Nat → Int32} {i : Int32} {x : Int32} (hd : decode (eC M) pc = .ok (.iastore, 1)) (hh : h.2 a = some (.inl (eA G 0, N, .inl f))) (hin : vp_in i N) (kk : Ex G l d M Q X k n (pc + 1) lv rest (hup h a (.inl (eA G 0, N, .inl (upd f i.toNatClampNeg x))))) : Ex G l d M Q X k n pc lv (.int x :: .int i :: .ref a :: rest) h := by
  intro p e s m args below meth c H locs ls cells slots mc ms C R S L e1 e2
  have hat : H[a]? = some (vp_cell (eA G 0) (N, .inl f)) := (R.2.2 a _ hh).1
  refine W.iast C.1 C.2.1 hat ((C.2.2.2.2.2.2.2.2.1.2 0 _ rfl).1 N (fun j => .int (f j))) (fun q => by cases q) (by show ¬ (i < 0 ∨ (arrV _ _ _).slots.size ≤ _); rw [arrV_size]; exact hin) rfl rfl hd fun H1 ee z oq => ?_
  refine kk p e s m args below meth c H1 _ ls cells slots mc ms C (R.up hh ?_ z oq) (S.put z oq (R.2.2 a _ hh).2) L e1 e2
  show H1[a]? = some (vp_cell _ _)
  rw [ee]
  rw [vp_cell_i, vp_cell_i, arrV_store]
  congr 2
  funext q
  by_cases hq : q = i.toNatClampNeg
  · subst hq
    simp [updV, upd]
    try rfl
  · simp [updV, upd, hq]
theorem ex_last {a N : Nat} {f : Nat → Int64} {i : Int32} {x : Int64} (hd : decode (eC M) pc = .ok (.lastore, 1)) (hh : h.2 a = some (.inl (eA G 1, N, .inr (.inl f)))) (hin : vp_in i N) (kk : Ex G l d M Q X k n (pc + 1) lv rest (hup h a (.inl (eA G 1, N, .inr (.inl (vp_updL f i.toNatClampNeg x)))))) : Ex G l d M Q X k n pc lv (.long x :: .int i :: .ref a :: rest) h := by
  intro p e s m args below meth c H locs ls cells slots mc ms C R S L e1 e2
  have hat : H[a]? = some (vp_cell (eA G 1) (N, .inr (.inl f))) := (R.2.2 a _ hh).1
  refine W.last C.1 C.2.1 hat ((C.2.2.2.2.2.2.2.2.1.2 1 _ rfl).1 N (fun j => .long (f j))) (fun q => by cases q) (by show ¬ (i < 0 ∨ (arrV _ _ _).slots.size ≤ _); rw [arrV_size]; exact hin) rfl rfl hd fun H1 ee z oq => ?_
  refine kk p e s m args below meth c H1 _ ls cells slots mc ms C (R.up hh ?_ z oq) (S.put z oq (R.2.2 a _ hh).2) L e1 e2
  show H1[a]? = some (vp_cell _ _)
  rw [ee]
  rw [vp_cell_l, vp_cell_l, arrV_store]
  congr 2
  funext q
  by_cases hq : q = i.toNatClampNeg
  · subst hq
    simp [updV, vp_updL]
    try rfl
  · simp [updV, vp_updL, hq]
theorem ex_cast {a N : Nat} {f : Nat → Int32} {i : Int32} {x : Int32} (hd : decode (eC M) pc = .ok (.castore, 1)) (hh : h.2 a = some (.inl (eA G 2, N, .inl f))) (hin : vp_in i N) (kk : Ex G l d M Q X k n (pc + 1) lv rest (hup h a (.inl (eA G 2, N, .inl (upd f i.toNatClampNeg (vp_nar .char x)))))) : Ex G l d M Q X k n pc lv (.int x :: .int i :: .ref a :: rest) h := by
  intro p e s m args below meth c H locs ls cells slots mc ms C R S L e1 e2
  have hat : H[a]? = some (vp_cell (eA G 2) (N, .inl f)) := (R.2.2 a _ hh).1
  refine W.cast C.1 C.2.1 hat ((C.2.2.2.2.2.2.2.2.1.2 2 _ rfl).1 N (fun j => .int (f j))) (fun q => by cases q) (by show ¬ (i < 0 ∨ (arrV _ _ _).slots.size ≤ _); rw [arrV_size]; exact hin) rfl rfl hd fun H1 ee z oq => ?_
  refine kk p e s m args below meth c H1 _ ls cells slots mc ms C (R.up hh ?_ z oq) (S.put z oq (R.2.2 a _ hh).2) L e1 e2
  show H1[a]? = some (vp_cell _ _)
  rw [ee]
  rw [vp_cell_i, vp_cell_i, arrV_store]
  congr 2
  funext q
  by_cases hq : q = i.toNatClampNeg
  · subst hq
    simp [updV, upd, vp_nar]
    try rfl
  · simp [updV, upd, hq]
theorem ex_zast {a N : Nat} {f : Nat → Int32} {i : Int32} {x : Int32} (hd : decode (eC M) pc = .ok (.bastore, 1)) (hh : h.2 a = some (.inl (eA G 3, N, .inl f))) (hin : vp_in i N) (kk : Ex G l d M Q X k n (pc + 1) lv rest (hup h a (.inl (eA G 3, N, .inl (upd f i.toNatClampNeg (vp_nar .boolean x)))))) : Ex G l d M Q X k n pc lv (.int x :: .int i :: .ref a :: rest) h := by
  intro p e s m args below meth c H locs ls cells slots mc ms C R S L e1 e2
  have hat : H[a]? = some (vp_cell (eA G 3) (N, .inl f)) := (R.2.2 a _ hh).1
  refine W.zast C.1 C.2.1 hat ((C.2.2.2.2.2.2.2.2.1.2 3 _ rfl).1 N (fun j => .int (f j))) (fun q => by cases q) (by show ¬ (i < 0 ∨ (arrV _ _ _).slots.size ≤ _); rw [arrV_size]; exact hin) rfl rfl hd fun H1 ee z oq => ?_
  refine kk p e s m args below meth c H1 _ ls cells slots mc ms C (R.up hh ?_ z oq) (S.put z oq (R.2.2 a _ hh).2) L e1 e2
  show H1[a]? = some (vp_cell _ _)
  rw [ee]
  rw [vp_cell_i, vp_cell_i, arrV_store]
  congr 2
  funext q
  by_cases hq : q = i.toNatClampNeg
  · subst hq
    simp [updV, upd, vp_nar]
    try rfl
  · simp [updV, upd, hq]
theorem ex_astq {a N v : Nat} {f : Nat → Option Nat} {i : Int32} {vs : List Value} (hd : decode (eC M) pc = .ok (.aastore, 1)) (hh : h.2 a = some (.inl (eA G 4, N, .inr (.inr (.inr (.inr f)))))) (hin : vp_in i N) (hv : h.2 v = some (.inr (5, vs))) (kk : Ex G l d M Q X k n (pc + 1) lv rest (hup h a (.inl (eA G 4, N, .inr (.inr (.inr (.inr (va_up f i.toNatClampNeg (some v))))))))) : Ex G l d M Q X k n pc lv (.ref v :: .int i :: .ref a :: rest) h := by
  intro p e s m args below meth c H locs ls cells slots mc ms C R S L e1 e2
  have hlt : i.toNatClampNeg < N := Nat.not_le.mp fun q => hin (Or.inr q)
  have h0 : ¬ i < 0 := fun q => hin (Or.inl q)
  have hat : H[a]? = some (vp_cell (eA G 4) (N, .inr (.inr (.inr (.inr f))))) := (R.2.2 a _ hh).1
  obtain ⟨⟨r', hr', cellV, g1, g2, g3, -⟩, -⟩ := R.2.2 v _ hv
  have hK := C.2.2.2.2.2.2.2.2.1
  have hcls := (hK.1 5 (RX9, TX9, 4) rfl).2
  obtain ⟨kA, comp, k1, k2, k3, -⟩ := (hK.2 4 (eA G 4, .object "PolicyDesk$Statement") rfl).2
  have hcomp : comp = (eD G).1 5 := Option.some.inj (k3.symm.trans hcls.1)
  subst hcomp
  obtain ⟨kC, hkC, -⟩ := hcls.2
  refine W.aast C.1 C.2.1 hat (fun q h => by cases h) (fun h => by cases h) k1 k2 rfl hkC ⟨h0, by show _ < (arrV _ _ _).slots.size; rw [arrV_size]; exact hlt⟩ g1 (fun q h => by rw [g3] at h; cases h) (by rw [g2]; exact hkC) (by rw [g2]; exact va_assign hcls) rfl rfl hd fun H1 ee z oq => ?_
  refine kk p e s m args below meth c H1 _ ls cells slots mc ms C (R.up hh ?_ z oq) (S.put z oq (R.2.2 a _ hh).2) L e1 e2
  show H1[a]? = some (vp_cell _ _)
  rw [ee]
  rw [vp_cell_q, vp_cell_q, arrV_store]
  congr 2
  funext q
  by_cases hq : q = i.toNatClampNeg
  · subst hq
    simp [updV, va_up, va_rf]
  · simp [updV, va_up, hq]
theorem ex_tlen {z : FieldType × Nat × Nat × (Nat → Value)} {v : Int32} (hd : decode (eC M) pc = .ok (.arraylength, 1)) (hz : eT G z) (hv : Int32.ofNat z.2.2.1 = v) (kk : Ex G l d M Q X k n (pc + 1) lv (.int v :: rest) h) : Ex G l d M Q X k n pc lv (.ref z.2.1 :: rest) h := by
  intro p e s m args below meth c H locs ls cells slots mc ms C R S L e1 e2
  exact va_tlen C.1 C.2.1 (C.2.2.2.2.2.2.2.2.2.1.2.2.2.1 z hz) S hv hd (kk p e s m args below meth c H locs ls cells slots mc ms C R S L e1 e2)
theorem ex_tald {t N : Nat} {f : Nat → Value} {i : Int32} (hd : decode (eC M) pc = .ok (.iaload, 1)) (hz : eT G (.int, t, N, f)) (hin : vp_in i N) (kk : Ex G l d M Q X k n (pc + 1) lv (f i.toNatClampNeg :: rest) h) : Ex G l d M Q X k n pc lv (.int i :: .ref t :: rest) h := by
  intro p e s m args below meth c H locs ls cells slots mc ms C R S L e1 e2
  obtain ⟨cell, c1, c2, c3, c4, c5, c6, c7⟩ := (C.2.2.2.2.2.2.2.2.2.1.2.2.2.1 _ hz).kept S.2.1
  have hlt : i.toNatClampNeg < N := Nat.not_le.mp fun q => hin (Or.inr q)
  exact W.iald C.1 C.2.1 c1 c2 c3 (fun q => q.elim (fun q => hin (Or.inl q)) (fun q => hin (Or.inr (Nat.le_trans c4 q)))) (c6 _ hlt) rfl rfl hd (kk p e s m args below meth c H locs ls cells slots mc ms C R S L e1 e2)
theorem ex_tbld {t N : Nat} {f : Nat → Value} {i : Int32} (hd : decode (eC M) pc = .ok (.baload, 1)) (hz : eT G (.byte, t, N, f)) (hin : vp_in i N) (kk : Ex G l d M Q X k n (pc + 1) lv (f i.toNatClampNeg :: rest) h) : Ex G l d M Q X k n pc lv (.int i :: .ref t :: rest) h := by
  intro p e s m args below meth c H locs ls cells slots mc ms C R S L e1 e2
  obtain ⟨cell, c1, c2, c3, c4, c5, c6, c7⟩ := (C.2.2.2.2.2.2.2.2.2.1.2.2.2.1 _ hz).kept S.2.1
  have hlt : i.toNatClampNeg < N := Nat.not_le.mp fun q => hin (Or.inr q)
  exact W.bald C.1 C.2.1 c1 c2 c3 (fun q => q.elim (fun q => hin (Or.inl q)) (fun q => hin (Or.inr (Nat.le_trans c4 q)))) (c6 _ hlt) rfl rfl hd (kk p e s m args below meth c H locs ls cells slots mc ms C R S L e1 e2)
theorem ex_tqld {t N : Nat} {E : String} {f : Nat → Value} {i : Int32} (hd : decode (eC M) pc = .ok (.aaload, 1)) (hz : eT G (.object E, t, N, f)) (hin : vp_in i N) (kk : Ex G l d M Q X k n (pc + 1) lv (f i.toNatClampNeg :: rest) h) : Ex G l d M Q X k n pc lv (.int i :: .ref t :: rest) h := by
  intro p e s m args below meth c H locs ls cells slots mc ms C R S L e1 e2
  exact vb_tq C.1 C.2.1 (C.2.2.2.2.2.2.2.2.2.1.2.2.2.1 _ hz) S hin rfl hd (kk p e s m args below meth c H locs ls cells slots mc ms C R S L e1 e2)
theorem ex_new {idx ci N : Nat} {fs : List Value} (hd : decode (eC M) pc = .ok (.new idx, 3)) (hc : ENW (eY M).cls idx ci N fs) (kk : Ex G l d M Q X k n (pc + 3) lv (.ref h.1 :: rest) (hnew h (.inr (ci, fs)))) : Ex G l d M Q X (k + 1) (n + N) pc lv rest h := by
  intro p e s m args below meth c H locs ls cells slots mc ms C R S L e1 e2
  obtain ⟨C9, T9, ty0, f1, f2, f3, f4, f5, f6, f7⟩ := hc
  have hK := C.2.2.2.2.2.2.2.2.1
  have hts := C.2.2.2.2.1
  have hKn := hK.1 ci _ f1
  refine W.newcK C.1 C.2.1 C.2.2.2.1 (hts _ f4) (hts _ f5) (hts _ f6) rfl hd (by show cells + 1 ≤ mc; omega) (by show slots + N ≤ ms; omega) hKn.2.1 rfl fun H1 kC hkC w1 z1 o1 => ?_
  rw [R.1]
  refine kk p e s m args below meth c H1 locs ls (cells + 1) (slots + N) mc ms C (R.born ?_ z1 o1) (eS_new S z1 o1) L (by omega) (by omega)
  exact ⟨_, f1, (u_born ty0 hts f2 hKn hkC w1 f3).to f7⟩
theorem ex_newa_int {z : Int32} {N : Nat} (hd : decode (eC M) pc = .ok (.newarray .int, 2)) (hw : Cond.arrayClass .int ∈ egood) (h0 : ¬ z < 0) (hN : z.toNatClampNeg = N) (hb : N ≤ 60000000) (kk : Ex G l d M Q X k n (pc + 2) lv (.ref h.1 :: rest) (hnew h (.inl (eA G 0, N, .inl (fun _ => 0))))) : Ex G l d M Q X (k + 1) (n + N) pc lv (.int z :: rest) h := by
  intro p e s m args below meth c H locs ls cells slots mc ms C R S L e1 e2
  have hK := C.2.2.2.2.2.2.2.2.1
  refine va_newaK C.1 C.2.1 (atype := .int) (C.2.2.2.2.1 _ hw) rfl hd rfl h0 hN (by show N * 4 ≤ 536870912; omega) (by show cells + 1 ≤ mc; omega) (by show slots + N ≤ ms; omega) R.1 fun H1 cA w1 z1 o1 hAr hNm => ?_
  have hcA : cA = eA G 0 := Option.some.inj (hNm.symm.trans ((hK.2 0 (eA G 0, .int) rfl).2))
  subst hcA
  refine kk p e s m args below meth c H1 locs ls (cells + 1) (slots + N) mc ms C (R.born ?_ (by rw [z1, R.1]) (fun q hq => o1 q (by rw [← R.1]; exact hq))) (eS_new S (by rw [z1, R.1]) (fun q hq => o1 q (by rw [← R.1]; exact hq))) L (by omega) (by omega)
  show H1[H.size]? = some (vp_cell _ _)
  rw [R.1, w1]
  rfl
theorem ex_newa_long {z : Int32} {N : Nat} (hd : decode (eC M) pc = .ok (.newarray .long, 2)) (hw : Cond.arrayClass .long ∈ egood) (h0 : ¬ z < 0) (hN : z.toNatClampNeg = N) (hb : N ≤ 60000000) (kk : Ex G l d M Q X k n (pc + 2) lv (.ref h.1 :: rest) (hnew h (.inl (eA G 1, N, .inr (.inl (fun _ => 0)))))) : Ex G l d M Q X (k + 1) (n + N) pc lv (.int z :: rest) h := by
  intro p e s m args below meth c H locs ls cells slots mc ms C R S L e1 e2
  have hK := C.2.2.2.2.2.2.2.2.1
  refine va_newaK C.1 C.2.1 (atype := .long) (C.2.2.2.2.1 _ hw) rfl hd rfl h0 hN (by show N * 8 ≤ 536870912; omega) (by show cells + 1 ≤ mc; omega) (by show slots + N ≤ ms; omega) R.1 fun H1 cA w1 z1 o1 hAr hNm => ?_
  have hcA : cA = eA G 1 := Option.some.inj (hNm.symm.trans ((hK.2 1 (eA G 1, .long) rfl).2))
  subst hcA
  refine kk p e s m args below meth c H1 locs ls (cells + 1) (slots + N) mc ms C (R.born ?_ (by rw [z1, R.1]) (fun q hq => o1 q (by rw [← R.1]; exact hq))) (eS_new S (by rw [z1, R.1]) (fun q hq => o1 q (by rw [← R.1]; exact hq))) L (by omega) (by omega)
  show H1[H.size]? = some (vp_cell _ _)
  rw [R.1, w1]
  rfl
theorem ex_newa_char {z : Int32} {N : Nat} (hd : decode (eC M) pc = .ok (.newarray .char, 2)) (hw : Cond.arrayClass .char ∈ egood) (h0 : ¬ z < 0) (hN : z.toNatClampNeg = N) (hb : N ≤ 60000000) (kk : Ex G l d M Q X k n (pc + 2) lv (.ref h.1 :: rest) (hnew h (.inl (eA G 2, N, .inl (fun _ => 0))))) : Ex G l d M Q X (k + 1) (n + N) pc lv (.int z :: rest) h := by
  intro p e s m args below meth c H locs ls cells slots mc ms C R S L e1 e2
  have hK := C.2.2.2.2.2.2.2.2.1
  refine va_newaK C.1 C.2.1 (atype := .char) (C.2.2.2.2.1 _ hw) rfl hd rfl h0 hN (by show N * 2 ≤ 536870912; omega) (by show cells + 1 ≤ mc; omega) (by show slots + N ≤ ms; omega) R.1 fun H1 cA w1 z1 o1 hAr hNm => ?_
  have hcA : cA = eA G 2 := Option.some.inj (hNm.symm.trans ((hK.2 2 (eA G 2, .char) rfl).2))
  subst hcA
  refine kk p e s m args below meth c H1 locs ls (cells + 1) (slots + N) mc ms C (R.born ?_ (by rw [z1, R.1]) (fun q hq => o1 q (by rw [← R.1]; exact hq))) (eS_new S (by rw [z1, R.1]) (fun q hq => o1 q (by rw [← R.1]; exact hq))) L (by omega) (by omega)
  show H1[H.size]? = some (vp_cell _ _)
  rw [R.1, w1]
  rfl
theorem ex_newa_bool {z : Int32} {N : Nat} (hd : decode (eC M) pc = .ok (.newarray .boolean, 2)) (hw : Cond.arrayClass .boolean ∈ egood) (h0 : ¬ z < 0) (hN : z.toNatClampNeg = N) (hb : N ≤ 60000000) (kk : Ex G l d M Q X k n (pc + 2) lv (.ref h.1 :: rest) (hnew h (.inl (eA G 3, N, .inl (fun _ => 0))))) : Ex G l d M Q X (k + 1) (n + N) pc lv (.int z :: rest) h := by
  intro p e s m args below meth c H locs ls cells slots mc ms C R S L e1 e2
  have hK := C.2.2.2.2.2.2.2.2.1
  refine va_newaK C.1 C.2.1 (atype := .boolean) (C.2.2.2.2.1 _ hw) rfl hd rfl h0 hN (by show N * 1 ≤ 536870912; omega) (by show cells + 1 ≤ mc; omega) (by show slots + N ≤ ms; omega) R.1 fun H1 cA w1 z1 o1 hAr hNm => ?_
  have hcA : cA = eA G 3 := Option.some.inj (hNm.symm.trans ((hK.2 3 (eA G 3, .boolean) rfl).2))
  subst hcA
  refine kk p e s m args below meth c H1 locs ls (cells + 1) (slots + N) mc ms C (R.born ?_ (by rw [z1, R.1]) (fun q hq => o1 q (by rw [← R.1]; exact hq))) (eS_new S (by rw [z1, R.1]) (fun q hq => o1 q (by rw [← R.1]; exact hq))) L (by omega) (by omega)
  show H1[H.size]? = some (vp_cell _ _)
  rw [R.1, w1]
  rfl
theorem ex_newq {z : Int32} {N idx : Nat} (hd : decode (eC M) pc = .ok (.anewarray idx, 3)) (hw : Cond.classLink (eY M).cls idx "PolicyDesk$Statement" ∈ egood) (h0 : ¬ z < 0) (hN : z.toNatClampNeg = N) (hb : N ≤ 60000000) (kk : Ex G l d M Q X k n (pc + 3) lv (.ref h.1 :: rest) (hnew h (.inl (eA G 4, N, .inr (.inr (.inr (.inr (fun _ => none)))))))) : Ex G l d M Q X (k + 1) (n + N) pc lv (.int z :: rest) h := by
  intro p e s m args below meth c H locs ls cells slots mc ms C R S L e1 e2
  have hK := C.2.2.2.2.2.2.2.2.1
  subst hN
  refine W.anew C.1 C.2.1 C.2.2.2.1 (C.2.2.2.2.1 _ hw) (va_AO.use (C := "PolicyDesk$Statement") C.2.2.2.2.2.2.2.2.2.2.2.1) rfl hd rfl h0 (by omega) (by show cells + 1 ≤ mc; omega) (by show slots + _ ≤ ms; omega) fun cA kA comp f1 f2 f3 f4 => ?_
  obtain ⟨kA', comp', g1, g2, g3, g4⟩ := (hK.2 4 (eA G 4, .object "PolicyDesk$Statement") rfl).2
  have hcA : cA = eA G 4 := Option.some.inj (f1.symm.trans g4)
  subst hcA
  generalize hH1 : H.push ({ cls := eA G 4, slots := Array.replicate z.toNatClampNeg .null, vm := .none } : Cell) = H1
  have z1 : H1.size = H.size + 1 := by rw [← hH1, Array.size_push]
  have w1 : H1[H.size]? = some (arrV (eA G 4) z.toNatClampNeg (fun _ => .null)) := by rw [← hH1, Array.getElem?_push_size, ← arrV_new]
  have o1 : ∀ q : Nat, q < H.size → H1[q]? = H[q]? := fun q hq => by rw [← hH1, Array.getElem?_push, if_neg (Nat.ne_of_lt hq)]
  rw [R.1]
  refine kk p e s m args below meth c H1 locs ls (cells + 1) (slots + z.toNatClampNeg) mc ms C (R.born ?_ z1 o1) (eS_new S z1 o1) L (by omega) (by omega)
  show H1[H.size]? = some (vp_cell _ _)
  rw [w1]
  rfl
theorem ex_iret {v : Int32} (hd : decode (eC M) pc = .ok (.ireturn, 1)) (hr : eR M = some .int) (hq : Q (some (.int v)) h) : Ex G l d M Q X k n pc lv [.int v] h := by
  intro p e s m args below meth c H locs ls cells slots mc ms C R S L e1 e2
  refine W.widen (k := mc) (n := ms) (by omega) (by omega) (vx_ret ?_)
  exact W.iret C.1 C.2.1 (C.2.2.2.2.2.1.trans hr) (fun t ht hW => ⟨_, h, rfl, hq, by rw [ht]; exact R, S.F ht⟩) S.2.2 hd (hlocks := C.2.2.2.2.2.2.1)
theorem ex_zret {v : Int32} {ty : FieldType} (hd : decode (eC M) pc = .ok (.ireturn, 1)) (hr : eR M = some ty) (hn : narrow ty (.int v) = .int v) (hq : Q (some (.int v)) h) : Ex G l d M Q X k n pc lv [.int v] h := by
  intro p e s m args below meth c H locs ls cells slots mc ms C R S L e1 e2
  refine W.widen (k := mc) (n := ms) (by omega) (by omega) (vx_ret ?_)
  exact W.zret C.1 C.2.1 (C.2.2.2.2.2.1.trans hr) hn (fun t ht hW => ⟨_, h, rfl, hq, by rw [ht]; exact R, S.F ht⟩) S.2.2 hd (hlocks := C.2.2.2.2.2.2.1)
theorem ex_vret (hd : decode (eC M) pc = .ok (.return_, 1)) (hr : eR M = none) (hq : Q none h) : Ex G l d M Q X k n pc lv [] h := by
  intro p e s m args below meth c H locs ls cells slots mc ms C R S L e1 e2
  refine W.widen (k := mc) (n := ms) (by omega) (by omega) (vx_ret ?_)
  exact W.vret C.1 C.2.1 (C.2.2.2.2.2.1.trans hr) (fun t ht hW => ⟨_, h, rfl, hq, by rw [ht]; exact R, S.F ht⟩) S.2.2 hd (hlocks := C.2.2.2.2.2.2.1)
theorem ex_aret {a : Nat} {E : String} (hd : decode (eC M) pc = .ok (.areturn, 1)) (hr : eR M = some (.object E)) (hq : Q (some (.ref a)) h) : Ex G l d M Q X k n pc lv [.ref a] h := by
  intro p e s m args below meth c H locs ls cells slots mc ms C R S L e1 e2
  refine W.widen (k := mc) (n := ms) (by omega) (by omega) (vx_ret ?_)
  exact W.aret C.1 C.2.1 (C.2.2.2.2.2.1.trans hr) (Or.inl ⟨_, rfl⟩) (Or.inr ⟨_, rfl⟩) (fun t ht hW => ⟨_, h, rfl, hq, by rw [ht]; exact R, S.F ht⟩) S.2.2 hd (hlocks := C.2.2.2.2.2.2.1)
end EXH
end
section
/-! THE LOGIC, 3: entry, calls -/
theorem eW.go {G : EG} {s U : State} {H : Heap} {locs : List Loc} (w : eW G s) (S : va_S (eF G) s.heap H locs) (hU : U.heap = H) (hW : s.WarmedH U.vm) : eW G U :=
  ⟨va_K.moved hW.alike w.1, eStat.moved hW.alike (by rw [hU]; exact w.2.1.kept S.2.1), fun i hi => vk_R.warm hW (w.2.2.1 i hi), va_AO.moved (C := "PolicyDesk$Statement") hW.alike w.2.2.2.1, by rw [hU]; exact Nat.le_trans w.2.2.2.2.1 S.1, eNst.warm hW w.2.2.2.2.2⟩
theorem eW.calling {G : EG} {U : State} (w : eW G U) (g : JFrame) (mk : MethodId) (a : Array Value) : eW G (U.calling g mk a) :=
  ⟨va_K.moved (u := U) (U := U.calling g mk a) (Vm.Alike.refl U.vm) w.1, eStat.moved (u := U) (U := U.calling g mk a) (Vm.Alike.refl U.vm) w.2.1, fun i hi => vk_R.same (u := U) (U := U.calling g mk a) rfl (w.2.2.1 i hi), va_AO.moved (C := "PolicyDesk$Statement") (u := U) (U := U.calling g mk a) (Vm.Alike.refl U.vm) w.2.2.2.1, w.2.2.2.2.1, eNst.same (s := U) (U := U.calling g mk a) rfl w.2.2.2.2.2⟩
theorem e_blind {G : EG} {As : List Value} {h : EH} : FrameBlind (va_Pc As (fun U => eRel G h U.heap ∧ eW G U)) := fun a U g mk q => ⟨q.1, q.2.1, q.2.2.calling g mk a⟩
theorem e_pre {G : EG} {As : List Value} {h : EH} {s : State} {H : Heap} {locs : List Loc} (w : eW G s) (S : va_S (eF G) s.heap H locs) (R : eRel G h H) : PreS s H (va_Pc As (fun U => eRel G h U.heap ∧ eW G U)) As := ⟨e_blind, fun U hU hW => ⟨rfl, by rw [hU]; exact R, w.go S hU hW⟩⟩
theorem es_of {G : EG} {l : Launch} {d : Nat} {M : EM} {As : List Value} {h : EH} {mc ms : Nat} {Q : Option Value → EH → Prop} {X : String → EH → Prop} (hy : plainName (eY M).cls = true) (hT : eTb M = []) (ha : (lg_sl As).length ≤ eL M) (body : Ex G l d M Q X mc ms 0 (lv_args 0 As) [] h) : ES G l d M As h mc ms Q X := by
  have hw : ews M = Cond.code (eY M) (eC M) (eL M) (eR M) :: egood := by unfold ews; rw [hT]
  unfold ES
  rw [hw]
  refine vx_ofW (cc := eC M) (maxL := eL M) (ret := eR M) hy rfl ?_
  intro p e s m args below meth c s₁ B hml htab hv
  obtain ⟨rfl, hR, hW⟩ := hv
  have hts := atoms_spec (ws := Cond.code (eY M) (eC M) (eL M) (eR M) :: egood) B.pre
  have htb : c.exceptionTable.toList = tableOf (eTb M) := by
    rw [hT]
    cases hq : c.exceptionTable.toList with
    | nil => rfl
    | cons a t => exact (htab a (by rw [hq]; exact List.mem_cons_self)).elim
  have C : eCtx G M p s m As.toArray meth c := ⟨B.exec, B.bytes, hml, findClass_of_methodNamed B.named, fun w hw => hts w (List.mem_cons_of_mem _ hw), B.returns, B.notSynchronized, ⟨(name_of_methodNamed B.named B.method).1, htb⟩, hW⟩
  rw [lg_entry_eq]
  exact body p e s m _ below meth c s.heap [] _ 0 0 mc ms C hR va_S.rf (lv_entry As ha) (Nat.zero_add _) (Nat.zero_add _)
theorem es_met {G : EG} {l : Launch} {d : Nat} {M : EM} {As : List Value} {h : EH} {mc ms : Nat} {Q : Option Value → EH → Prop} (hT : eTb M = []) (hS : ES G l d M As h mc ms Q eNoX) : Met l (eY M) (Cond.code (eY M) (eC M) (eL M) (eR M) :: egood) (erm d mc ms) (va_Pc As (fun U => eRel G h U.heap ∧ eW G U)) (eQ G Q) mc ms (eF G) := by
  have hw : ews M = Cond.code (eY M) (eC M) (eL M) (eR M) :: egood := by unfold ews; rw [hT]
  unfold ES at hS
  rw [hw] at hS
  intro p e ha hc hk s m args below hf happ hP hK
  obtain ⟨n, o, h1, h2, h3, h4⟩ := hS p e ha hc hk s m args below hf happ hP hK
  refine ⟨n, o, h1, h2, h3, ?_⟩
  rcases h4 with h4 | ⟨q, -, E, ce, L, ⟨h', hx, -⟩, -⟩
  · exact h4
  · exact hx.elim
theorem es_mono {G : EG} {l : Launch} {d : Nat} {M : EM} {As : List Value} {h : EH} {mc ms : Nat} {Q Q' : Option Value → EH → Prop} {X X' : String → EH → Prop} (hq : ∀ v h, Q v h → Q' v h) (hx : ∀ E h, X E h → X' E h) (hS : ES G l d M As h mc ms Q X) : ES G l d M As h mc ms Q' X' := by
  intro p e ha hc hk s m args below hf happ hP hK
  obtain ⟨n, o, h1, h2, h3, h4⟩ := hS p e ha hc hk s m args below hf happ hP hK
  refine ⟨n, o, h1, h2, h3, ?_⟩
  rcases h4 with ⟨⟨v, h', x1, x2, x3⟩, x4⟩ | ⟨q, x1, E, ce, L2, ⟨h', y1, y2⟩, x3⟩
  · exact Or.inl ⟨⟨v, h', x1, hq _ _ x2, x3⟩, x4⟩
  · exact Or.inr ⟨q, x1, E, ce, L2, ⟨h', hx _ _ y1, y2⟩, x3⟩
/-- what a callee is asked, apart from its link -/
def ECA (N : EM) (np : Nat) : Prop := Cond.initialized (eY N).cls ∈ egood ∧ Cond.code (eY N) (eC N) (eL N) (eR N) ∈ egood ∧ ((eY N).cls ≠ "java/lang/invoke/MethodHandle" ∧ (eY N).cls ≠ "java/lang/invoke/VarHandle" ∧ (parseMethodDescriptor (eY N).desc).map (fun d => d.parameters.length) = some np) ∧ eL N ≤ 19 ∧ eTb N = []
theorem ECA.good {N : EM} {np : Nat} (h : ECA N np) : GoodIn egood (Cond.code (eY N) (eC N) (eL N) (eR N) :: egood) := fun w hw => by
  rcases List.mem_cons.mp hw with e | e
  · rw [e]; exact egood_all _ h.2.1
  · exact egood_all _ e
def ECS (own : String) (idx : Nat) (N : EM) (np : Nat) : Prop := Cond.methodLink own idx (eY N) ∈ egood ∧ Cond.static (eY N) ∈ egood ∧ ECA N np
def ECV (own : String) (idx : Nat) (N : EM) (np : Nat) : Prop := Cond.methodLink own idx (eY N) ∈ egood ∧ Cond.instanceMethod (eY N) ∈ egood ∧ Cond.selects (eY N).cls (eY N) (eY N) ∈ egood ∧ ECA N np
def ECI (own : String) (idx : Nat) (N : EM) (np : Nat) : Prop := Cond.methodLink own idx (eY N) ∈ egood ∧ Cond.instanceMethod (eY N) ∈ egood ∧ (eY N).name = "<init>" ∧ eR N = none ∧ ECA N np
def ECSN (own : String) (idx : Nat) (N : EM) (np : Nat) : Prop := (∃ host : String, Cond.methodLinkNest own idx (eY N) host ∈ lw_tbl) ∧ Cond.static (eY N) ∈ egood ∧ ECA N np
def ECIN (own : String) (idx : Nat) (N : EM) (np : Nat) : Prop := (∃ host : String, Cond.methodLinkNest own idx (eY N) host ∈ lw_tbl) ∧ Cond.instanceMethod (eY N) ∈ egood ∧ (eY N).name = "<init>" ∧ eR N = none ∧ ECA N np
/-- an object on which a method of class C is called -/
def ERc (G : EG) (h : EH) (b : Nat) (C : String) : Prop := (∃ (ci : Nat) (fs : List Value) (T : u_T) (N : Nat), h.2 b = some (.inr (ci, fs)) ∧ vwCl[ci]? = some (C, T, N)) ∨ (C, b) ∈ eO G
theorem ERc.cell {G : EG} {h : EH} {b : Nat} {C : String} {s : State} {H : Heap} {locs : List Loc} (r : ERc G h b C) (R : eRel G h H) (w : eW G s) (S : va_S (eF G) s.heap H locs) : ∃ cell : Cell, H[b]? = some cell ∧ cell.vm.isStatics = false ∧ s.vm.findClass C = some cell.cls := by
  rcases r with ⟨ci, fs, T, N, h1, h2⟩ | h1
  · exact va_recv w.1 (R.one h1) h2 (q0 := 0) rfl
  · obtain ⟨cell, c1, c2, c3, -⟩ := (w.2.1.2.1 _ h1).kept S.2.1
    exact ⟨cell, c1, c2, c3⟩
section EXC
variable {G : EG} {l : Launch} {d : Nat} {M : EM} {Q : Option Value → EH → Prop} {X : String → EH → Prop} {k n pc : Nat} {lv : List (Nat × Value)} {rest st : List Value} {h : EH}
theorem e_go {p : Program} {e : Env} {R0 : Room} {s : State} {m : MethodId} {args : Array Value} {below : List Frame} {meth : Method} {c : Code} {H : Heap} {locs : List Loc} {cells slots mc' ms' : Nat} {Z : State → Prop} {ls : Array Slot} {a : Array Value} {Q' : Option Value → EH → Prop} (hr : va_Run p l e R0 s m args below meth c H locs cells slots mc' ms' (F0 m pc ls st) rest (eQ G Q' a) (eF G)) (S : va_S (eF G) s.heap H locs)
    (kk : ∀ (v : Option Value) (h' : EH) (H1 : Heap) (locs1 : List Loc), Q' v h' → eRel G h' H1 → va_S (eF G) s.heap H1 locs1 → W p l e R0 s m args below meth c H1 locs1 (cells + mc') (slots + ms') Z (F0 m (pc + 3) ls (v.toList ++ rest))) : W p l e R0 s m args below meth c H locs cells slots Z (F0 m pc ls st) := by
  intro T hT Y
  obtain ⟨v, st₀, t, T', L, h0, X', hL, e1, e2, ⟨v2, h', hv, hq, hR, hz, hk⟩, go⟩ := hr T hT Y
  cases hv
  rw [h0] at hz hk
  obtain ⟨t2, a1, b1⟩ := kk v h' T'.heap (locs ++ L) hq (by rw [e1]; exact hR)
    ⟨Nat.le_trans S.1 (by rw [e1]; exact hz), fun q h1 h2 => by rw [e1, hk q (Nat.lt_of_lt_of_le h1 S.1) h2]; exact S.2.1 q h1 h2, fun q hq => by
      rcases List.mem_append.mp hq with h | h
      · exact S.2.2 q h
      · exact hL q h⟩ T' rfl X'
  exact ⟨t2, go t2 a1, b1⟩
theorem ex_invs {idx d' mc' ms' : Nat} {N : EM} {As : List Value} {Q' : Option Value → EH → Prop} (hd : decode (eC M) pc = .ok (.invokestatic idx, 3)) (hN : ECS (eY M).cls idx N As.length) (hdd : d' + 1 ≤ d) (hrs : (rest.map fun v => v.category).sum ≤ 8) (hS : ES G l d' N As h mc' ms' Q' eNoX) (kk : ∀ (v : Option Value) (h' : EH), Q' v h' → Ex G l d M Q X k n (pc + 3) lv (v.toList ++ rest) h') : Ex G l d M Q X (k + mc') (n + ms') pc lv (As.reverse ++ rest) h := by
  intro p e s m args below meth c H locs ls cells slots mc ms C R S L e1 e2
  obtain ⟨n1, n2, hN_⟩ := hN
  have hts := C.2.2.2.2.1
  exact e_go (va_runS (As := As) (rest := rest) ⟨C.1, C.2.1, C.2.2.1, C.2.2.2.1, C.2.2.2.2.1⟩ (es_met hN_.2.2.2.2 hS) ⟨callB_of As.length hts hN_.good rfl rfl rfl (hts _ hN_.1) (hts _ n1) hN_.2.2.1 ⟨hdd, by show 8 + (eL N + 11) + 38 * d' ≤ 38 * d; have := hN_.2.2.2.1; omega⟩, hts _ n2⟩ (e_pre C.2.2.2.2.2.2.2.2 S R) rfl rfl L.1 rfl (lv_room hrs) hd ⟨by show cells + mc' ≤ mc; omega, by show slots + ms' ≤ ms; omega⟩) S (fun v h' H1 locs1 hq hR hS1 => kk v h' hq p e s m args below meth c H1 locs1 ls (cells + mc') (slots + ms') mc ms C hR hS1 L (by omega) (by omega))
theorem ex_invsN {idx d' mc' ms' : Nat} {N : EM} {As : List Value} {Q' : Option Value → EH → Prop} (hd : decode (eC M) pc = .ok (.invokestatic idx, 3)) (hN : ECSN (eY M).cls idx N As.length) (hdd : d' + 1 ≤ d) (hrs : (rest.map fun v => v.category).sum ≤ 8) (hS : ES G l d' N As h mc' ms' Q' eNoX) (kk : ∀ (v : Option Value) (h' : EH), Q' v h' → Ex G l d M Q X k n (pc + 3) lv (v.toList ++ rest) h') : Ex G l d M Q X (k + mc') (n + ms') pc lv (As.reverse ++ rest) h := by
  intro p e s m args below meth c H locs ls cells slots mc ms C R S L e1 e2
  obtain ⟨⟨host, n1⟩, n2, hN_⟩ := hN
  have hts := C.2.2.2.2.1
  exact e_go (va_runSN (As := As) (rest := rest) ⟨C.1, C.2.1, C.2.2.1, C.2.2.2.1, C.2.2.2.2.1⟩ (es_met hN_.2.2.2.2 hS) ⟨va_cnB As.length hts hN_.good rfl rfl rfl (C.2.2.2.2.2.2.2.2.2.2.2.2.2.1 _ _ _ _ n1) (hts _ hN_.1) hN_.2.2.1 ⟨hdd, by show 8 + (eL N + 11) + 38 * d' ≤ 38 * d; have := hN_.2.2.2.1; omega⟩, hts _ n2, trivial⟩ (e_pre C.2.2.2.2.2.2.2.2 S R) rfl rfl L.1 rfl (lv_room hrs) hd ⟨by show cells + mc' ≤ mc; omega, by show slots + ms' ≤ ms; omega⟩) S (fun v h' H1 locs1 hq hR hS1 => kk v h' hq p e s m args below meth c H1 locs1 ls (cells + mc') (slots + ms') mc ms C hR hS1 L (by omega) (by omega))
theorem ex_invv {idx d' mc' ms' : Nat} {N : EM} {As : List Value} {Q' : Option Value → EH → Prop} {b : Nat} (hd : decode (eC M) pc = .ok (.invokevirtual idx, 3)) (hN : ECV (eY M).cls idx N As.length) (hdd : d' + 1 ≤ d) (hrs : (rest.map fun v => v.category).sum ≤ 8) (hb : ERc G h b (eY N).cls) (hS : ES G l d' N (.ref b :: As) h mc' ms' Q' eNoX) (kk : ∀ (v : Option Value) (h' : EH), Q' v h' → Ex G l d M Q X k n (pc + 3) lv (v.toList ++ rest) h') : Ex G l d M Q X (k + mc') (n + ms') pc lv (As.reverse ++ .ref b :: rest) h := by
  intro p e s m args below meth c H locs ls cells slots mc ms C R S L e1 e2
  obtain ⟨n1, n2, n3, hN_⟩ := hN
  have hts := C.2.2.2.2.1
  exact e_go (va_runV (As := As) (rest := rest) ⟨C.1, C.2.1, C.2.2.1, C.2.2.2.1, C.2.2.2.2.1⟩ (es_met hN_.2.2.2.2 hS) ⟨callB_of As.length hts hN_.good rfl rfl rfl (hts _ hN_.1) (hts _ n1) hN_.2.2.1 ⟨hdd, by show 8 + (eL N + 11) + 38 * d' ≤ 38 * d; have := hN_.2.2.2.1; omega⟩, hts _ n2, hts _ n3⟩ ⟨e_blind, hb.cell R C.2.2.2.2.2.2.2.2 S, (e_pre C.2.2.2.2.2.2.2.2 S R).2⟩ rfl rfl L.1 rfl (lv_room hrs) hd ⟨by show cells + mc' ≤ mc; omega, by show slots + ms' ≤ ms; omega⟩) S (fun v h' H1 locs1 hq hR hS1 => kk v h' hq p e s m args below meth c H1 locs1 ls (cells + mc') (slots + ms') mc ms C hR hS1 L (by omega) (by omega))
theorem ex_invi {idx d' mc' ms' : Nat} {N : EM} {As : List Value} {Q' : Option Value → EH → Prop} {b : Nat} (hd : decode (eC M) pc = .ok (.invokespecial idx, 3)) (hN : ECI (eY M).cls idx N As.length) (hdd : d' + 1 ≤ d) (hrs : (rest.map fun v => v.category).sum ≤ 8) (hS : ES G l d' N (.ref b :: As) h mc' ms' Q' eNoX) (kk : ∀ (v : Option Value) (h' : EH), Q' v h' → Ex G l d M Q X k n (pc + 3) lv (v.toList ++ rest) h') : Ex G l d M Q X (k + mc') (n + ms') pc lv (As.reverse ++ .ref b :: rest) h := by
  intro p e s m args below meth c H locs ls cells slots mc ms C R S L e1 e2
  obtain ⟨n1, n2, n3, n4, hN_⟩ := hN
  have hts := C.2.2.2.2.1
  have hm := es_met hN_.2.2.2.2 hS
  have hg := hN_.good
  rw [n4] at hm hg
  exact e_go (va_runI (As := As) (rest := rest) ⟨C.1, C.2.1, C.2.2.1, C.2.2.2.1, C.2.2.2.2.1⟩ hm ⟨callB_of As.length hts hg rfl rfl rfl (hts _ hN_.1) (hts _ n1) hN_.2.2.1 ⟨hdd, by show 8 + (eL N + 11) + 38 * d' ≤ 38 * d; have := hN_.2.2.2.1; omega⟩, n3, hts _ n2⟩ (e_pre C.2.2.2.2.2.2.2.2 S R) rfl rfl L.1 rfl (lv_room hrs) hd ⟨by show cells + mc' ≤ mc; omega, by show slots + ms' ≤ ms; omega⟩) S (fun v h' H1 locs1 hq hR hS1 => kk v h' hq p e s m args below meth c H1 locs1 ls (cells + mc') (slots + ms') mc ms C hR hS1 L (by omega) (by omega))
theorem ex_inviN {idx d' mc' ms' : Nat} {N : EM} {As : List Value} {Q' : Option Value → EH → Prop} {b : Nat} (hd : decode (eC M) pc = .ok (.invokespecial idx, 3)) (hN : ECIN (eY M).cls idx N As.length) (hdd : d' + 1 ≤ d) (hrs : (rest.map fun v => v.category).sum ≤ 8) (hS : ES G l d' N (.ref b :: As) h mc' ms' Q' eNoX) (kk : ∀ (v : Option Value) (h' : EH), Q' v h' → Ex G l d M Q X k n (pc + 3) lv (v.toList ++ rest) h') : Ex G l d M Q X (k + mc') (n + ms') pc lv (As.reverse ++ .ref b :: rest) h := by
  intro p e s m args below meth c H locs ls cells slots mc ms C R S L e1 e2
  obtain ⟨⟨host, n1⟩, n2, n3, n4, hN_⟩ := hN
  have hts := C.2.2.2.2.1
  have hm := es_met hN_.2.2.2.2 hS
  have hg := hN_.good
  rw [n4] at hm hg
  exact e_go (va_runIN (As := As) (rest := rest) ⟨C.1, C.2.1, C.2.2.1, C.2.2.2.1, C.2.2.2.2.1⟩ hm ⟨va_cnB As.length hts hg rfl rfl rfl (C.2.2.2.2.2.2.2.2.2.2.2.2.2.1 _ _ _ _ n1) (hts _ hN_.1) hN_.2.2.1 ⟨hdd, by show 8 + (eL N + 11) + 38 * d' ≤ 38 * d; have := hN_.2.2.2.1; omega⟩, n3, hts _ n2⟩ (e_pre C.2.2.2.2.2.2.2.2 S R) rfl rfl L.1 rfl (lv_room hrs) hd ⟨by show cells + mc' ≤ mc; omega, by show slots + ms' ≤ ms; omega⟩) S (fun v h' H1 locs1 hq hR hS1 => kk v h' hq p e s m args below meth c H1 locs1 ls (cells + mc') (slots + ms') mc ms C hR hS1 L (by omega) (by omega))
/-- Object's constructor -/
theorem ex_obj {idx a : Nat} (hd : decode (eC M) pc = .ok (.invokespecial idx, 3)) (hl : Cond.methodLink (eY M).cls idx objectInit ∈ egood) (hi : Cond.instanceMethod objectInit ∈ egood) (hc : Cond.code objectInit ⟨#[0xb1]⟩ 1 none ∈ egood) (hdd : 1 ≤ d) (hrs : (rest.map fun v => v.category).sum ≤ 8) (kk : Ex G l d M Q X k n (pc + 3) lv rest h) : Ex G l d M Q X k n pc lv (.ref a :: rest) h := by
  intro p e s m args below meth c H locs ls cells slots mc ms C R S L e1 e2
  have hts := C.2.2.2.2.1
  exact W.objInit C.1 C.2.1 C.2.2.2.1 (hts _ hl) (hts _ hi) (hts _ hc) rfl (by rw [C.2.2.1]; exact L.1) rfl hd hdd (by have h9 := lv_room (m := m) (pc := pc) (ls := ls) (rest := .ref a :: rest) hrs; show _ + 12 ≤ 38 * d; omega) (kk p e s m args below meth c H locs ls cells slots mc ms C R S L e1 e2)
/-- a method that a class has from another (an enum constant's ordinal) -/
theorem ex_invU {idx d' b : Nat} {N : EM} {Q' : Option Value → EH → Prop} {x : MethodName} (hd : decode (eC M) pc = .ok (.invokevirtual idx, 3)) (hl : Cond.methodLink (eY M).cls idx x ∈ egood) (hsm : Cond.sameMethod x.cls (eY N).cls x.name x.desc ∈ egood) (hsel : Cond.selects x.cls x (eY N) ∈ egood) (hin : Cond.instanceMethod (eY N) ∈ egood) (hyx : eY N = ⟨(eY N).cls, x.name, x.desc⟩) (hN_ : ECA N 0) (hdd : d' + 1 ≤ d) (hrs : (rest.map fun v => v.category).sum ≤ 8) (hb : ERc G h b x.cls) (hS : ES G l d' N [.ref b] h 0 0 Q' eNoX) (kk : ∀ (v : Option Value) (h' : EH), Q' v h' → Ex G l d M Q X k n (pc + 3) lv (v.toList ++ rest) h') : Ex G l d M Q X k n pc lv (.ref b :: rest) h := by
  intro p e s m args below meth c H locs ls cells slots mc ms C R S L e1 e2
  have hts := C.2.2.2.2.1
  have hdesc : x.desc = (eY N).desc := by rw [hyx]
  have hT : GoodIn egood (va_wsU (eY M).cls idx x.cls (eY N).cls x (eY N) (Cond.code (eY N) (eC N) (eL N) (eR N) :: egood)) := by
    intro w hw
    unfold va_wsU at hw
    rcases List.mem_append.mp hw with hw | hw
    · refine egood_all w ?_
      rcases List.mem_cons.mp hw with e | hw
      · rw [e]; exact hl
      rcases List.mem_cons.mp hw with e | hw
      · rw [e]; exact hsm
      rcases List.mem_cons.mp hw with e | hw
      · rw [e]; exact hsel
      rcases List.mem_cons.mp hw with e | hw
      · rw [e]; exact hin
      rcases List.mem_cons.mp hw with e | hw
      · rw [e]; exact hN_.1
      · cases hw
    · exact hN_.good w hw
  exact e_go (va_runU (As := []) (rest := rest) (C := x.cls) ⟨C.1, C.2.1, C.2.2.1, C.2.2.2.1, C.2.2.2.2.1⟩ (es_met hN_.2.2.2.2 hS) (va_cwU (x := x) 0 hts hT rfl rfl rfl hyx ⟨hN_.2.2.1.1, hN_.2.2.1.2.1, by rw [hdesc]; exact hN_.2.2.1.2.2⟩ ⟨hdd, by show 8 + (eL N + 11) + 38 * d' ≤ 38 * d; have := hN_.2.2.2.1; omega⟩) ⟨e_blind, hb.cell R C.2.2.2.2.2.2.2.2 S, (e_pre C.2.2.2.2.2.2.2.2 S R).2⟩ rfl rfl L.1 rfl (lv_room hrs) hd ⟨by show cells + 0 ≤ mc; omega, by show slots + 0 ≤ ms; omega⟩) S (fun v h' H1 locs1 hq hR hS1 => kk v h' hq p e s m args below meth c H1 locs1 ls (cells + 0) (slots + 0) mc ms C hR hS1 L (by omega) (by omega))
end EXC
theorem tst3 : goodWord (.sameMethod "a" "a" "b" "c") = true := rfl
theorem tst4 : goodWord (.selects "a" ⟨"a", "b", "c"⟩ ⟨"a", "b", "c"⟩) = true := rfl
theorem tst5 : goodWord (.constant "a" 1 5) = true := rfl
end
section
/-! METHOD DATA AND LINKS, by program (wip/whole/gen_links.py) -/
def mX11_init : EM := (yX11_init, cX11_init, 2, none, [])
def mX10_init : EM := (yX10_init, cX10_init, 1, none, [])
def mX8_init : EM := (yX8_init, cX8_init, 2, none, [])
def mX3_init : EM := (yX3_init, cX3_init, 2, none, [])
def mX9_init : EM := (yX9_init, cX9_init, 1, none, [])
def mJ9_min_7cf53 : EM := (yJ9_min_7cf53, cJ9_min_7cf53, 2, (some .int), [])
def mJ9_max_7cf53 : EM := (yJ9_max_7cf53, cJ9_max_7cf53, 2, (some .int), [])
def mX6_init : EM := (yX6_init, cX6_init, 2, none, [])
def mX1_init : EM := (yX1_init, cX1_init, 1, none, [])
def mX7_init : EM := (yX7_init, cX7_init, 1, none, [])
def mX11_write : EM := (yX11_write, cX11_write, 3, (some .boolean), [])
def mX10_append : EM := (yX10_append, cX10_append, 6, (some .boolean), [])
def mX11_byteOf : EM := (yX11_byteOf, cX11_byteOf, 3, (some .int), [])
def mX10_appendCode : EM := (yX10_appendCode, cX10_appendCode, 2, none, [])
def mX11_position : EM := (yX11_position, cX11_position, 1, (some .int), [])
def mX11_cut : EM := (yX11_cut, cX11_cut, 2, (some .boolean), [])
def mX3_shorten : EM := (yX3_shorten, cX3_shorten, 2, (some .boolean), [])
def mX11_fault : EM := (yX11_fault, cX11_fault, 1, (some .int), [])
def mX11_made : EM := (yX11_made, cX11_made, 4, (some .int), [])
def mX7_productAt : EM := (yX7_productAt, cX7_productAt, 4, (some .int), [])
def mX7_has : EM := (yX7_has, cX7_has, 4, (some .boolean), [])
def mX11_cellOf : EM := (yX11_cellOf, cX11_cellOf, 3, (some .int), [])
def mX11_flow : EM := (yX11_flow, cX11_flow, 3, (some .int), [])
def mX7_hasType : EM := (yX7_hasType, cX7_hasType, 2, (some .boolean), [])
def mX7_stepsBetween : EM := (yX7_stepsBetween, cX7_stepsBetween, 5, (some .int), [])
def mX11_hasBit : EM := (yX11_hasBit, cX11_hasBit, 2, (some .boolean), [])
def mX7_spread : EM := (yX7_spread, cX7_spread, 5, (some .int), [])
def mX7_flowsInOneStep : EM := (yX7_flowsInOneStep, cX7_flowsInOneStep, 4, (some .boolean), [])
def mX7_permitted : EM := (yX7_permitted, cX7_permitted, 5, (some .int), [])
def mX7_rankOf : EM := (yX7_rankOf, cX7_rankOf, 2, (some .int), [])
def mX7_maskAt : EM := (yX7_maskAt, cX7_maskAt, 3, (some .int), [])
def mX7_hasMask : EM := (yX7_hasMask, cX7_hasMask, 3, (some .boolean), [])
def mX7_allowedAt : EM := (yX7_allowedAt, cX7_allowedAt, 4, (some .int), [])
def mX11_count : EM := (yX11_count, cX11_count, 2, (some .int), [])
def mX7_types : EM := (yX7_types, cX7_types, 1, (some .int), [])
def mX7_classes : EM := (yX7_classes, cX7_classes, 1, (some .int), [])
def mX6_hits : EM := (yX6_hits, cX6_hits, 1, (some .int), [])
def mX6_misses : EM := (yX6_misses, cX6_misses, 1, (some .int), [])
def mX6_size : EM := (yX6_size, cX6_size, 1, (some .int), [])
def mX3_size : EM := (yX3_size, cX3_size, 1, (some .int), [])
def mX11_image : EM := (yX11_image, cX11_image, 1, (some .int), [])
def mX4_encode : EM := (yX4_encode, cX4_encode, 3, none, [])
def mX1_clear : EM := (yX1_clear, cX1_clear, 1, none, [])
def mX1_push : EM := (yX1_push, cX1_push, 2, none, [])
def mX7_permissionsOf : EM := (yX7_permissionsOf, cX7_permissionsOf, 2, (some .int), [])
def mX4_encodeClass : EM := (yX4_encodeClass, cX4_encodeClass, 5, none, [])
def mX1_length : EM := (yX1_length, cX1_length, 1, (some .int), [])
def mX11_imageAt : EM := (yX11_imageAt, cX11_imageAt, 2, (some .int), [])
def mX1_byteAt : EM := (yX1_byteAt, cX1_byteAt, 2, (some .int), [])
def mX11_feed : EM := (yX11_feed, cX11_feed, 5, (some .int), [])
def mX1_room : EM := (yX1_room, cX1_room, 1, (some .int), [])
def mL_cell : EM := (yL_cell, cL_cell, 2, (some .int), [])
def mL_add : EM := (yL_add, cL_add, 3, (some .int), [(0, 8, 11, 13), (0, 8, 14, 15)])
def mX11_add : EM := (yX11_add, cX11_add, 2, (some .int), [])
def mX3_spare : EM := (yX3_spare, cX3_spare, 1, (some (.object "PolicyDesk$Statement")), [])
def mX8_parse : EM := (yX8_parse, cX8_parse, 3, (some .boolean), [])
def mX8_keyword : EM := (yX8_keyword, cX8_keyword, 4, (some .boolean), [])
def mX8_lettersShared : EM := (yX8_lettersShared, cX8_lettersShared, 3, (some .int), [])
def mJ0_length_8abf5 : EM := (yJ0_length_8abf5, cJ0_length_8abf5, 1, (some .int), [])
def mJ0_coder_7d493 : EM := (yJ0_coder_7d493, cJ0_coder_7d493, 1, (some .byte), [])
def mX10_codeAt : EM := (yX10_codeAt, cX10_codeAt, 2, (some .int), [])
def mJ0_charAt_5068e : EM := (yJ0_charAt_5068e, cJ0_charAt_5068e, 2, (some .char), [])
def mJ0_isLatin1_aae02 : EM := (yJ0_isLatin1_aae02, cJ0_isLatin1_aae02, 1, (some .boolean), [])
def mJ1_charAt_3b067 : EM := (yJ1_charAt_3b067, cJ1_charAt_3b067, 2, (some .char), [])
def mJ0_checkIndex_df160 : EM := (yJ0_checkIndex_df160, cJ0_checkIndex_df160, 2, none, [])
def mJ3_checkIndex_8e157 : EM := (yJ3_checkIndex_8e157, cJ3_checkIndex_8e157, 3, (some .int), [])
def mJ2_charAt_3b067 : EM := (yJ2_charAt_3b067, cJ2_charAt_3b067, 2, (some .char), [])
def mJ2_checkIndex_2214a : EM := (yJ2_checkIndex_2214a, cJ2_checkIndex_2214a, 2, none, [])
def mJ2_length_9d52b : EM := (yJ2_length_9d52b, cJ2_length_9d52b, 1, (some .int), [])
def mJ2_getChar_3b067 : EM := (yJ2_getChar_3b067, cJ2_getChar_3b067, 2, (some .char), [])
def mX9_begin : EM := (yX9_begin, cX9_begin, 2, none, [])
def mX9_kind : EM := (yX9_kind, cX9_kind, 1, (some (.object "PolicyDesk$Kind")), [])
def mX8_names : EM := (yX8_names, cX8_names, 4, (some .boolean), [])
def mX8_blank : EM := (yX8_blank, cX8_blank, 1, (some .boolean), [])
def mX8_name : EM := (yX8_name, cX8_name, 4, (some .boolean), [])
def mX8_isLetter : EM := (yX8_isLetter, cX8_isLetter, 1, (some .boolean), [])
def mX9_push : EM := (yX9_push, cX9_push, 2, none, [])
def mX8_mark : EM := (yX8_mark, cX8_mark, 4, (some .boolean), [])
def mJ0_isEmpty_aae02 : EM := (yJ0_isEmpty_aae02, cJ0_isEmpty_aae02, 1, (some .boolean), [])
def mX8_atEnd : EM := (yX8_atEnd, cX8_atEnd, 1, (some .boolean), [])
def mX10_length : EM := (yX10_length, cX10_length, 1, (some .int), [])
def mJ0_indexOf_0f7a4 : EM := (yJ0_indexOf_0f7a4, cJ0_indexOf_0f7a4, 2, (some .int), [])
def mJ0_indexOf_7cf53 : EM := (yJ0_indexOf_7cf53, cJ0_indexOf_7cf53, 3, (some .int), [])
def mJ1_indexOf_4cfef : EM := (yJ1_indexOf_4cfef, cJ1_indexOf_4cfef, 4, (some .int), [])
def mJ1_canEncode_9a6ad : EM := (yJ1_canEncode_9a6ad, cJ1_canEncode_9a6ad, 1, (some .boolean), [])
def mJ1_indexOfChar_4cfef : EM := (yJ1_indexOfChar_4cfef, cJ1_indexOfChar_4cfef, 6, (some .int), [])
def mJ2_indexOf_4cfef : EM := (yJ2_indexOf_4cfef, cJ2_indexOf_4cfef, 4, (some .int), [])
def mJ2_indexOfChar_4cfef : EM := (yJ2_indexOfChar_4cfef, cJ2_indexOfChar_4cfef, 4, (some .int), [])
def mJ2_checkBoundsBeginEnd_d044e : EM := (yJ2_checkBoundsBeginEnd_d044e, cJ2_checkBoundsBeginEnd_d044e, 3, none, [])
def mJ0_checkBoundsBeginEnd_23922 : EM := (yJ0_checkBoundsBeginEnd_23922, cJ0_checkBoundsBeginEnd_23922, 3, none, [])
def mJ3_checkFromToIndex_8c36e : EM := (yJ3_checkFromToIndex_8c36e, cJ3_checkFromToIndex_8c36e, 4, (some .int), [])
def mJ2_indexOfCharUnsafe_4cfef : EM := (yJ2_indexOfCharUnsafe_4cfef, cJ2_indexOfCharUnsafe_4cfef, 5, (some .int), [])
def mJ2_indexOfSupplementary_4cfef : EM := (yJ2_indexOfSupplementary_4cfef, cJ2_indexOfSupplementary_4cfef, 7, (some .int), [])
def mJ11_isValidCodePoint_9a6ad : EM := (yJ11_isValidCodePoint_9a6ad, cJ11_isValidCodePoint_9a6ad, 2, (some .boolean), [])
def mJ11_highSurrogate_5068e : EM := (yJ11_highSurrogate_5068e, cJ11_highSurrogate_5068e, 1, (some .char), [])
def mJ11_lowSurrogate_5068e : EM := (yJ11_lowSurrogate_5068e, cJ11_lowSurrogate_5068e, 1, (some .char), [])
def mX9_setMark : EM := (yX9_setMark, cX9_setMark, 2, none, [])
def mX8_list : EM := (yX8_list, cX8_list, 5, (some .boolean), [])
def mX8_stoppedAt : EM := (yX8_stoppedAt, cX8_stoppedAt, 1, (some .int), [])
def mX10_clear : EM := (yX10_clear, cX10_clear, 1, none, [])
def mX3_hasRoom : EM := (yX3_hasRoom, cX3_hasRoom, 1, (some .boolean), [])
def mX3_keepSpare : EM := (yX3_keepSpare, cX3_keepSpare, 2, (some .int), [])
def mL_accept : EM := (yL_accept, cL_accept, 3, (some .int), [(0, 8, 11, 13), (0, 8, 14, 15)])
def mX11_accept : EM := (yX11_accept, cX11_accept, 1, (some .int), [])
def mX3_firstWrong : EM := (yX3_firstWrong, cX3_firstWrong, 2, (some .int), [])
def mX3_isWrong : EM := (yX3_isWrong, cX3_isWrong, 3, (some .boolean), [])
def mJx29ce0_ordinal_8abf5 : EM := (yJx29ce0_ordinal_8abf5, cJx29ce0_ordinal_8abf5, 1, (some .int), [])
def mX3_repeats : EM := (yX3_repeats, cX3_repeats, 4, (some .boolean), [])
def mX9_beginsAs : EM := (yX9_beginsAs, cX9_beginsAs, 4, (some .boolean), [])
def mX9_word : EM := (yX9_word, cX9_word, 2, (some .int), [])
def mX9_allDifferFrom : EM := (yX9_allDifferFrom, cX9_allDifferFrom, 3, (some .boolean), [])
def mX9_find : EM := (yX9_find, cX9_find, 4, (some .int), [])
def mX3_howMany : EM := (yX3_howMany, cX3_howMany, 5, (some .int), [])
def mX3_isAttribute : EM := (yX3_isAttribute, cX3_isAttribute, 3, (some .boolean), [])
def mX3_isDoer : EM := (yX3_isDoer, cX3_isDoer, 2, (some .boolean), [])
def mX3_isType : EM := (yX3_isType, cX3_isType, 2, (some .boolean), [])
def mX3_numberOf : EM := (yX3_numberOf, cX3_numberOf, 5, (some .int), [])
def mX3_declaresPermissions : EM := (yX3_declaresPermissions, cX3_declaresPermissions, 4, (some .boolean), [])
def mX9_size : EM := (yX9_size, cX9_size, 1, (some .int), [])
def mX3_declaresPermission : EM := (yX3_declaresPermission, cX3_declaresPermission, 5, (some .boolean), [])
def mX2_compose : EM := (yX2_compose, cX2_compose, 3, none, [])
def mX7_clear : EM := (yX7_clear, cX7_clear, 1, none, [])
def mJ7_fill_53178 : EM := (yJ7_fill_53178, cJ7_fill_53178, 4, none, [])
def mX3_row : EM := (yX3_row, cX3_row, 2, (some (.object "PolicyDesk$Statement")), [])
def mX2_declare : EM := (yX2_declare, cX2_declare, 2, none, [])
def mX7_declareType : EM := (yX7_declareType, cX7_declareType, 1, none, [])
def mX7_declareClass : EM := (yX7_declareClass, cX7_declareClass, 2, none, [])
def mX2_apply : EM := (yX2_apply, cX2_apply, 3, none, [])
def mX2_allow : EM := (yX2_allow, cX2_allow, 8, none, [])
def mX3_typesNamed : EM := (yX3_typesNamed, cX3_typesNamed, 5, (some .int), [])
def mX3_maskOf : EM := (yX3_maskOf, cX3_maskOf, 7, (some .int), [])
def mX2_othersFor : EM := (yX2_othersFor, cX2_othersFor, 3, (some .int), [])
def mX7_addAllowed : EM := (yX7_addAllowed, cX7_addAllowed, 6, none, [])
def mX7_setProduct : EM := (yX7_setProduct, cX7_setProduct, 5, none, [])
def mX9_mark : EM := (yX9_mark, cX9_mark, 1, (some .int), [])
def mX7_setRank : EM := (yX7_setRank, cX7_setRank, 3, none, [])
def mX2_widen : EM := (yX2_widen, cX2_widen, 4, none, [])
def mX7_addToMask : EM := (yX7_addToMask, cX7_addToMask, 4, none, [])
def mX2_firstAgainst : EM := (yX2_firstAgainst, cX2_firstAgainst, 3, (some .int), [])
def mX2_isAgainst : EM := (yX2_isAgainst, cX2_isAgainst, 8, (some .boolean), [])
def mX7_allowsSome : EM := (yX7_allowsSome, cX7_allowsSome, 6, (some .boolean), [])
def mX11_putInForce : EM := (yX11_putInForce, cX11_putInForce, 2, (some .int), [])
def mX6_forget : EM := (yX6_forget, cX6_forget, 1, none, [])
def mL_may : EM := (yL_may, cL_may, 6, (some .int), [(0, 12, 15, 24)])
def mX11_may : EM := (yX11_may, cX11_may, 7, (some .int), [])
def mX6_recall : EM := (yX6_recall, cX6_recall, 4, (some .int), [])
def mX6_drop : EM := (yX6_drop, cX6_drop, 3, none, [])
def mX6_append : EM := (yX6_append, cX6_append, 3, none, [])
def mX6_keep : EM := (yX6_keep, cX6_keep, 3, none, [])
def mL_read : EM := (yL_read, cL_read, 3, (some .int), [(0, 8, 11, 13)])
def mX11_read : EM := (yX11_read, cX11_read, 2, (some .int), [])
def mX4_decode : EM := (yX4_decode, cX4_decode, 5, (some .boolean), [])
def mX1_rewind : EM := (yX1_rewind, cX1_rewind, 1, none, [])
def mX1_take : EM := (yX1_take, cX1_take, 4, (some .int), [])
def mX4_decodeClass : EM := (yX4_decodeClass, cX4_decodeClass, 6, none, [])
def mX7_setAllowed : EM := (yX7_setAllowed, cX7_setAllowed, 5, none, [])
def mX1_isTakenWhole : EM := (yX1_isTakenWhole, cX1_isTakenWhole, 1, (some .boolean), [])
def mX12_init : EM := (yX12_init, cX12_init, 2, none, [])
def mX12_thrown : EM := (yX12_thrown, cX12_thrown, 1, (some .int), [])
def mX12_write : EM := (yX12_write, cX12_write, 6, (some .boolean), [])
def mX12_add : EM := (yX12_add, cX12_add, 2, (some .int), [])
def mX12_readStatement : EM := (yX12_readStatement, cX12_readStatement, 4, (some .boolean), [])
def mX12_readKind : EM := (yX12_readKind, cX12_readKind, 8, (some .int), [])
def mX12_keyword : EM := (yX12_keyword, cX12_keyword, 1, (some .int), [])
def mX12_word : EM := (yX12_word, cX12_word, 6, (some .int), [])
def mX12_isLetter : EM := (yX12_isLetter, cX12_isLetter, 1, (some .boolean), [])
def mX12_here : EM := (yX12_here, cX12_here, 1, (some .char), [])
def mX12_readNames : EM := (yX12_readNames, cX12_readNames, 6, (some .boolean), [])
def mX12_readName : EM := (yX12_readName, cX12_readName, 3, (some .int), [])
def mX12_readExtra : EM := (yX12_readExtra, cX12_readExtra, 5, (some .boolean), [])
def mX12_position : EM := (yX12_position, cX12_position, 1, (some .int), [])
def mX12_cut : EM := (yX12_cut, cX12_cut, 2, (some .boolean), [])
def mX12_accept : EM := (yX12_accept, cX12_accept, 4, (some .int), [])
def mX12_firstWrong : EM := (yX12_firstWrong, cX12_firstWrong, 3, (some .int), [])
def mX12_isWrong : EM := (yX12_isWrong, cX12_isWrong, 5, (some .boolean), [])
def mX12_nameAt : EM := (yX12_nameAt, cX12_nameAt, 3, (some .int), [])
def mX12_before : EM := (yX12_before, cX12_before, 6, (some .int), [])
def mX12_allDifferent : EM := (yX12_allDifferent, cX12_allDifferent, 5, (some .boolean), [])
def mX12_isAttribute : EM := (yX12_isAttribute, cX12_isAttribute, 5, (some .boolean), [])
def mX12_twice : EM := (yX12_twice, cX12_twice, 3, (some .boolean), [])
def mX12_isType : EM := (yX12_isType, cX12_isType, 2, (some .boolean), [])
def mX12_isClass : EM := (yX12_isClass, cX12_isClass, 2, (some .boolean), [])
def mX12_isSelf : EM := (yX12_isSelf, cX12_isSelf, 1, (some .boolean), [])
def mX12_arePermissions : EM := (yX12_arePermissions, cX12_arePermissions, 6, (some .boolean), [])
def mX12_isPermission : EM := (yX12_isPermission, cX12_isPermission, 6, (some .boolean), [])
def mX12_firstAgainst : EM := (yX12_firstAgainst, cX12_firstAgainst, 6, (some .int), [])
def mX12_shared : EM := (yX12_shared, cX12_shared, 6, (some .boolean), [])
def mX12_isAbout : EM := (yX12_isAbout, cX12_isAbout, 5, (some .boolean), [])
def mX12_typeStatement : EM := (yX12_typeStatement, cX12_typeStatement, 4, (some .int), [])
def mX12_standsFor : EM := (yX12_standsFor, cX12_standsFor, 5, (some .boolean), [])
def mX12_begin : EM := (yX12_begin, cX12_begin, 2, none, [])
def mX12_put : EM := (yX12_put, cX12_put, 7, none, [])
def mX12_classNumber : EM := (yX12_classNumber, cX12_classNumber, 3, (some .int), [])
def mX12_maskOf : EM := (yX12_maskOf, cX12_maskOf, 9, (some .int), [])
def mX12_typeNumber : EM := (yX12_typeNumber, cX12_typeNumber, 3, (some .int), [])
def mX12_fault : EM := (yX12_fault, cX12_fault, 1, (some .int), [])
def mX12_may : EM := (yX12_may, cX12_may, 8, (some .int), [])
def mX12_isThere : EM := (yX12_isThere, cX12_isThere, 4, (some .boolean), [])
def mX12_worked : EM := (yX12_worked, cX12_worked, 5, (some .int), [])
def mX12_made : EM := (yX12_made, cX12_made, 4, (some .int), [])
def mX12_flow : EM := (yX12_flow, cX12_flow, 6, (some .int), [])
def mX12_flows : EM := (yX12_flows, cX12_flows, 5, (some .boolean), [])
def mX12_count : EM := (yX12_count, cX12_count, 2, (some .int), [])
def mX12_image : EM := (yX12_image, cX12_image, 3, (some .int), [])
def mX12_say : EM := (yX12_say, cX12_say, 2, none, [])
def mX12_imageAt : EM := (yX12_imageAt, cX12_imageAt, 2, (some .int), [])
def mX12_feed : EM := (yX12_feed, cX12_feed, 5, (some .int), [])
def mX12_read : EM := (yX12_read, cX12_read, 6, (some .int), [])
def mX12_wellFormed : EM := (yX12_wellFormed, cX12_wellFormed, 9, (some .boolean), [])
def mX12_in : EM := (yX12_in, cX12_in, 3, (some .boolean), [])
theorem innX1 : ∀ w ∈ u_ws RX1 TX1 4, w ∈ egood := by decide +kernel
theorem innX3 : ∀ w ∈ u_ws RX3 TX3 2, w ∈ egood := by decide +kernel
theorem innX6 : ∀ w ∈ u_ws RX6 TX6 5, w ∈ egood := by decide +kernel
theorem innX7 : ∀ w ∈ u_ws RX7 TX7 7, w ∈ egood := by decide +kernel
theorem innX8 : ∀ w ∈ u_ws RX8 TX8 2, w ∈ egood := by decide +kernel
theorem innX9 : ∀ w ∈ u_ws RX9 TX9 4, w ∈ egood := by decide +kernel
theorem innX10 : ∀ w ∈ u_ws RX10 TX10 2, w ∈ egood := by decide +kernel
theorem innX11 : ∀ w ∈ u_ws RX11 TX11 10, w ∈ egood := by decide +kernel
theorem innX12 : ∀ w ∈ u_ws RX12 TX12 32, w ∈ egood := by decide +kernel
theorem caX11_init : ECA mX11_init 1 := ⟨eg 58 (by decide +kernel) rfl, eg 89 (by decide +kernel) rfl, ⟨by decide +kernel, by decide +kernel, by decide +kernel⟩, by decide, rfl⟩
theorem caX10_init : ECA mX10_init 0 := ⟨eg 59 (by decide +kernel) rfl, eg 97 (by decide +kernel) rfl, ⟨by decide +kernel, by decide +kernel, by decide +kernel⟩, by decide, rfl⟩
theorem caX8_init : ECA mX8_init 1 := ⟨eg 60 (by decide +kernel) rfl, eg 111 (by decide +kernel) rfl, ⟨by decide +kernel, by decide +kernel, by decide +kernel⟩, by decide, rfl⟩
theorem caX3_init : ECA mX3_init 0 := ⟨eg 61 (by decide +kernel) rfl, eg 124 (by decide +kernel) rfl, ⟨by decide +kernel, by decide +kernel, by decide +kernel⟩, by decide, rfl⟩
theorem caX9_init : ECA mX9_init 0 := ⟨eg 62 (by decide +kernel) rfl, eg 131 (by decide +kernel) rfl, ⟨by decide +kernel, by decide +kernel, by decide +kernel⟩, by decide, rfl⟩
theorem caJ9_min_7cf53 : ECA mJ9_min_7cf53 2 := ⟨eg 66 (by decide +kernel) rfl, eg 159 (by decide +kernel) rfl, ⟨by decide +kernel, by decide +kernel, by decide +kernel⟩, by decide, rfl⟩
theorem caJ9_max_7cf53 : ECA mJ9_max_7cf53 2 := ⟨eg 66 (by decide +kernel) rfl, eg 162 (by decide +kernel) rfl, ⟨by decide +kernel, by decide +kernel, by decide +kernel⟩, by decide, rfl⟩
theorem caX6_init : ECA mX6_init 1 := ⟨eg 65 (by decide +kernel) rfl, eg 165 (by decide +kernel) rfl, ⟨by decide +kernel, by decide +kernel, by decide +kernel⟩, by decide, rfl⟩
theorem caX1_init : ECA mX1_init 0 := ⟨eg 67 (by decide +kernel) rfl, eg 187 (by decide +kernel) rfl, ⟨by decide +kernel, by decide +kernel, by decide +kernel⟩, by decide, rfl⟩
theorem caX7_init : ECA mX7_init 0 := ⟨eg 68 (by decide +kernel) rfl, eg 206 (by decide +kernel) rfl, ⟨by decide +kernel, by decide +kernel, by decide +kernel⟩, by decide, rfl⟩
theorem caX11_write : ECA mX11_write 1 := ⟨eg 58 (by decide +kernel) rfl, eg 264 (by decide +kernel) rfl, ⟨by decide +kernel, by decide +kernel, by decide +kernel⟩, by decide, rfl⟩
theorem caX10_append : ECA mX10_append 1 := ⟨eg 59 (by decide +kernel) rfl, eg 268 (by decide +kernel) rfl, ⟨by decide +kernel, by decide +kernel, by decide +kernel⟩, by decide, rfl⟩
theorem caX11_byteOf : ECA mX11_byteOf 2 := ⟨eg 58 (by decide +kernel) rfl, eg 271 (by decide +kernel) rfl, ⟨by decide +kernel, by decide +kernel, by decide +kernel⟩, by decide, rfl⟩
theorem caX10_appendCode : ECA mX10_appendCode 1 := ⟨eg 59 (by decide +kernel) rfl, eg 275 (by decide +kernel) rfl, ⟨by decide +kernel, by decide +kernel, by decide +kernel⟩, by decide, rfl⟩
theorem caX11_position : ECA mX11_position 0 := ⟨eg 58 (by decide +kernel) rfl, eg 279 (by decide +kernel) rfl, ⟨by decide +kernel, by decide +kernel, by decide +kernel⟩, by decide, rfl⟩
theorem caX11_cut : ECA mX11_cut 1 := ⟨eg 58 (by decide +kernel) rfl, eg 283 (by decide +kernel) rfl, ⟨by decide +kernel, by decide +kernel, by decide +kernel⟩, by decide, rfl⟩
theorem caX3_shorten : ECA mX3_shorten 1 := ⟨eg 61 (by decide +kernel) rfl, eg 287 (by decide +kernel) rfl, ⟨by decide +kernel, by decide +kernel, by decide +kernel⟩, by decide, rfl⟩
theorem caX11_fault : ECA mX11_fault 0 := ⟨eg 58 (by decide +kernel) rfl, eg 291 (by decide +kernel) rfl, ⟨by decide +kernel, by decide +kernel, by decide +kernel⟩, by decide, rfl⟩
theorem caX11_made : ECA mX11_made 3 := ⟨eg 58 (by decide +kernel) rfl, eg 295 (by decide +kernel) rfl, ⟨by decide +kernel, by decide +kernel, by decide +kernel⟩, by decide, rfl⟩
theorem caX7_productAt : ECA mX7_productAt 3 := ⟨eg 68 (by decide +kernel) rfl, eg 299 (by decide +kernel) rfl, ⟨by decide +kernel, by decide +kernel, by decide +kernel⟩, by decide, rfl⟩
theorem caX7_has : ECA mX7_has 3 := ⟨eg 68 (by decide +kernel) rfl, eg 303 (by decide +kernel) rfl, ⟨by decide +kernel, by decide +kernel, by decide +kernel⟩, by decide, rfl⟩
theorem caX11_cellOf : ECA mX11_cellOf 3 := ⟨eg 58 (by decide +kernel) rfl, eg 306 (by decide +kernel) rfl, ⟨by decide +kernel, by decide +kernel, by decide +kernel⟩, by decide, rfl⟩
theorem caX11_flow : ECA mX11_flow 2 := ⟨eg 58 (by decide +kernel) rfl, eg 310 (by decide +kernel) rfl, ⟨by decide +kernel, by decide +kernel, by decide +kernel⟩, by decide, rfl⟩
theorem caX7_hasType : ECA mX7_hasType 1 := ⟨eg 68 (by decide +kernel) rfl, eg 314 (by decide +kernel) rfl, ⟨by decide +kernel, by decide +kernel, by decide +kernel⟩, by decide, rfl⟩
theorem caX7_stepsBetween : ECA mX7_stepsBetween 2 := ⟨eg 68 (by decide +kernel) rfl, eg 318 (by decide +kernel) rfl, ⟨by decide +kernel, by decide +kernel, by decide +kernel⟩, by decide, rfl⟩
theorem caX11_hasBit : ECA mX11_hasBit 2 := ⟨eg 58 (by decide +kernel) rfl, eg 321 (by decide +kernel) rfl, ⟨by decide +kernel, by decide +kernel, by decide +kernel⟩, by decide, rfl⟩
theorem caX7_spread : ECA mX7_spread 1 := ⟨eg 68 (by decide +kernel) rfl, eg 325 (by decide +kernel) rfl, ⟨by decide +kernel, by decide +kernel, by decide +kernel⟩, by decide, rfl⟩
theorem caX7_flowsInOneStep : ECA mX7_flowsInOneStep 2 := ⟨eg 68 (by decide +kernel) rfl, eg 329 (by decide +kernel) rfl, ⟨by decide +kernel, by decide +kernel, by decide +kernel⟩, by decide, rfl⟩
theorem caX7_permitted : ECA mX7_permitted 3 := ⟨eg 68 (by decide +kernel) rfl, eg 333 (by decide +kernel) rfl, ⟨by decide +kernel, by decide +kernel, by decide +kernel⟩, by decide, rfl⟩
theorem caX7_rankOf : ECA mX7_rankOf 1 := ⟨eg 68 (by decide +kernel) rfl, eg 337 (by decide +kernel) rfl, ⟨by decide +kernel, by decide +kernel, by decide +kernel⟩, by decide, rfl⟩
theorem caX7_maskAt : ECA mX7_maskAt 2 := ⟨eg 68 (by decide +kernel) rfl, eg 342 (by decide +kernel) rfl, ⟨by decide +kernel, by decide +kernel, by decide +kernel⟩, by decide, rfl⟩
theorem caX7_hasMask : ECA mX7_hasMask 2 := ⟨eg 68 (by decide +kernel) rfl, eg 346 (by decide +kernel) rfl, ⟨by decide +kernel, by decide +kernel, by decide +kernel⟩, by decide, rfl⟩
theorem caX7_allowedAt : ECA mX7_allowedAt 3 := ⟨eg 68 (by decide +kernel) rfl, eg 350 (by decide +kernel) rfl, ⟨by decide +kernel, by decide +kernel, by decide +kernel⟩, by decide, rfl⟩
theorem caX11_count : ECA mX11_count 1 := ⟨eg 58 (by decide +kernel) rfl, eg 354 (by decide +kernel) rfl, ⟨by decide +kernel, by decide +kernel, by decide +kernel⟩, by decide, rfl⟩
theorem caX7_types : ECA mX7_types 0 := ⟨eg 68 (by decide +kernel) rfl, eg 358 (by decide +kernel) rfl, ⟨by decide +kernel, by decide +kernel, by decide +kernel⟩, by decide, rfl⟩
theorem caX7_classes : ECA mX7_classes 0 := ⟨eg 68 (by decide +kernel) rfl, eg 362 (by decide +kernel) rfl, ⟨by decide +kernel, by decide +kernel, by decide +kernel⟩, by decide, rfl⟩
theorem caX6_hits : ECA mX6_hits 0 := ⟨eg 65 (by decide +kernel) rfl, eg 366 (by decide +kernel) rfl, ⟨by decide +kernel, by decide +kernel, by decide +kernel⟩, by decide, rfl⟩
theorem caX6_misses : ECA mX6_misses 0 := ⟨eg 65 (by decide +kernel) rfl, eg 370 (by decide +kernel) rfl, ⟨by decide +kernel, by decide +kernel, by decide +kernel⟩, by decide, rfl⟩
theorem caX6_size : ECA mX6_size 0 := ⟨eg 65 (by decide +kernel) rfl, eg 374 (by decide +kernel) rfl, ⟨by decide +kernel, by decide +kernel, by decide +kernel⟩, by decide, rfl⟩
theorem caX3_size : ECA mX3_size 0 := ⟨eg 61 (by decide +kernel) rfl, eg 378 (by decide +kernel) rfl, ⟨by decide +kernel, by decide +kernel, by decide +kernel⟩, by decide, rfl⟩
theorem caX11_image : ECA mX11_image 0 := ⟨eg 58 (by decide +kernel) rfl, eg 382 (by decide +kernel) rfl, ⟨by decide +kernel, by decide +kernel, by decide +kernel⟩, by decide, rfl⟩
theorem caX4_encode : ECA mX4_encode 2 := ⟨eg 84 (by decide +kernel) rfl, eg 385 (by decide +kernel) rfl, ⟨by decide +kernel, by decide +kernel, by decide +kernel⟩, by decide, rfl⟩
theorem caX1_clear : ECA mX1_clear 0 := ⟨eg 67 (by decide +kernel) rfl, eg 389 (by decide +kernel) rfl, ⟨by decide +kernel, by decide +kernel, by decide +kernel⟩, by decide, rfl⟩
theorem caX1_push : ECA mX1_push 1 := ⟨eg 67 (by decide +kernel) rfl, eg 394 (by decide +kernel) rfl, ⟨by decide +kernel, by decide +kernel, by decide +kernel⟩, by decide, rfl⟩
theorem caX7_permissionsOf : ECA mX7_permissionsOf 1 := ⟨eg 68 (by decide +kernel) rfl, eg 399 (by decide +kernel) rfl, ⟨by decide +kernel, by decide +kernel, by decide +kernel⟩, by decide, rfl⟩
theorem caX4_encodeClass : ECA mX4_encodeClass 3 := ⟨eg 84 (by decide +kernel) rfl, eg 403 (by decide +kernel) rfl, ⟨by decide +kernel, by decide +kernel, by decide +kernel⟩, by decide, rfl⟩
theorem caX1_length : ECA mX1_length 0 := ⟨eg 67 (by decide +kernel) rfl, eg 410 (by decide +kernel) rfl, ⟨by decide +kernel, by decide +kernel, by decide +kernel⟩, by decide, rfl⟩
theorem caX11_imageAt : ECA mX11_imageAt 1 := ⟨eg 58 (by decide +kernel) rfl, eg 414 (by decide +kernel) rfl, ⟨by decide +kernel, by decide +kernel, by decide +kernel⟩, by decide, rfl⟩
theorem caX1_byteAt : ECA mX1_byteAt 1 := ⟨eg 67 (by decide +kernel) rfl, eg 418 (by decide +kernel) rfl, ⟨by decide +kernel, by decide +kernel, by decide +kernel⟩, by decide, rfl⟩
theorem caX11_feed : ECA mX11_feed 2 := ⟨eg 58 (by decide +kernel) rfl, eg 422 (by decide +kernel) rfl, ⟨by decide +kernel, by decide +kernel, by decide +kernel⟩, by decide, rfl⟩
theorem caX1_room : ECA mX1_room 0 := ⟨eg 67 (by decide +kernel) rfl, eg 426 (by decide +kernel) rfl, ⟨by decide +kernel, by decide +kernel, by decide +kernel⟩, by decide, rfl⟩
theorem caL_cell : ECA mL_cell 2 := ⟨eg 57 (by decide +kernel) rfl, eg 431 (by decide +kernel) rfl, ⟨by decide +kernel, by decide +kernel, by decide +kernel⟩, by decide, rfl⟩
theorem caX11_add : ECA mX11_add 0 := ⟨eg 58 (by decide +kernel) rfl, eg 440 (by decide +kernel) rfl, ⟨by decide +kernel, by decide +kernel, by decide +kernel⟩, by decide, rfl⟩
theorem caX3_spare : ECA mX3_spare 0 := ⟨eg 61 (by decide +kernel) rfl, eg 444 (by decide +kernel) rfl, ⟨by decide +kernel, by decide +kernel, by decide +kernel⟩, by decide, rfl⟩
theorem caX8_parse : ECA mX8_parse 1 := ⟨eg 60 (by decide +kernel) rfl, eg 448 (by decide +kernel) rfl, ⟨by decide +kernel, by decide +kernel, by decide +kernel⟩, by decide, rfl⟩
theorem caX8_keyword : ECA mX8_keyword 1 := ⟨eg 60 (by decide +kernel) rfl, eg 452 (by decide +kernel) rfl, ⟨by decide +kernel, by decide +kernel, by decide +kernel⟩, by decide, rfl⟩
theorem caX8_lettersShared : ECA mX8_lettersShared 1 := ⟨eg 60 (by decide +kernel) rfl, eg 458 (by decide +kernel) rfl, ⟨by decide +kernel, by decide +kernel, by decide +kernel⟩, by decide, rfl⟩
theorem caJ0_length_8abf5 : ECA mJ0_length_8abf5 0 := ⟨eg 70 (by decide +kernel) rfl, eg 462 (by decide +kernel) rfl, ⟨by decide +kernel, by decide +kernel, by decide +kernel⟩, by decide, rfl⟩
theorem caJ0_coder_7d493 : ECA mJ0_coder_7d493 0 := ⟨eg 70 (by decide +kernel) rfl, eg 466 (by decide +kernel) rfl, ⟨by decide +kernel, by decide +kernel, by decide +kernel⟩, by decide, rfl⟩
theorem caX10_codeAt : ECA mX10_codeAt 1 := ⟨eg 59 (by decide +kernel) rfl, eg 472 (by decide +kernel) rfl, ⟨by decide +kernel, by decide +kernel, by decide +kernel⟩, by decide, rfl⟩
theorem caJ0_charAt_5068e : ECA mJ0_charAt_5068e 1 := ⟨eg 70 (by decide +kernel) rfl, eg 476 (by decide +kernel) rfl, ⟨by decide +kernel, by decide +kernel, by decide +kernel⟩, by decide, rfl⟩
theorem caJ0_isLatin1_aae02 : ECA mJ0_isLatin1_aae02 0 := ⟨eg 70 (by decide +kernel) rfl, eg 480 (by decide +kernel) rfl, ⟨by decide +kernel, by decide +kernel, by decide +kernel⟩, by decide, rfl⟩
theorem caJ1_charAt_3b067 : ECA mJ1_charAt_3b067 2 := ⟨eg 71 (by decide +kernel) rfl, eg 483 (by decide +kernel) rfl, ⟨by decide +kernel, by decide +kernel, by decide +kernel⟩, by decide, rfl⟩
theorem caJ0_checkIndex_df160 : ECA mJ0_checkIndex_df160 2 := ⟨eg 70 (by decide +kernel) rfl, eg 486 (by decide +kernel) rfl, ⟨by decide +kernel, by decide +kernel, by decide +kernel⟩, by decide, rfl⟩
theorem caJ3_checkIndex_8e157 : ECA mJ3_checkIndex_8e157 3 := ⟨eg 72 (by decide +kernel) rfl, eg 491 (by decide +kernel) rfl, ⟨by decide +kernel, by decide +kernel, by decide +kernel⟩, by decide, rfl⟩
theorem caJ2_charAt_3b067 : ECA mJ2_charAt_3b067 2 := ⟨eg 73 (by decide +kernel) rfl, eg 494 (by decide +kernel) rfl, ⟨by decide +kernel, by decide +kernel, by decide +kernel⟩, by decide, rfl⟩
theorem caJ2_checkIndex_2214a : ECA mJ2_checkIndex_2214a 2 := ⟨eg 73 (by decide +kernel) rfl, eg 497 (by decide +kernel) rfl, ⟨by decide +kernel, by decide +kernel, by decide +kernel⟩, by decide, rfl⟩
theorem caJ2_length_9d52b : ECA mJ2_length_9d52b 1 := ⟨eg 73 (by decide +kernel) rfl, eg 500 (by decide +kernel) rfl, ⟨by decide +kernel, by decide +kernel, by decide +kernel⟩, by decide, rfl⟩
theorem caJ2_getChar_3b067 : ECA mJ2_getChar_3b067 2 := ⟨eg 73 (by decide +kernel) rfl, eg 504 (by decide +kernel) rfl, ⟨by decide +kernel, by decide +kernel, by decide +kernel⟩, by decide, rfl⟩
theorem caX9_begin : ECA mX9_begin 1 := ⟨eg 62 (by decide +kernel) rfl, eg 514 (by decide +kernel) rfl, ⟨by decide +kernel, by decide +kernel, by decide +kernel⟩, by decide, rfl⟩
theorem caX9_kind : ECA mX9_kind 0 := ⟨eg 62 (by decide +kernel) rfl, eg 519 (by decide +kernel) rfl, ⟨by decide +kernel, by decide +kernel, by decide +kernel⟩, by decide, rfl⟩
theorem caX8_names : ECA mX8_names 2 := ⟨eg 60 (by decide +kernel) rfl, eg 523 (by decide +kernel) rfl, ⟨by decide +kernel, by decide +kernel, by decide +kernel⟩, by decide, rfl⟩
theorem caX8_blank : ECA mX8_blank 0 := ⟨eg 60 (by decide +kernel) rfl, eg 527 (by decide +kernel) rfl, ⟨by decide +kernel, by decide +kernel, by decide +kernel⟩, by decide, rfl⟩
theorem caX8_name : ECA mX8_name 1 := ⟨eg 60 (by decide +kernel) rfl, eg 531 (by decide +kernel) rfl, ⟨by decide +kernel, by decide +kernel, by decide +kernel⟩, by decide, rfl⟩
theorem caX8_isLetter : ECA mX8_isLetter 1 := ⟨eg 60 (by decide +kernel) rfl, eg 534 (by decide +kernel) rfl, ⟨by decide +kernel, by decide +kernel, by decide +kernel⟩, by decide, rfl⟩
theorem caX9_push : ECA mX9_push 1 := ⟨eg 62 (by decide +kernel) rfl, eg 538 (by decide +kernel) rfl, ⟨by decide +kernel, by decide +kernel, by decide +kernel⟩, by decide, rfl⟩
theorem caX8_mark : ECA mX8_mark 2 := ⟨eg 60 (by decide +kernel) rfl, eg 542 (by decide +kernel) rfl, ⟨by decide +kernel, by decide +kernel, by decide +kernel⟩, by decide, rfl⟩
theorem caJ0_isEmpty_aae02 : ECA mJ0_isEmpty_aae02 0 := ⟨eg 70 (by decide +kernel) rfl, eg 546 (by decide +kernel) rfl, ⟨by decide +kernel, by decide +kernel, by decide +kernel⟩, by decide, rfl⟩
theorem caX8_atEnd : ECA mX8_atEnd 0 := ⟨eg 60 (by decide +kernel) rfl, eg 550 (by decide +kernel) rfl, ⟨by decide +kernel, by decide +kernel, by decide +kernel⟩, by decide, rfl⟩
theorem caX10_length : ECA mX10_length 0 := ⟨eg 59 (by decide +kernel) rfl, eg 554 (by decide +kernel) rfl, ⟨by decide +kernel, by decide +kernel, by decide +kernel⟩, by decide, rfl⟩
theorem caJ0_indexOf_0f7a4 : ECA mJ0_indexOf_0f7a4 1 := ⟨eg 70 (by decide +kernel) rfl, eg 558 (by decide +kernel) rfl, ⟨by decide +kernel, by decide +kernel, by decide +kernel⟩, by decide, rfl⟩
theorem caJ0_indexOf_7cf53 : ECA mJ0_indexOf_7cf53 2 := ⟨eg 70 (by decide +kernel) rfl, eg 562 (by decide +kernel) rfl, ⟨by decide +kernel, by decide +kernel, by decide +kernel⟩, by decide, rfl⟩
theorem caJ1_indexOf_4cfef : ECA mJ1_indexOf_4cfef 4 := ⟨eg 71 (by decide +kernel) rfl, eg 566 (by decide +kernel) rfl, ⟨by decide +kernel, by decide +kernel, by decide +kernel⟩, by decide, rfl⟩
theorem caJ1_canEncode_9a6ad : ECA mJ1_canEncode_9a6ad 1 := ⟨eg 71 (by decide +kernel) rfl, eg 569 (by decide +kernel) rfl, ⟨by decide +kernel, by decide +kernel, by decide +kernel⟩, by decide, rfl⟩
theorem caJ1_indexOfChar_4cfef : ECA mJ1_indexOfChar_4cfef 4 := ⟨eg 71 (by decide +kernel) rfl, eg 574 (by decide +kernel) rfl, ⟨by decide +kernel, by decide +kernel, by decide +kernel⟩, by decide, rfl⟩
theorem caJ2_indexOf_4cfef : ECA mJ2_indexOf_4cfef 4 := ⟨eg 73 (by decide +kernel) rfl, eg 577 (by decide +kernel) rfl, ⟨by decide +kernel, by decide +kernel, by decide +kernel⟩, by decide, rfl⟩
theorem caJ2_indexOfChar_4cfef : ECA mJ2_indexOfChar_4cfef 4 := ⟨eg 73 (by decide +kernel) rfl, eg 583 (by decide +kernel) rfl, ⟨by decide +kernel, by decide +kernel, by decide +kernel⟩, by decide, rfl⟩
theorem caJ2_checkBoundsBeginEnd_d044e : ECA mJ2_checkBoundsBeginEnd_d044e 3 := ⟨eg 73 (by decide +kernel) rfl, eg 586 (by decide +kernel) rfl, ⟨by decide +kernel, by decide +kernel, by decide +kernel⟩, by decide, rfl⟩
theorem caJ0_checkBoundsBeginEnd_23922 : ECA mJ0_checkBoundsBeginEnd_23922 3 := ⟨eg 70 (by decide +kernel) rfl, eg 589 (by decide +kernel) rfl, ⟨by decide +kernel, by decide +kernel, by decide +kernel⟩, by decide, rfl⟩
theorem caJ3_checkFromToIndex_8c36e : ECA mJ3_checkFromToIndex_8c36e 4 := ⟨eg 72 (by decide +kernel) rfl, eg 592 (by decide +kernel) rfl, ⟨by decide +kernel, by decide +kernel, by decide +kernel⟩, by decide, rfl⟩
theorem caJ2_indexOfCharUnsafe_4cfef : ECA mJ2_indexOfCharUnsafe_4cfef 4 := ⟨eg 73 (by decide +kernel) rfl, eg 595 (by decide +kernel) rfl, ⟨by decide +kernel, by decide +kernel, by decide +kernel⟩, by decide, rfl⟩
theorem caJ2_indexOfSupplementary_4cfef : ECA mJ2_indexOfSupplementary_4cfef 4 := ⟨eg 73 (by decide +kernel) rfl, eg 598 (by decide +kernel) rfl, ⟨by decide +kernel, by decide +kernel, by decide +kernel⟩, by decide, rfl⟩
theorem caJ11_isValidCodePoint_9a6ad : ECA mJ11_isValidCodePoint_9a6ad 1 := ⟨eg 74 (by decide +kernel) rfl, eg 601 (by decide +kernel) rfl, ⟨by decide +kernel, by decide +kernel, by decide +kernel⟩, by decide, rfl⟩
theorem caJ11_highSurrogate_5068e : ECA mJ11_highSurrogate_5068e 1 := ⟨eg 74 (by decide +kernel) rfl, eg 604 (by decide +kernel) rfl, ⟨by decide +kernel, by decide +kernel, by decide +kernel⟩, by decide, rfl⟩
theorem caJ11_lowSurrogate_5068e : ECA mJ11_lowSurrogate_5068e 1 := ⟨eg 74 (by decide +kernel) rfl, eg 608 (by decide +kernel) rfl, ⟨by decide +kernel, by decide +kernel, by decide +kernel⟩, by decide, rfl⟩
theorem caX9_setMark : ECA mX9_setMark 1 := ⟨eg 62 (by decide +kernel) rfl, eg 613 (by decide +kernel) rfl, ⟨by decide +kernel, by decide +kernel, by decide +kernel⟩, by decide, rfl⟩
theorem caX8_list : ECA mX8_list 3 := ⟨eg 60 (by decide +kernel) rfl, eg 617 (by decide +kernel) rfl, ⟨by decide +kernel, by decide +kernel, by decide +kernel⟩, by decide, rfl⟩
theorem caX8_stoppedAt : ECA mX8_stoppedAt 0 := ⟨eg 60 (by decide +kernel) rfl, eg 621 (by decide +kernel) rfl, ⟨by decide +kernel, by decide +kernel, by decide +kernel⟩, by decide, rfl⟩
theorem caX10_clear : ECA mX10_clear 0 := ⟨eg 59 (by decide +kernel) rfl, eg 625 (by decide +kernel) rfl, ⟨by decide +kernel, by decide +kernel, by decide +kernel⟩, by decide, rfl⟩
theorem caX3_hasRoom : ECA mX3_hasRoom 0 := ⟨eg 61 (by decide +kernel) rfl, eg 697 (by decide +kernel) rfl, ⟨by decide +kernel, by decide +kernel, by decide +kernel⟩, by decide, rfl⟩
theorem caX3_keepSpare : ECA mX3_keepSpare 0 := ⟨eg 61 (by decide +kernel) rfl, eg 717 (by decide +kernel) rfl, ⟨by decide +kernel, by decide +kernel, by decide +kernel⟩, by decide, rfl⟩
theorem caX11_accept : ECA mX11_accept 0 := ⟨eg 58 (by decide +kernel) rfl, eg 725 (by decide +kernel) rfl, ⟨by decide +kernel, by decide +kernel, by decide +kernel⟩, by decide, rfl⟩
theorem caX3_firstWrong : ECA mX3_firstWrong 0 := ⟨eg 61 (by decide +kernel) rfl, eg 729 (by decide +kernel) rfl, ⟨by decide +kernel, by decide +kernel, by decide +kernel⟩, by decide, rfl⟩
theorem caX3_isWrong : ECA mX3_isWrong 1 := ⟨eg 61 (by decide +kernel) rfl, eg 733 (by decide +kernel) rfl, ⟨by decide +kernel, by decide +kernel, by decide +kernel⟩, by decide, rfl⟩
theorem caJx29ce0_ordinal_8abf5 : ECA mJx29ce0_ordinal_8abf5 0 := ⟨eg 63 (by decide +kernel) rfl, eg 742 (by decide +kernel) rfl, ⟨by decide +kernel, by decide +kernel, by decide +kernel⟩, by decide, rfl⟩
theorem caX3_repeats : ECA mX3_repeats 2 := ⟨eg 61 (by decide +kernel) rfl, eg 746 (by decide +kernel) rfl, ⟨by decide +kernel, by decide +kernel, by decide +kernel⟩, by decide, rfl⟩
theorem caX9_beginsAs : ECA mX9_beginsAs 2 := ⟨eg 62 (by decide +kernel) rfl, eg 750 (by decide +kernel) rfl, ⟨by decide +kernel, by decide +kernel, by decide +kernel⟩, by decide, rfl⟩
theorem caX9_word : ECA mX9_word 1 := ⟨eg 62 (by decide +kernel) rfl, eg 754 (by decide +kernel) rfl, ⟨by decide +kernel, by decide +kernel, by decide +kernel⟩, by decide, rfl⟩
theorem caX9_allDifferFrom : ECA mX9_allDifferFrom 1 := ⟨eg 62 (by decide +kernel) rfl, eg 758 (by decide +kernel) rfl, ⟨by decide +kernel, by decide +kernel, by decide +kernel⟩, by decide, rfl⟩
theorem caX9_find : ECA mX9_find 2 := ⟨eg 62 (by decide +kernel) rfl, eg 762 (by decide +kernel) rfl, ⟨by decide +kernel, by decide +kernel, by decide +kernel⟩, by decide, rfl⟩
theorem caX3_howMany : ECA mX3_howMany 2 := ⟨eg 61 (by decide +kernel) rfl, eg 767 (by decide +kernel) rfl, ⟨by decide +kernel, by decide +kernel, by decide +kernel⟩, by decide, rfl⟩
theorem caX3_isAttribute : ECA mX3_isAttribute 1 := ⟨eg 61 (by decide +kernel) rfl, eg 772 (by decide +kernel) rfl, ⟨by decide +kernel, by decide +kernel, by decide +kernel⟩, by decide, rfl⟩
theorem caX3_isDoer : ECA mX3_isDoer 1 := ⟨eg 61 (by decide +kernel) rfl, eg 779 (by decide +kernel) rfl, ⟨by decide +kernel, by decide +kernel, by decide +kernel⟩, by decide, rfl⟩
theorem caX3_isType : ECA mX3_isType 1 := ⟨eg 61 (by decide +kernel) rfl, eg 783 (by decide +kernel) rfl, ⟨by decide +kernel, by decide +kernel, by decide +kernel⟩, by decide, rfl⟩
theorem caX3_numberOf : ECA mX3_numberOf 2 := ⟨eg 61 (by decide +kernel) rfl, eg 787 (by decide +kernel) rfl, ⟨by decide +kernel, by decide +kernel, by decide +kernel⟩, by decide, rfl⟩
theorem caX3_declaresPermissions : ECA mX3_declaresPermissions 2 := ⟨eg 61 (by decide +kernel) rfl, eg 792 (by decide +kernel) rfl, ⟨by decide +kernel, by decide +kernel, by decide +kernel⟩, by decide, rfl⟩
theorem caX9_size : ECA mX9_size 0 := ⟨eg 62 (by decide +kernel) rfl, eg 796 (by decide +kernel) rfl, ⟨by decide +kernel, by decide +kernel, by decide +kernel⟩, by decide, rfl⟩
theorem caX3_declaresPermission : ECA mX3_declaresPermission 2 := ⟨eg 61 (by decide +kernel) rfl, eg 800 (by decide +kernel) rfl, ⟨by decide +kernel, by decide +kernel, by decide +kernel⟩, by decide, rfl⟩
theorem caX2_compose : ECA mX2_compose 2 := ⟨eg 81 (by decide +kernel) rfl, eg 804 (by decide +kernel) rfl, ⟨by decide +kernel, by decide +kernel, by decide +kernel⟩, by decide, rfl⟩
theorem caX7_clear : ECA mX7_clear 0 := ⟨eg 68 (by decide +kernel) rfl, eg 808 (by decide +kernel) rfl, ⟨by decide +kernel, by decide +kernel, by decide +kernel⟩, by decide, rfl⟩
theorem caJ7_fill_53178 : ECA mJ7_fill_53178 2 := ⟨eg 82 (by decide +kernel) rfl, eg 811 (by decide +kernel) rfl, ⟨by decide +kernel, by decide +kernel, by decide +kernel⟩, by decide, rfl⟩
theorem caX3_row : ECA mX3_row 1 := ⟨eg 61 (by decide +kernel) rfl, eg 816 (by decide +kernel) rfl, ⟨by decide +kernel, by decide +kernel, by decide +kernel⟩, by decide, rfl⟩
theorem caX2_declare : ECA mX2_declare 2 := ⟨eg 81 (by decide +kernel) rfl, eg 819 (by decide +kernel) rfl, ⟨by decide +kernel, by decide +kernel, by decide +kernel⟩, by decide, rfl⟩
theorem caX7_declareType : ECA mX7_declareType 0 := ⟨eg 68 (by decide +kernel) rfl, eg 825 (by decide +kernel) rfl, ⟨by decide +kernel, by decide +kernel, by decide +kernel⟩, by decide, rfl⟩
theorem caX7_declareClass : ECA mX7_declareClass 1 := ⟨eg 68 (by decide +kernel) rfl, eg 831 (by decide +kernel) rfl, ⟨by decide +kernel, by decide +kernel, by decide +kernel⟩, by decide, rfl⟩
theorem caX2_apply : ECA mX2_apply 3 := ⟨eg 81 (by decide +kernel) rfl, eg 834 (by decide +kernel) rfl, ⟨by decide +kernel, by decide +kernel, by decide +kernel⟩, by decide, rfl⟩
theorem caX2_allow : ECA mX2_allow 3 := ⟨eg 81 (by decide +kernel) rfl, eg 839 (by decide +kernel) rfl, ⟨by decide +kernel, by decide +kernel, by decide +kernel⟩, by decide, rfl⟩
theorem caX3_typesNamed : ECA mX3_typesNamed 1 := ⟨eg 61 (by decide +kernel) rfl, eg 844 (by decide +kernel) rfl, ⟨by decide +kernel, by decide +kernel, by decide +kernel⟩, by decide, rfl⟩
theorem caX3_maskOf : ECA mX3_maskOf 2 := ⟨eg 61 (by decide +kernel) rfl, eg 849 (by decide +kernel) rfl, ⟨by decide +kernel, by decide +kernel, by decide +kernel⟩, by decide, rfl⟩
theorem caX2_othersFor : ECA mX2_othersFor 3 := ⟨eg 81 (by decide +kernel) rfl, eg 854 (by decide +kernel) rfl, ⟨by decide +kernel, by decide +kernel, by decide +kernel⟩, by decide, rfl⟩
theorem caX7_addAllowed : ECA mX7_addAllowed 4 := ⟨eg 68 (by decide +kernel) rfl, eg 859 (by decide +kernel) rfl, ⟨by decide +kernel, by decide +kernel, by decide +kernel⟩, by decide, rfl⟩
theorem caX7_setProduct : ECA mX7_setProduct 4 := ⟨eg 68 (by decide +kernel) rfl, eg 863 (by decide +kernel) rfl, ⟨by decide +kernel, by decide +kernel, by decide +kernel⟩, by decide, rfl⟩
theorem caX9_mark : ECA mX9_mark 0 := ⟨eg 62 (by decide +kernel) rfl, eg 867 (by decide +kernel) rfl, ⟨by decide +kernel, by decide +kernel, by decide +kernel⟩, by decide, rfl⟩
theorem caX7_setRank : ECA mX7_setRank 2 := ⟨eg 68 (by decide +kernel) rfl, eg 871 (by decide +kernel) rfl, ⟨by decide +kernel, by decide +kernel, by decide +kernel⟩, by decide, rfl⟩
theorem caX2_widen : ECA mX2_widen 4 := ⟨eg 81 (by decide +kernel) rfl, eg 874 (by decide +kernel) rfl, ⟨by decide +kernel, by decide +kernel, by decide +kernel⟩, by decide, rfl⟩
theorem caX7_addToMask : ECA mX7_addToMask 3 := ⟨eg 68 (by decide +kernel) rfl, eg 878 (by decide +kernel) rfl, ⟨by decide +kernel, by decide +kernel, by decide +kernel⟩, by decide, rfl⟩
theorem caX2_firstAgainst : ECA mX2_firstAgainst 2 := ⟨eg 81 (by decide +kernel) rfl, eg 881 (by decide +kernel) rfl, ⟨by decide +kernel, by decide +kernel, by decide +kernel⟩, by decide, rfl⟩
theorem caX2_isAgainst : ECA mX2_isAgainst 3 := ⟨eg 81 (by decide +kernel) rfl, eg 886 (by decide +kernel) rfl, ⟨by decide +kernel, by decide +kernel, by decide +kernel⟩, by decide, rfl⟩
theorem caX7_allowsSome : ECA mX7_allowsSome 4 := ⟨eg 68 (by decide +kernel) rfl, eg 890 (by decide +kernel) rfl, ⟨by decide +kernel, by decide +kernel, by decide +kernel⟩, by decide, rfl⟩
theorem caX11_putInForce : ECA mX11_putInForce 0 := ⟨eg 58 (by decide +kernel) rfl, eg 895 (by decide +kernel) rfl, ⟨by decide +kernel, by decide +kernel, by decide +kernel⟩, by decide, rfl⟩
theorem caX6_forget : ECA mX6_forget 0 := ⟨eg 65 (by decide +kernel) rfl, eg 899 (by decide +kernel) rfl, ⟨by decide +kernel, by decide +kernel, by decide +kernel⟩, by decide, rfl⟩
theorem caX11_may : ECA mX11_may 3 := ⟨eg 58 (by decide +kernel) rfl, eg 907 (by decide +kernel) rfl, ⟨by decide +kernel, by decide +kernel, by decide +kernel⟩, by decide, rfl⟩
theorem caX6_recall : ECA mX6_recall 1 := ⟨eg 65 (by decide +kernel) rfl, eg 929 (by decide +kernel) rfl, ⟨by decide +kernel, by decide +kernel, by decide +kernel⟩, by decide, rfl⟩
theorem caX6_drop : ECA mX6_drop 1 := ⟨eg 65 (by decide +kernel) rfl, eg 933 (by decide +kernel) rfl, ⟨by decide +kernel, by decide +kernel, by decide +kernel⟩, by decide, rfl⟩
theorem caX6_append : ECA mX6_append 2 := ⟨eg 65 (by decide +kernel) rfl, eg 937 (by decide +kernel) rfl, ⟨by decide +kernel, by decide +kernel, by decide +kernel⟩, by decide, rfl⟩
theorem caX6_keep : ECA mX6_keep 2 := ⟨eg 65 (by decide +kernel) rfl, eg 942 (by decide +kernel) rfl, ⟨by decide +kernel, by decide +kernel, by decide +kernel⟩, by decide, rfl⟩
theorem caX11_read : ECA mX11_read 0 := ⟨eg 58 (by decide +kernel) rfl, eg 949 (by decide +kernel) rfl, ⟨by decide +kernel, by decide +kernel, by decide +kernel⟩, by decide, rfl⟩
theorem caX4_decode : ECA mX4_decode 2 := ⟨eg 84 (by decide +kernel) rfl, eg 952 (by decide +kernel) rfl, ⟨by decide +kernel, by decide +kernel, by decide +kernel⟩, by decide, rfl⟩
theorem caX1_rewind : ECA mX1_rewind 0 := ⟨eg 67 (by decide +kernel) rfl, eg 957 (by decide +kernel) rfl, ⟨by decide +kernel, by decide +kernel, by decide +kernel⟩, by decide, rfl⟩
theorem caX1_take : ECA mX1_take 2 := ⟨eg 67 (by decide +kernel) rfl, eg 961 (by decide +kernel) rfl, ⟨by decide +kernel, by decide +kernel, by decide +kernel⟩, by decide, rfl⟩
theorem caX4_decodeClass : ECA mX4_decodeClass 3 := ⟨eg 84 (by decide +kernel) rfl, eg 968 (by decide +kernel) rfl, ⟨by decide +kernel, by decide +kernel, by decide +kernel⟩, by decide, rfl⟩
theorem caX7_setAllowed : ECA mX7_setAllowed 4 := ⟨eg 68 (by decide +kernel) rfl, eg 972 (by decide +kernel) rfl, ⟨by decide +kernel, by decide +kernel, by decide +kernel⟩, by decide, rfl⟩
theorem caX1_isTakenWhole : ECA mX1_isTakenWhole 0 := ⟨eg 67 (by decide +kernel) rfl, eg 978 (by decide +kernel) rfl, ⟨by decide +kernel, by decide +kernel, by decide +kernel⟩, by decide, rfl⟩
theorem caX12_init : ECA mX12_init 1 := ⟨eg 69 (by decide +kernel) rfl, eg 985 (by decide +kernel) rfl, ⟨by decide +kernel, by decide +kernel, by decide +kernel⟩, by decide, rfl⟩
theorem caX12_thrown : ECA mX12_thrown 0 := ⟨eg 69 (by decide +kernel) rfl, eg 1089 (by decide +kernel) rfl, ⟨by decide +kernel, by decide +kernel, by decide +kernel⟩, by decide, rfl⟩
theorem caX12_write : ECA mX12_write 1 := ⟨eg 69 (by decide +kernel) rfl, eg 1093 (by decide +kernel) rfl, ⟨by decide +kernel, by decide +kernel, by decide +kernel⟩, by decide, rfl⟩
theorem caX12_add : ECA mX12_add 0 := ⟨eg 69 (by decide +kernel) rfl, eg 1098 (by decide +kernel) rfl, ⟨by decide +kernel, by decide +kernel, by decide +kernel⟩, by decide, rfl⟩
theorem caX12_readStatement : ECA mX12_readStatement 0 := ⟨eg 69 (by decide +kernel) rfl, eg 1102 (by decide +kernel) rfl, ⟨by decide +kernel, by decide +kernel, by decide +kernel⟩, by decide, rfl⟩
theorem caX12_readKind : ECA mX12_readKind 0 := ⟨eg 69 (by decide +kernel) rfl, eg 1106 (by decide +kernel) rfl, ⟨by decide +kernel, by decide +kernel, by decide +kernel⟩, by decide, rfl⟩
theorem caX12_keyword : ECA mX12_keyword 1 := ⟨eg 69 (by decide +kernel) rfl, eg 1109 (by decide +kernel) rfl, ⟨by decide +kernel, by decide +kernel, by decide +kernel⟩, by decide, rfl⟩
theorem caX12_word : ECA mX12_word 5 := ⟨eg 69 (by decide +kernel) rfl, eg 1112 (by decide +kernel) rfl, ⟨by decide +kernel, by decide +kernel, by decide +kernel⟩, by decide, rfl⟩
theorem caX12_isLetter : ECA mX12_isLetter 0 := ⟨eg 69 (by decide +kernel) rfl, eg 1116 (by decide +kernel) rfl, ⟨by decide +kernel, by decide +kernel, by decide +kernel⟩, by decide, rfl⟩
theorem caX12_here : ECA mX12_here 0 := ⟨eg 69 (by decide +kernel) rfl, eg 1120 (by decide +kernel) rfl, ⟨by decide +kernel, by decide +kernel, by decide +kernel⟩, by decide, rfl⟩
theorem caX12_readNames : ECA mX12_readNames 3 := ⟨eg 69 (by decide +kernel) rfl, eg 1124 (by decide +kernel) rfl, ⟨by decide +kernel, by decide +kernel, by decide +kernel⟩, by decide, rfl⟩
theorem caX12_readName : ECA mX12_readName 0 := ⟨eg 69 (by decide +kernel) rfl, eg 1128 (by decide +kernel) rfl, ⟨by decide +kernel, by decide +kernel, by decide +kernel⟩, by decide, rfl⟩
theorem caX12_readExtra : ECA mX12_readExtra 2 := ⟨eg 69 (by decide +kernel) rfl, eg 1132 (by decide +kernel) rfl, ⟨by decide +kernel, by decide +kernel, by decide +kernel⟩, by decide, rfl⟩
theorem caX12_position : ECA mX12_position 0 := ⟨eg 69 (by decide +kernel) rfl, eg 1136 (by decide +kernel) rfl, ⟨by decide +kernel, by decide +kernel, by decide +kernel⟩, by decide, rfl⟩
theorem caX12_cut : ECA mX12_cut 1 := ⟨eg 69 (by decide +kernel) rfl, eg 1140 (by decide +kernel) rfl, ⟨by decide +kernel, by decide +kernel, by decide +kernel⟩, by decide, rfl⟩
theorem caX12_accept : ECA mX12_accept 0 := ⟨eg 69 (by decide +kernel) rfl, eg 1144 (by decide +kernel) rfl, ⟨by decide +kernel, by decide +kernel, by decide +kernel⟩, by decide, rfl⟩
theorem caX12_firstWrong : ECA mX12_firstWrong 0 := ⟨eg 69 (by decide +kernel) rfl, eg 1148 (by decide +kernel) rfl, ⟨by decide +kernel, by decide +kernel, by decide +kernel⟩, by decide, rfl⟩
theorem caX12_isWrong : ECA mX12_isWrong 1 := ⟨eg 69 (by decide +kernel) rfl, eg 1152 (by decide +kernel) rfl, ⟨by decide +kernel, by decide +kernel, by decide +kernel⟩, by decide, rfl⟩
theorem caX12_nameAt : ECA mX12_nameAt 2 := ⟨eg 69 (by decide +kernel) rfl, eg 1156 (by decide +kernel) rfl, ⟨by decide +kernel, by decide +kernel, by decide +kernel⟩, by decide, rfl⟩
theorem caX12_before : ECA mX12_before 3 := ⟨eg 69 (by decide +kernel) rfl, eg 1160 (by decide +kernel) rfl, ⟨by decide +kernel, by decide +kernel, by decide +kernel⟩, by decide, rfl⟩
theorem caX12_allDifferent : ECA mX12_allDifferent 1 := ⟨eg 69 (by decide +kernel) rfl, eg 1164 (by decide +kernel) rfl, ⟨by decide +kernel, by decide +kernel, by decide +kernel⟩, by decide, rfl⟩
theorem caX12_isAttribute : ECA mX12_isAttribute 1 := ⟨eg 69 (by decide +kernel) rfl, eg 1168 (by decide +kernel) rfl, ⟨by decide +kernel, by decide +kernel, by decide +kernel⟩, by decide, rfl⟩
theorem caX12_twice : ECA mX12_twice 1 := ⟨eg 69 (by decide +kernel) rfl, eg 1172 (by decide +kernel) rfl, ⟨by decide +kernel, by decide +kernel, by decide +kernel⟩, by decide, rfl⟩
theorem caX12_isType : ECA mX12_isType 1 := ⟨eg 69 (by decide +kernel) rfl, eg 1176 (by decide +kernel) rfl, ⟨by decide +kernel, by decide +kernel, by decide +kernel⟩, by decide, rfl⟩
theorem caX12_isClass : ECA mX12_isClass 1 := ⟨eg 69 (by decide +kernel) rfl, eg 1180 (by decide +kernel) rfl, ⟨by decide +kernel, by decide +kernel, by decide +kernel⟩, by decide, rfl⟩
theorem caX12_isSelf : ECA mX12_isSelf 1 := ⟨eg 69 (by decide +kernel) rfl, eg 1183 (by decide +kernel) rfl, ⟨by decide +kernel, by decide +kernel, by decide +kernel⟩, by decide, rfl⟩
theorem caX12_arePermissions : ECA mX12_arePermissions 3 := ⟨eg 69 (by decide +kernel) rfl, eg 1187 (by decide +kernel) rfl, ⟨by decide +kernel, by decide +kernel, by decide +kernel⟩, by decide, rfl⟩
theorem caX12_isPermission : ECA mX12_isPermission 2 := ⟨eg 69 (by decide +kernel) rfl, eg 1191 (by decide +kernel) rfl, ⟨by decide +kernel, by decide +kernel, by decide +kernel⟩, by decide, rfl⟩
theorem caX12_firstAgainst : ECA mX12_firstAgainst 0 := ⟨eg 69 (by decide +kernel) rfl, eg 1195 (by decide +kernel) rfl, ⟨by decide +kernel, by decide +kernel, by decide +kernel⟩, by decide, rfl⟩
theorem caX12_shared : ECA mX12_shared 2 := ⟨eg 69 (by decide +kernel) rfl, eg 1199 (by decide +kernel) rfl, ⟨by decide +kernel, by decide +kernel, by decide +kernel⟩, by decide, rfl⟩
theorem caX12_isAbout : ECA mX12_isAbout 3 := ⟨eg 69 (by decide +kernel) rfl, eg 1203 (by decide +kernel) rfl, ⟨by decide +kernel, by decide +kernel, by decide +kernel⟩, by decide, rfl⟩
theorem caX12_typeStatement : ECA mX12_typeStatement 1 := ⟨eg 69 (by decide +kernel) rfl, eg 1207 (by decide +kernel) rfl, ⟨by decide +kernel, by decide +kernel, by decide +kernel⟩, by decide, rfl⟩
theorem caX12_standsFor : ECA mX12_standsFor 2 := ⟨eg 69 (by decide +kernel) rfl, eg 1211 (by decide +kernel) rfl, ⟨by decide +kernel, by decide +kernel, by decide +kernel⟩, by decide, rfl⟩
theorem caX12_begin : ECA mX12_begin 0 := ⟨eg 69 (by decide +kernel) rfl, eg 1215 (by decide +kernel) rfl, ⟨by decide +kernel, by decide +kernel, by decide +kernel⟩, by decide, rfl⟩
theorem caX12_put : ECA mX12_put 1 := ⟨eg 69 (by decide +kernel) rfl, eg 1219 (by decide +kernel) rfl, ⟨by decide +kernel, by decide +kernel, by decide +kernel⟩, by decide, rfl⟩
theorem caX12_classNumber : ECA mX12_classNumber 1 := ⟨eg 69 (by decide +kernel) rfl, eg 1223 (by decide +kernel) rfl, ⟨by decide +kernel, by decide +kernel, by decide +kernel⟩, by decide, rfl⟩
theorem caX12_maskOf : ECA mX12_maskOf 3 := ⟨eg 69 (by decide +kernel) rfl, eg 1227 (by decide +kernel) rfl, ⟨by decide +kernel, by decide +kernel, by decide +kernel⟩, by decide, rfl⟩
theorem caX12_typeNumber : ECA mX12_typeNumber 1 := ⟨eg 69 (by decide +kernel) rfl, eg 1231 (by decide +kernel) rfl, ⟨by decide +kernel, by decide +kernel, by decide +kernel⟩, by decide, rfl⟩
theorem caX12_fault : ECA mX12_fault 0 := ⟨eg 69 (by decide +kernel) rfl, eg 1235 (by decide +kernel) rfl, ⟨by decide +kernel, by decide +kernel, by decide +kernel⟩, by decide, rfl⟩
theorem caX12_may : ECA mX12_may 3 := ⟨eg 69 (by decide +kernel) rfl, eg 1239 (by decide +kernel) rfl, ⟨by decide +kernel, by decide +kernel, by decide +kernel⟩, by decide, rfl⟩
theorem caX12_isThere : ECA mX12_isThere 3 := ⟨eg 69 (by decide +kernel) rfl, eg 1243 (by decide +kernel) rfl, ⟨by decide +kernel, by decide +kernel, by decide +kernel⟩, by decide, rfl⟩
theorem caX12_worked : ECA mX12_worked 3 := ⟨eg 69 (by decide +kernel) rfl, eg 1247 (by decide +kernel) rfl, ⟨by decide +kernel, by decide +kernel, by decide +kernel⟩, by decide, rfl⟩
theorem caX12_made : ECA mX12_made 3 := ⟨eg 69 (by decide +kernel) rfl, eg 1251 (by decide +kernel) rfl, ⟨by decide +kernel, by decide +kernel, by decide +kernel⟩, by decide, rfl⟩
theorem caX12_flow : ECA mX12_flow 2 := ⟨eg 69 (by decide +kernel) rfl, eg 1255 (by decide +kernel) rfl, ⟨by decide +kernel, by decide +kernel, by decide +kernel⟩, by decide, rfl⟩
theorem caX12_flows : ECA mX12_flows 2 := ⟨eg 69 (by decide +kernel) rfl, eg 1259 (by decide +kernel) rfl, ⟨by decide +kernel, by decide +kernel, by decide +kernel⟩, by decide, rfl⟩
theorem caX12_count : ECA mX12_count 1 := ⟨eg 69 (by decide +kernel) rfl, eg 1263 (by decide +kernel) rfl, ⟨by decide +kernel, by decide +kernel, by decide +kernel⟩, by decide, rfl⟩
theorem caX12_image : ECA mX12_image 0 := ⟨eg 69 (by decide +kernel) rfl, eg 1267 (by decide +kernel) rfl, ⟨by decide +kernel, by decide +kernel, by decide +kernel⟩, by decide, rfl⟩
theorem caX12_say : ECA mX12_say 1 := ⟨eg 69 (by decide +kernel) rfl, eg 1271 (by decide +kernel) rfl, ⟨by decide +kernel, by decide +kernel, by decide +kernel⟩, by decide, rfl⟩
theorem caX12_imageAt : ECA mX12_imageAt 1 := ⟨eg 69 (by decide +kernel) rfl, eg 1275 (by decide +kernel) rfl, ⟨by decide +kernel, by decide +kernel, by decide +kernel⟩, by decide, rfl⟩
theorem caX12_feed : ECA mX12_feed 2 := ⟨eg 69 (by decide +kernel) rfl, eg 1279 (by decide +kernel) rfl, ⟨by decide +kernel, by decide +kernel, by decide +kernel⟩, by decide, rfl⟩
theorem caX12_read : ECA mX12_read 0 := ⟨eg 69 (by decide +kernel) rfl, eg 1283 (by decide +kernel) rfl, ⟨by decide +kernel, by decide +kernel, by decide +kernel⟩, by decide, rfl⟩
theorem caX12_wellFormed : ECA mX12_wellFormed 0 := ⟨eg 69 (by decide +kernel) rfl, eg 1287 (by decide +kernel) rfl, ⟨by decide +kernel, by decide +kernel, by decide +kernel⟩, by decide, rfl⟩
theorem caX12_in : ECA mX12_in 3 := ⟨eg 69 (by decide +kernel) rfl, eg 1290 (by decide +kernel) rfl, ⟨by decide +kernel, by decide +kernel, by decide +kernel⟩, by decide, rfl⟩
theorem ob_X1_3 : Cond.methodLink RX1 3 objectInit ∈ egood := eg 188 (by decide +kernel) rfl
theorem pf_X1_9 : EPF RX1 9 0 0 (.array .int) true := ⟨RX1, TX1, 4, tyX1, rfl, innX1, by decide, eg 189 (by decide +kernel) rfl, tyX1_ok, nmX1, rfl, rfl, fun _ => rfl⟩
theorem pf_X1_15 : EPF RX1 15 0 1 (.int) false := ⟨RX1, TX1, 4, tyX1, rfl, innX1, by decide, eg 190 (by decide +kernel) rfl, tyX1_ok, nmX1, rfl, rfl, fun _ => rfl⟩
theorem pf_X1_19 : EPF RX1 19 0 2 (.int) false := ⟨RX1, TX1, 4, tyX1, rfl, innX1, by decide, eg 191 (by decide +kernel) rfl, tyX1_ok, nmX1, rfl, rfl, fun _ => rfl⟩
theorem pf_X1_22 : EPF RX1 22 0 3 (.boolean) false := ⟨RX1, TX1, 4, tyX1, rfl, innX1, by decide, eg 192 (by decide +kernel) rfl, tyX1_ok, nmX1, rfl, rfl, fun _ => rfl⟩
theorem gf_X1_15 : EGF RX1 15 0 1 := ⟨RX1, TX1, 4, rfl, innX1, by decide, eg 190 (by decide +kernel) rfl⟩
theorem gf_X1_9 : EGF RX1 9 0 0 := ⟨RX1, TX1, 4, rfl, innX1, by decide, eg 189 (by decide +kernel) rfl⟩
theorem gf_X1_19 : EGF RX1 19 0 2 := ⟨RX1, TX1, 4, rfl, innX1, by decide, eg 191 (by decide +kernel) rfl⟩
theorem cv_X1_26 : ECV RX1 26 mX1_byteAt 1 := ⟨eg 962 (by decide +kernel) rfl, eg 416 (by decide +kernel) rfl, eg 417 (by decide +kernel) rfl, caX1_byteAt⟩
theorem gf_X1_22 : EGF RX1 22 0 3 := ⟨RX1, TX1, 4, rfl, innX1, by decide, eg 192 (by decide +kernel) rfl⟩
theorem cv_X2_9 : ECV RX2 9 mX7_clear 0 := ⟨eg 805 (by decide +kernel) rfl, eg 806 (by decide +kernel) rfl, eg 807 (by decide +kernel) rfl, caX7_clear⟩
theorem cv_X2_14 : ECV RX2 14 mX3_size 0 := ⟨eg 812 (by decide +kernel) rfl, eg 376 (by decide +kernel) rfl, eg 377 (by decide +kernel) rfl, caX3_size⟩
theorem cv_X2_20 : ECV RX2 20 mX3_row 1 := ⟨eg 813 (by decide +kernel) rfl, eg 814 (by decide +kernel) rfl, eg 815 (by decide +kernel) rfl, caX3_row⟩
theorem cs_X2_24 : ECS RX2 24 mX2_declare 2 := ⟨eg 817 (by decide +kernel) rfl, eg 818 (by decide +kernel) rfl, caX2_declare⟩
theorem cs_X2_30 : ECS RX2 30 mX2_apply 3 := ⟨eg 832 (by decide +kernel) rfl, eg 833 (by decide +kernel) rfl, caX2_apply⟩
theorem cv_X2_34 : ECV RX2 34 mX9_kind 0 := ⟨eg 820 (by decide +kernel) rfl, eg 517 (by decide +kernel) rfl, eg 518 (by decide +kernel) rfl, caX9_kind⟩
theorem gz_X2_40 : Cond.fieldLink RX2 40 "PolicyDesk$Kind" "TYPE" "LPolicyDesk$Kind;" ∈ egood := eg 821 (by decide +kernel) rfl
theorem cv_X2_46 : ECV RX2 46 mX7_declareType 0 := ⟨eg 822 (by decide +kernel) rfl, eg 823 (by decide +kernel) rfl, eg 824 (by decide +kernel) rfl, caX7_declareType⟩
theorem gz_X2_49 : Cond.fieldLink RX2 49 "PolicyDesk$Kind" "CLASS" "LPolicyDesk$Kind;" ∈ egood := eg 826 (by decide +kernel) rfl
theorem cv_X2_52 : ECV RX2 52 mX9_size 0 := ⟨eg 827 (by decide +kernel) rfl, eg 794 (by decide +kernel) rfl, eg 795 (by decide +kernel) rfl, caX9_size⟩
theorem cv_X2_53 : ECV RX2 53 mX7_declareClass 1 := ⟨eg 828 (by decide +kernel) rfl, eg 829 (by decide +kernel) rfl, eg 830 (by decide +kernel) rfl, caX7_declareClass⟩
theorem gz_X2_57 : Cond.fieldLink RX2 57 "PolicyDesk$1" "$SwitchMap$PolicyDesk$Kind" "[I" ∈ egood := eg 835 (by decide +kernel) rfl
theorem cs_X2_66 : ECS RX2 66 mX2_allow 3 := ⟨eg 837 (by decide +kernel) rfl, eg 838 (by decide +kernel) rfl, caX2_allow⟩
theorem cv_X2_69 : ECV RX2 69 mX9_word 1 := ⟨eg 840 (by decide +kernel) rfl, eg 752 (by decide +kernel) rfl, eg 753 (by decide +kernel) rfl, caX9_word⟩
theorem cv_X2_73 : ECV RX2 73 mX3_numberOf 2 := ⟨eg 845 (by decide +kernel) rfl, eg 785 (by decide +kernel) rfl, eg 786 (by decide +kernel) rfl, caX3_numberOf⟩
theorem cv_X2_77 : ECV RX2 77 mX7_setProduct 4 := ⟨eg 860 (by decide +kernel) rfl, eg 861 (by decide +kernel) rfl, eg 862 (by decide +kernel) rfl, caX7_setProduct⟩
theorem cv_X2_81 : ECV RX2 81 mX9_mark 0 := ⟨eg 864 (by decide +kernel) rfl, eg 865 (by decide +kernel) rfl, eg 866 (by decide +kernel) rfl, caX9_mark⟩
theorem cv_X2_84 : ECV RX2 84 mX7_setRank 2 := ⟨eg 868 (by decide +kernel) rfl, eg 869 (by decide +kernel) rfl, eg 870 (by decide +kernel) rfl, caX7_setRank⟩
theorem cs_X2_88 : ECS RX2 88 mX2_widen 4 := ⟨eg 872 (by decide +kernel) rfl, eg 873 (by decide +kernel) rfl, caX2_widen⟩
theorem cv_X2_92 : ECV RX2 92 mX3_maskOf 2 := ⟨eg 846 (by decide +kernel) rfl, eg 847 (by decide +kernel) rfl, eg 848 (by decide +kernel) rfl, caX3_maskOf⟩
theorem cv_X2_96 : ECV RX2 96 mX7_addToMask 3 := ⟨eg 875 (by decide +kernel) rfl, eg 876 (by decide +kernel) rfl, eg 877 (by decide +kernel) rfl, caX7_addToMask⟩
theorem cv_X2_100 : ECV RX2 100 mX3_typesNamed 1 := ⟨eg 841 (by decide +kernel) rfl, eg 842 (by decide +kernel) rfl, eg 843 (by decide +kernel) rfl, caX3_typesNamed⟩
theorem cv_X2_103 : ECV RX2 103 mX7_types 0 := ⟨eg 850 (by decide +kernel) rfl, eg 356 (by decide +kernel) rfl, eg 357 (by decide +kernel) rfl, caX7_types⟩
theorem cs_X2_106 : ECSN RX2 106 mX11_hasBit 2 := ⟨⟨"PolicyDesk", List.mem_of_getElem? (i := 851) (by decide +kernel)⟩, eg 320 (by decide +kernel) rfl, caX11_hasBit⟩
theorem cs_X2_110 : ECS RX2 110 mX2_othersFor 3 := ⟨eg 852 (by decide +kernel) rfl, eg 853 (by decide +kernel) rfl, caX2_othersFor⟩
theorem cv_X2_114 : ECV RX2 114 mX7_addAllowed 4 := ⟨eg 856 (by decide +kernel) rfl, eg 857 (by decide +kernel) rfl, eg 858 (by decide +kernel) rfl, caX7_addAllowed⟩
theorem gz_X2_117 : Cond.fieldLink RX2 117 "PolicyDesk$Kind" "NEVER" "LPolicyDesk$Kind;" ∈ egood := eg 882 (by decide +kernel) rfl
theorem cs_X2_120 : ECS RX2 120 mX2_isAgainst 3 := ⟨eg 884 (by decide +kernel) rfl, eg 885 (by decide +kernel) rfl, caX2_isAgainst⟩
theorem cv_X2_124 : ECV RX2 124 mX7_allowsSome 4 := ⟨eg 887 (by decide +kernel) rfl, eg 888 (by decide +kernel) rfl, eg 889 (by decide +kernel) rfl, caX7_allowsSome⟩
theorem lc_X2_128 : Cond.constant RX2 128 (628102) ∈ egood := eg 855 (by decide +kernel) rfl
theorem ob_X3_3 : Cond.methodLink RX3 3 objectInit ∈ egood := eg 125 (by decide +kernel) rfl
theorem nq_X3_9 : Cond.classLink RX3 9 "PolicyDesk$Statement" ∈ egood := eg 126 (by decide +kernel) rfl
theorem pf_X3_11 : EPF RX3 11 1 0 (.array (.object "PolicyDesk$Statement")) true := ⟨RX3, TX3, 2, tyX3, rfl, innX3, by decide, eg 148 (by decide +kernel) rfl, tyX3_ok, nmX3, rfl, rfl, fun _ => rfl⟩
theorem pf_X3_17 : EPF RX3 17 1 1 (.int) false := ⟨RX3, TX3, 2, tyX3, rfl, innX3, by decide, eg 149 (by decide +kernel) rfl, tyX3_ok, nmX3, rfl, rfl, fun _ => rfl⟩
theorem gf_X3_11 : EGF RX3 11 1 0 := ⟨RX3, TX3, 2, rfl, innX3, by decide, eg 148 (by decide +kernel) rfl⟩
theorem nw_X3_9 : ENW RX3 9 5 4 [.null, .null, .int 0, .int 0] := ⟨RX9, TX9, tyX9, rfl, innX9, tyX9_ok, eg 126 (by decide +kernel) rfl, eg 128 (by decide +kernel) rfl, eg 62 (by decide +kernel) rfl, by decide⟩
theorem ci_X3_21 : ECIN RX3 21 mX9_init 0 := ⟨⟨"PolicyDesk", List.mem_of_getElem? (i := 129) (by decide +kernel)⟩, eg 130 (by decide +kernel) rfl, rfl, rfl, caX9_init⟩
theorem gf_X3_17 : EGF RX3 17 1 1 := ⟨RX3, TX3, 2, rfl, innX3, by decide, eg 149 (by decide +kernel) rfl⟩
theorem cv_X3_22 : ECV RX3 22 mX3_hasRoom 0 := ⟨eg 718 (by decide +kernel) rfl, eg 695 (by decide +kernel) rfl, eg 696 (by decide +kernel) rfl, caX3_hasRoom⟩
theorem cv_X3_26 : ECV RX3 26 mX3_isWrong 1 := ⟨eg 730 (by decide +kernel) rfl, eg 732 (by decide +kernel) rfl, eg 13 (by decide +kernel) rfl, caX3_isWrong⟩
theorem gz_X3_30 : Cond.fieldLink RX3 30 "PolicyDesk$Kind" "TYPE" "LPolicyDesk$Kind;" ∈ egood := eg 773 (by decide +kernel) rfl
theorem cv_X3_36 : ECV RX3 36 mX3_howMany 2 := ⟨eg 764 (by decide +kernel) rfl, eg 766 (by decide +kernel) rfl, eg 15 (by decide +kernel) rfl, caX3_howMany⟩
theorem gz_X3_40 : Cond.fieldLink RX3 40 "PolicyDesk$Kind" "CLASS" "LPolicyDesk$Kind;" ∈ egood := eg 763 (by decide +kernel) rfl
theorem gz_X3_43 : Cond.fieldLink RX3 43 "PolicyDesk$1" "$SwitchMap$PolicyDesk$Kind" "[I" ∈ egood := eg 734 (by decide +kernel) rfl
theorem cv_X3_49 : ECV RX3 49 mX9_kind 0 := ⟨eg 736 (by decide +kernel) rfl, eg 517 (by decide +kernel) rfl, eg 518 (by decide +kernel) rfl, caX9_kind⟩
theorem cv_X3_57 : ECV RX3 57 mX3_repeats 2 := ⟨eg 743 (by decide +kernel) rfl, eg 745 (by decide +kernel) rfl, eg 14 (by decide +kernel) rfl, caX3_repeats⟩
theorem cv_X3_61 : ECV RX3 61 mX9_allDifferFrom 1 := ⟨eg 755 (by decide +kernel) rfl, eg 756 (by decide +kernel) rfl, eg 757 (by decide +kernel) rfl, caX9_allDifferFrom⟩
theorem cv_X3_64 : ECV RX3 64 mX9_word 1 := ⟨eg 768 (by decide +kernel) rfl, eg 752 (by decide +kernel) rfl, eg 753 (by decide +kernel) rfl, caX9_word⟩
theorem cv_X3_68 : ECV RX3 68 mX3_isAttribute 1 := ⟨eg 769 (by decide +kernel) rfl, eg 771 (by decide +kernel) rfl, eg 16 (by decide +kernel) rfl, caX3_isAttribute⟩
theorem cv_X3_71 : ECV RX3 71 mX3_isDoer 1 := ⟨eg 776 (by decide +kernel) rfl, eg 778 (by decide +kernel) rfl, eg 17 (by decide +kernel) rfl, caX3_isDoer⟩
theorem lc_X3_74 : Cond.constant RX3 74 (628102) ∈ egood := eg 788 (by decide +kernel) rfl
theorem cv_X3_75 : ECV RX3 75 mX3_declaresPermissions 2 := ⟨eg 789 (by decide +kernel) rfl, eg 791 (by decide +kernel) rfl, eg 19 (by decide +kernel) rfl, caX3_declaresPermissions⟩
theorem cv_X3_79 : ECV RX3 79 mX3_isType 1 := ⟨eg 780 (by decide +kernel) rfl, eg 782 (by decide +kernel) rfl, eg 18 (by decide +kernel) rfl, caX3_isType⟩
theorem cv_X3_82 : ECV RX3 82 mX3_numberOf 2 := ⟨eg 784 (by decide +kernel) rfl, eg 785 (by decide +kernel) rfl, eg 786 (by decide +kernel) rfl, caX3_numberOf⟩
theorem cv_X3_85 : ECV RX3 85 mX9_beginsAs 2 := ⟨eg 747 (by decide +kernel) rfl, eg 748 (by decide +kernel) rfl, eg 749 (by decide +kernel) rfl, caX9_beginsAs⟩
theorem cv_X3_88 : ECV RX3 88 mX9_find 2 := ⟨eg 775 (by decide +kernel) rfl, eg 760 (by decide +kernel) rfl, eg 761 (by decide +kernel) rfl, caX9_find⟩
theorem cv_X3_92 : ECV RX3 92 mX9_size 0 := ⟨eg 793 (by decide +kernel) rfl, eg 794 (by decide +kernel) rfl, eg 795 (by decide +kernel) rfl, caX9_size⟩
theorem cv_X3_94 : ECV RX3 94 mX3_declaresPermission 2 := ⟨eg 797 (by decide +kernel) rfl, eg 799 (by decide +kernel) rfl, eg 20 (by decide +kernel) rfl, caX3_declaresPermission⟩
theorem cv_X4_9 : ECV RX4 9 mX1_clear 0 := ⟨eg 386 (by decide +kernel) rfl, eg 387 (by decide +kernel) rfl, eg 388 (by decide +kernel) rfl, caX1_clear⟩
theorem cv_X4_14 : ECV RX4 14 mX7_types 0 := ⟨eg 390 (by decide +kernel) rfl, eg 356 (by decide +kernel) rfl, eg 357 (by decide +kernel) rfl, caX7_types⟩
theorem cv_X4_20 : ECV RX4 20 mX1_push 1 := ⟨eg 391 (by decide +kernel) rfl, eg 392 (by decide +kernel) rfl, eg 393 (by decide +kernel) rfl, caX1_push⟩
theorem cv_X4_24 : ECV RX4 24 mX7_classes 0 := ⟨eg 395 (by decide +kernel) rfl, eg 360 (by decide +kernel) rfl, eg 361 (by decide +kernel) rfl, caX7_classes⟩
theorem cv_X4_27 : ECV RX4 27 mX7_permissionsOf 1 := ⟨eg 396 (by decide +kernel) rfl, eg 397 (by decide +kernel) rfl, eg 398 (by decide +kernel) rfl, caX7_permissionsOf⟩
theorem cv_X4_31 : ECV RX4 31 mX7_rankOf 1 := ⟨eg 400 (by decide +kernel) rfl, eg 335 (by decide +kernel) rfl, eg 336 (by decide +kernel) rfl, caX7_rankOf⟩
theorem cs_X4_34 : ECS RX4 34 mX4_encodeClass 3 := ⟨eg 401 (by decide +kernel) rfl, eg 402 (by decide +kernel) rfl, caX4_encodeClass⟩
theorem cv_X4_40 : ECV RX4 40 mX7_allowedAt 3 := ⟨eg 404 (by decide +kernel) rfl, eg 348 (by decide +kernel) rfl, eg 349 (by decide +kernel) rfl, caX7_allowedAt⟩
theorem cv_X4_44 : ECV RX4 44 mX7_productAt 3 := ⟨eg 405 (by decide +kernel) rfl, eg 297 (by decide +kernel) rfl, eg 298 (by decide +kernel) rfl, caX7_productAt⟩
theorem cv_X4_47 : ECV RX4 47 mX7_maskAt 2 := ⟨eg 406 (by decide +kernel) rfl, eg 340 (by decide +kernel) rfl, eg 341 (by decide +kernel) rfl, caX7_maskAt⟩
theorem cv_X4_51 : ECV RX4 51 mX7_clear 0 := ⟨eg 953 (by decide +kernel) rfl, eg 806 (by decide +kernel) rfl, eg 807 (by decide +kernel) rfl, caX7_clear⟩
theorem cv_X4_52 : ECV RX4 52 mX1_rewind 0 := ⟨eg 954 (by decide +kernel) rfl, eg 955 (by decide +kernel) rfl, eg 956 (by decide +kernel) rfl, caX1_rewind⟩
theorem cv_X4_55 : ECV RX4 55 mX1_take 2 := ⟨eg 958 (by decide +kernel) rfl, eg 959 (by decide +kernel) rfl, eg 960 (by decide +kernel) rfl, caX1_take⟩
theorem cv_X4_58 : ECV RX4 58 mX7_declareClass 1 := ⟨eg 963 (by decide +kernel) rfl, eg 829 (by decide +kernel) rfl, eg 830 (by decide +kernel) rfl, caX7_declareClass⟩
theorem cv_X4_61 : ECV RX4 61 mX7_declareType 0 := ⟨eg 964 (by decide +kernel) rfl, eg 823 (by decide +kernel) rfl, eg 824 (by decide +kernel) rfl, caX7_declareType⟩
theorem cv_X4_64 : ECV RX4 64 mX7_setRank 2 := ⟨eg 965 (by decide +kernel) rfl, eg 869 (by decide +kernel) rfl, eg 870 (by decide +kernel) rfl, caX7_setRank⟩
theorem cs_X4_68 : ECS RX4 68 mX4_decodeClass 3 := ⟨eg 966 (by decide +kernel) rfl, eg 967 (by decide +kernel) rfl, caX4_decodeClass⟩
theorem cv_X4_72 : ECV RX4 72 mX1_isTakenWhole 0 := ⟨eg 975 (by decide +kernel) rfl, eg 976 (by decide +kernel) rfl, eg 977 (by decide +kernel) rfl, caX1_isTakenWhole⟩
theorem cv_X4_76 : ECV RX4 76 mX7_setAllowed 4 := ⟨eg 969 (by decide +kernel) rfl, eg 970 (by decide +kernel) rfl, eg 971 (by decide +kernel) rfl, caX7_setAllowed⟩
theorem cv_X4_80 : ECV RX4 80 mX7_setProduct 4 := ⟨eg 973 (by decide +kernel) rfl, eg 861 (by decide +kernel) rfl, eg 862 (by decide +kernel) rfl, caX7_setProduct⟩
theorem cv_X4_83 : ECV RX4 83 mX7_addToMask 3 := ⟨eg 974 (by decide +kernel) rfl, eg 876 (by decide +kernel) rfl, eg 877 (by decide +kernel) rfl, caX7_addToMask⟩
theorem ob_X6_3 : Cond.methodLink RX6 3 objectInit ∈ egood := eg 166 (by decide +kernel) rfl
theorem pf_X6_9 : EPF RX6 9 2 2 (.int) false := ⟨RX6, TX6, 5, tyX6, rfl, innX6, by decide, eg 169 (by decide +kernel) rfl, tyX6_ok, nmX6, rfl, rfl, fun _ => rfl⟩
theorem pf_X6_15 : EPF RX6 15 2 3 (.int) false := ⟨RX6, TX6, 5, tyX6, rfl, innX6, by decide, eg 170 (by decide +kernel) rfl, tyX6_ok, nmX6, rfl, rfl, fun _ => rfl⟩
theorem pf_X6_18 : EPF RX6 18 2 4 (.int) false := ⟨RX6, TX6, 5, tyX6, rfl, innX6, by decide, eg 171 (by decide +kernel) rfl, tyX6_ok, nmX6, rfl, rfl, fun _ => rfl⟩
theorem pf_X6_21 : EPF RX6 21 2 0 (.array .int) true := ⟨RX6, TX6, 5, tyX6, rfl, innX6, by decide, eg 167 (by decide +kernel) rfl, tyX6_ok, nmX6, rfl, rfl, fun _ => rfl⟩
theorem pf_X6_25 : EPF RX6 25 2 1 (.array .int) true := ⟨RX6, TX6, 5, tyX6, rfl, innX6, by decide, eg 168 (by decide +kernel) rfl, tyX6_ok, nmX6, rfl, rfl, fun _ => rfl⟩
theorem gf_X6_9 : EGF RX6 9 2 2 := ⟨RX6, TX6, 5, rfl, innX6, by decide, eg 169 (by decide +kernel) rfl⟩
theorem gf_X6_15 : EGF RX6 15 2 3 := ⟨RX6, TX6, 5, rfl, innX6, by decide, eg 170 (by decide +kernel) rfl⟩
theorem gf_X6_18 : EGF RX6 18 2 4 := ⟨RX6, TX6, 5, rfl, innX6, by decide, eg 171 (by decide +kernel) rfl⟩
theorem gf_X6_21 : EGF RX6 21 2 0 := ⟨RX6, TX6, 5, rfl, innX6, by decide, eg 167 (by decide +kernel) rfl⟩
theorem gf_X6_25 : EGF RX6 25 2 1 := ⟨RX6, TX6, 5, rfl, innX6, by decide, eg 168 (by decide +kernel) rfl⟩
theorem cv_X6_28 : ECV RX6 28 mX6_drop 1 := ⟨eg 930 (by decide +kernel) rfl, eg 932 (by decide +kernel) rfl, eg 22 (by decide +kernel) rfl, caX6_drop⟩
theorem cv_X6_32 : ECV RX6 32 mX6_append 2 := ⟨eg 934 (by decide +kernel) rfl, eg 936 (by decide +kernel) rfl, eg 23 (by decide +kernel) rfl, caX6_append⟩
theorem ob_X7_3 : Cond.methodLink RX7 3 objectInit ∈ egood := eg 207 (by decide +kernel) rfl
theorem pf_X7_9 : EPF RX7 9 3 0 (.array .int) true := ⟨RX7, TX7, 7, tyX7, rfl, innX7, by decide, eg 208 (by decide +kernel) rfl, tyX7_ok, nmX7, rfl, rfl, fun _ => rfl⟩
theorem pf_X7_15 : EPF RX7 15 3 1 (.array .int) true := ⟨RX7, TX7, 7, tyX7, rfl, innX7, by decide, eg 209 (by decide +kernel) rfl, tyX7_ok, nmX7, rfl, rfl, fun _ => rfl⟩
theorem pf_X7_18 : EPF RX7 18 3 2 (.array .int) true := ⟨RX7, TX7, 7, tyX7, rfl, innX7, by decide, eg 210 (by decide +kernel) rfl, tyX7_ok, nmX7, rfl, rfl, fun _ => rfl⟩
theorem pf_X7_21 : EPF RX7 21 3 3 (.array .int) true := ⟨RX7, TX7, 7, tyX7, rfl, innX7, by decide, eg 211 (by decide +kernel) rfl, tyX7_ok, nmX7, rfl, rfl, fun _ => rfl⟩
theorem pf_X7_24 : EPF RX7 24 3 4 (.array .int) true := ⟨RX7, TX7, 7, tyX7, rfl, innX7, by decide, eg 212 (by decide +kernel) rfl, tyX7_ok, nmX7, rfl, rfl, fun _ => rfl⟩
theorem pf_X7_27 : EPF RX7 27 3 5 (.int) false := ⟨RX7, TX7, 7, tyX7, rfl, innX7, by decide, eg 213 (by decide +kernel) rfl, tyX7_ok, nmX7, rfl, rfl, fun _ => rfl⟩
theorem pf_X7_31 : EPF RX7 31 3 6 (.int) false := ⟨RX7, TX7, 7, tyX7, rfl, innX7, by decide, eg 214 (by decide +kernel) rfl, tyX7_ok, nmX7, rfl, rfl, fun _ => rfl⟩
theorem gf_X7_9 : EGF RX7 9 3 0 := ⟨RX7, TX7, 7, rfl, innX7, by decide, eg 208 (by decide +kernel) rfl⟩
theorem cs_X7_34 : ECS RX7 34 mJ7_fill_53178 2 := ⟨eg 809 (by decide +kernel) rfl, eg 810 (by decide +kernel) rfl, caJ7_fill_53178⟩
theorem gf_X7_15 : EGF RX7 15 3 1 := ⟨RX7, TX7, 7, rfl, innX7, by decide, eg 209 (by decide +kernel) rfl⟩
theorem gf_X7_18 : EGF RX7 18 3 2 := ⟨RX7, TX7, 7, rfl, innX7, by decide, eg 210 (by decide +kernel) rfl⟩
theorem gf_X7_21 : EGF RX7 21 3 3 := ⟨RX7, TX7, 7, rfl, innX7, by decide, eg 211 (by decide +kernel) rfl⟩
theorem gf_X7_24 : EGF RX7 24 3 4 := ⟨RX7, TX7, 7, rfl, innX7, by decide, eg 212 (by decide +kernel) rfl⟩
theorem gf_X7_27 : EGF RX7 27 3 5 := ⟨RX7, TX7, 7, rfl, innX7, by decide, eg 213 (by decide +kernel) rfl⟩
theorem gf_X7_31 : EGF RX7 31 3 6 := ⟨RX7, TX7, 7, rfl, innX7, by decide, eg 214 (by decide +kernel) rfl⟩
theorem cv_X7_40 : ECV RX7 40 mX7_hasType 1 := ⟨eg 338 (by decide +kernel) rfl, eg 312 (by decide +kernel) rfl, eg 313 (by decide +kernel) rfl, caX7_hasType⟩
theorem cv_X7_44 : ECV RX7 44 mX7_has 3 := ⟨eg 300 (by decide +kernel) rfl, eg 301 (by decide +kernel) rfl, eg 302 (by decide +kernel) rfl, caX7_has⟩
theorem cs_X7_48 : ECSN RX7 48 mX11_cellOf 3 := ⟨⟨"PolicyDesk", List.mem_of_getElem? (i := 304) (by decide +kernel)⟩, eg 305 (by decide +kernel) rfl, caX11_cellOf⟩
theorem cs_X7_52 : ECSN RX7 52 mX11_hasBit 2 := ⟨⟨"PolicyDesk", List.mem_of_getElem? (i := 319) (by decide +kernel)⟩, eg 320 (by decide +kernel) rfl, caX11_hasBit⟩
theorem cv_X7_56 : ECV RX7 56 mX7_allowedAt 3 := ⟨eg 347 (by decide +kernel) rfl, eg 348 (by decide +kernel) rfl, eg 349 (by decide +kernel) rfl, caX7_allowedAt⟩
theorem cv_X7_59 : ECV RX7 59 mX7_hasMask 2 := ⟨eg 343 (by decide +kernel) rfl, eg 345 (by decide +kernel) rfl, eg 3 (by decide +kernel) rfl, caX7_hasMask⟩
theorem cv_X7_62 : ECV RX7 62 mX7_rankOf 1 := ⟨eg 334 (by decide +kernel) rfl, eg 335 (by decide +kernel) rfl, eg 336 (by decide +kernel) rfl, caX7_rankOf⟩
theorem cv_X7_66 : ECV RX7 66 mX7_maskAt 2 := ⟨eg 339 (by decide +kernel) rfl, eg 340 (by decide +kernel) rfl, eg 341 (by decide +kernel) rfl, caX7_maskAt⟩
theorem cv_X7_70 : ECV RX7 70 mX7_spread 1 := ⟨eg 322 (by decide +kernel) rfl, eg 324 (by decide +kernel) rfl, eg 1 (by decide +kernel) rfl, caX7_spread⟩
theorem cv_X7_73 : ECV RX7 73 mX7_flowsInOneStep 2 := ⟨eg 326 (by decide +kernel) rfl, eg 328 (by decide +kernel) rfl, eg 2 (by decide +kernel) rfl, caX7_flowsInOneStep⟩
theorem cv_X7_76 : ECV RX7 76 mX7_permitted 3 := ⟨eg 330 (by decide +kernel) rfl, eg 331 (by decide +kernel) rfl, eg 332 (by decide +kernel) rfl, caX7_permitted⟩
theorem ob_X8_3 : Cond.methodLink RX8 3 objectInit ∈ egood := eg 112 (by decide +kernel) rfl
theorem pf_X8_9 : EPF RX8 9 4 1 (.int) false := ⟨RX8, TX8, 2, tyX8, rfl, innX8, by decide, eg 114 (by decide +kernel) rfl, tyX8_ok, nmX8, rfl, rfl, fun _ => rfl⟩
theorem pf_X8_15 : EPF RX8 15 4 0 (.object "PolicyDesk$Text") true := ⟨RX8, TX8, 2, tyX8, rfl, innX8, by decide, eg 113 (by decide +kernel) rfl, tyX8_ok, nmX8, rfl, rfl, fun _ => rfl⟩
theorem gf_X8_9 : EGF RX8 9 4 1 := ⟨RX8, TX8, 2, rfl, innX8, by decide, eg 114 (by decide +kernel) rfl⟩
theorem cv_X8_19 : ECV RX8 19 mX8_keyword 1 := ⟨eg 449 (by decide +kernel) rfl, eg 451 (by decide +kernel) rfl, eg 4 (by decide +kernel) rfl, caX8_keyword⟩
theorem cv_X8_23 : ECV RX8 23 mX9_kind 0 := ⟨eg 516 (by decide +kernel) rfl, eg 517 (by decide +kernel) rfl, eg 518 (by decide +kernel) rfl, caX9_kind⟩
theorem gn_X8_29 : Cond.fieldLinkNest RX8 29 "PolicyDesk$Kind" "names" "I" "PolicyDesk" ∈ lw_tbl := List.mem_of_getElem? (i := 1297) (by decide +kernel)
theorem cv_X8_34 : ECV RX8 34 mX8_names 2 := ⟨eg 520 (by decide +kernel) rfl, eg 522 (by decide +kernel) rfl, eg 6 (by decide +kernel) rfl, caX8_names⟩
theorem gn_X8_37 : Cond.fieldLinkNest RX8 37 "PolicyDesk$Kind" "marks" "Ljava/lang/String;" "PolicyDesk" ∈ lw_tbl := List.mem_of_getElem? (i := 1298) (by decide +kernel)
theorem cv_X8_41 : ECV RX8 41 mX8_mark 2 := ⟨eg 539 (by decide +kernel) rfl, eg 541 (by decide +kernel) rfl, eg 9 (by decide +kernel) rfl, caX8_mark⟩
theorem gn_X8_45 : Cond.fieldLinkNest RX8 45 "PolicyDesk$Kind" "fewest" "I" "PolicyDesk" ∈ lw_tbl := List.mem_of_getElem? (i := 1299) (by decide +kernel)
theorem gn_X8_48 : Cond.fieldLinkNest RX8 48 "PolicyDesk$Kind" "most" "I" "PolicyDesk" ∈ lw_tbl := List.mem_of_getElem? (i := 1300) (by decide +kernel)
theorem cv_X8_51 : ECV RX8 51 mX8_list 3 := ⟨eg 614 (by decide +kernel) rfl, eg 616 (by decide +kernel) rfl, eg 11 (by decide +kernel) rfl, caX8_list⟩
theorem gz_X8_55 : Cond.fieldLinkNest RX8 55 "PolicyDesk" "KINDS" "[LPolicyDesk$Kind;" "PolicyDesk" ∈ lw_tbl := List.mem_of_getElem? (i := 453) (by decide +kernel)
theorem gn_X8_59 : Cond.fieldLinkNest RX8 59 "PolicyDesk$Kind" "word" "Ljava/lang/String;" "PolicyDesk" ∈ lw_tbl := List.mem_of_getElem? (i := 1294) (by decide +kernel)
theorem cv_X8_62 : ECV RX8 62 mX8_lettersShared 1 := ⟨eg 455 (by decide +kernel) rfl, eg 457 (by decide +kernel) rfl, eg 5 (by decide +kernel) rfl, caX8_lettersShared⟩
theorem cv_X8_66 : ECV RX8 66 mJ0_length_8abf5 0 := ⟨eg 459 (by decide +kernel) rfl, eg 460 (by decide +kernel) rfl, eg 461 (by decide +kernel) rfl, caJ0_length_8abf5⟩
theorem cv_X8_72 : ECV RX8 72 mX9_begin 1 := ⟨eg 511 (by decide +kernel) rfl, eg 512 (by decide +kernel) rfl, eg 513 (by decide +kernel) rfl, caX9_begin⟩
theorem cs_X8_76 : ECS RX8 76 mJ9_max_7cf53 2 := ⟨eg 515 (by decide +kernel) rfl, eg 161 (by decide +kernel) rfl, caJ9_max_7cf53⟩
theorem gf_X8_15 : EGF RX8 15 4 0 := ⟨RX8, TX8, 2, rfl, innX8, by decide, eg 113 (by decide +kernel) rfl⟩
theorem cv_X8_82 : ECV RX8 82 mX10_codeAt 1 := ⟨eg 469 (by decide +kernel) rfl, eg 470 (by decide +kernel) rfl, eg 471 (by decide +kernel) rfl, caX10_codeAt⟩
theorem cv_X8_88 : ECV RX8 88 mJ0_charAt_5068e 1 := ⟨eg 473 (by decide +kernel) rfl, eg 474 (by decide +kernel) rfl, eg 475 (by decide +kernel) rfl, caJ0_charAt_5068e⟩
theorem cv_X8_92 : ECV RX8 92 mX8_blank 0 := ⟨eg 524 (by decide +kernel) rfl, eg 526 (by decide +kernel) rfl, eg 7 (by decide +kernel) rfl, caX8_blank⟩
theorem cv_X8_96 : ECV RX8 96 mX8_name 1 := ⟨eg 528 (by decide +kernel) rfl, eg 530 (by decide +kernel) rfl, eg 8 (by decide +kernel) rfl, caX8_name⟩
theorem cv_X8_99 : ECV RX8 99 mJ0_isEmpty_aae02 0 := ⟨eg 543 (by decide +kernel) rfl, eg 544 (by decide +kernel) rfl, eg 545 (by decide +kernel) rfl, caJ0_isEmpty_aae02⟩
theorem cv_X8_102 : ECV RX8 102 mX8_atEnd 0 := ⟨eg 547 (by decide +kernel) rfl, eg 549 (by decide +kernel) rfl, eg 10 (by decide +kernel) rfl, caX8_atEnd⟩
theorem cv_X8_105 : ECV RX8 105 mJ0_indexOf_0f7a4 1 := ⟨eg 555 (by decide +kernel) rfl, eg 556 (by decide +kernel) rfl, eg 557 (by decide +kernel) rfl, caJ0_indexOf_0f7a4⟩
theorem cv_X8_108 : ECV RX8 108 mX9_setMark 1 := ⟨eg 610 (by decide +kernel) rfl, eg 611 (by decide +kernel) rfl, eg 612 (by decide +kernel) rfl, caX9_setMark⟩
theorem cs_X8_112 : ECS RX8 112 mX8_isLetter 1 := ⟨eg 532 (by decide +kernel) rfl, eg 533 (by decide +kernel) rfl, caX8_isLetter⟩
theorem cv_X8_116 : ECV RX8 116 mX9_push 1 := ⟨eg 535 (by decide +kernel) rfl, eg 536 (by decide +kernel) rfl, eg 537 (by decide +kernel) rfl, caX9_push⟩
theorem cv_X8_119 : ECV RX8 119 mX10_length 0 := ⟨eg 551 (by decide +kernel) rfl, eg 552 (by decide +kernel) rfl, eg 553 (by decide +kernel) rfl, caX10_length⟩
theorem ob_X9_3 : Cond.methodLink RX9 3 objectInit ∈ egood := eg 132 (by decide +kernel) rfl
theorem pf_X9_9 : EPF RX9 9 5 0 (.array .int) true := ⟨RX9, TX9, 4, tyX9, rfl, innX9, by decide, eg 135 (by decide +kernel) rfl, tyX9_ok, nmX9, rfl, rfl, fun _ => rfl⟩
theorem gz_X9_15 : Cond.fieldLink RX9 15 "PolicyDesk$Kind" "CLASS" "LPolicyDesk$Kind;" ∈ egood := eg 133 (by decide +kernel) rfl
theorem pf_X9_21 : EPF RX9 21 5 1 (.object "PolicyDesk$Kind") false := ⟨RX9, TX9, 4, tyX9, rfl, innX9, by decide, eg 136 (by decide +kernel) rfl, tyX9_ok, nmX9, rfl, rfl, fun _ => rfl⟩
theorem pf_X9_24 : EPF RX9 24 5 2 (.int) false := ⟨RX9, TX9, 4, tyX9, rfl, innX9, by decide, eg 137 (by decide +kernel) rfl, tyX9_ok, nmX9, rfl, rfl, fun _ => rfl⟩
theorem pf_X9_28 : EPF RX9 28 5 3 (.int) false := ⟨RX9, TX9, 4, tyX9, rfl, innX9, by decide, eg 138 (by decide +kernel) rfl, tyX9_ok, nmX9, rfl, rfl, fun _ => rfl⟩
theorem gf_X9_24 : EGF RX9 24 5 2 := ⟨RX9, TX9, 4, rfl, innX9, by decide, eg 137 (by decide +kernel) rfl⟩
theorem gf_X9_9 : EGF RX9 9 5 0 := ⟨RX9, TX9, 4, rfl, innX9, by decide, eg 135 (by decide +kernel) rfl⟩
theorem gf_X9_21 : EGF RX9 21 5 1 := ⟨RX9, TX9, 4, rfl, innX9, by decide, eg 136 (by decide +kernel) rfl⟩
theorem gf_X9_28 : EGF RX9 28 5 3 := ⟨RX9, TX9, 4, rfl, innX9, by decide, eg 138 (by decide +kernel) rfl⟩
theorem cv_X9_31 : ECV RX9 31 mX9_word 1 := ⟨eg 751 (by decide +kernel) rfl, eg 752 (by decide +kernel) rfl, eg 753 (by decide +kernel) rfl, caX9_word⟩
theorem cv_X9_35 : ECV RX9 35 mX9_find 2 := ⟨eg 759 (by decide +kernel) rfl, eg 760 (by decide +kernel) rfl, eg 761 (by decide +kernel) rfl, caX9_find⟩
theorem ob_X10_3 : Cond.methodLink RX10 3 objectInit ∈ egood := eg 98 (by decide +kernel) rfl
theorem pf_X10_9 : EPF RX10 9 6 0 (.array .int) true := ⟨RX10, TX10, 2, tyX10, rfl, innX10, by decide, eg 99 (by decide +kernel) rfl, tyX10_ok, nmX10, rfl, rfl, fun _ => rfl⟩
theorem pf_X10_15 : EPF RX10 15 6 1 (.int) false := ⟨RX10, TX10, 2, tyX10, rfl, innX10, by decide, eg 100 (by decide +kernel) rfl, tyX10_ok, nmX10, rfl, rfl, fun _ => rfl⟩
theorem cs_X10_19 : ECSN RX10 19 mX11_byteOf 2 := ⟨⟨"PolicyDesk", List.mem_of_getElem? (i := 269) (by decide +kernel)⟩, eg 270 (by decide +kernel) rfl, caX11_byteOf⟩
theorem gf_X10_9 : EGF RX10 9 6 0 := ⟨RX10, TX10, 2, rfl, innX10, by decide, eg 99 (by decide +kernel) rfl⟩
theorem gf_X10_15 : EGF RX10 15 6 1 := ⟨RX10, TX10, 2, rfl, innX10, by decide, eg 100 (by decide +kernel) rfl⟩
theorem cv_X10_23 : ECV RX10 23 mX10_appendCode 1 := ⟨eg 272 (by decide +kernel) rfl, eg 274 (by decide +kernel) rfl, eg 0 (by decide +kernel) rfl, caX10_appendCode⟩
theorem ob_X11_1 : Cond.methodLink RX11 1 objectInit ∈ egood := eg 90 (by decide +kernel) rfl
theorem nw_X11_7 : ENW RX11 7 6 2 [.null, .int 0] := ⟨RX10, TX10, tyX10, rfl, innX10, tyX10_ok, eg 93 (by decide +kernel) rfl, eg 94 (by decide +kernel) rfl, eg 59 (by decide +kernel) rfl, by decide⟩
theorem ci_X11_9 : ECIN RX11 9 mX10_init 0 := ⟨⟨"PolicyDesk", List.mem_of_getElem? (i := 95) (by decide +kernel)⟩, eg 96 (by decide +kernel) rfl, rfl, rfl, caX10_init⟩
theorem pf_X11_10 : EPF RX11 10 7 0 (.object "PolicyDesk$Text") true := ⟨RX11, TX11, 10, tyX11, rfl, innX11, by decide, eg 230 (by decide +kernel) rfl, tyX11_ok, nmX11, rfl, rfl, fun _ => rfl⟩
theorem nw_X11_16 : ENW RX11 16 4 2 [.null, .int 0] := ⟨RX8, TX8, tyX8, rfl, innX8, tyX8_ok, eg 107 (by decide +kernel) rfl, eg 108 (by decide +kernel) rfl, eg 60 (by decide +kernel) rfl, by decide⟩
theorem gf_X11_10 : EGF RX11 10 7 0 := ⟨RX11, TX11, 10, rfl, innX11, by decide, eg 230 (by decide +kernel) rfl⟩
theorem ci_X11_18 : ECI RX11 18 mX8_init 1 := ⟨eg 109 (by decide +kernel) rfl, eg 110 (by decide +kernel) rfl, rfl, rfl, caX8_init⟩
theorem pf_X11_21 : EPF RX11 21 7 1 (.object "PolicyDesk$Reader") true := ⟨RX11, TX11, 10, tyX11, rfl, innX11, by decide, eg 231 (by decide +kernel) rfl, tyX11_ok, nmX11, rfl, rfl, fun _ => rfl⟩
theorem nw_X11_25 : ENW RX11 25 1 2 [.null, .int 0] := ⟨RX3, TX3, tyX3, rfl, innX3, tyX3_ok, eg 120 (by decide +kernel) rfl, eg 121 (by decide +kernel) rfl, eg 61 (by decide +kernel) rfl, by decide⟩
theorem ci_X11_27 : ECI RX11 27 mX3_init 0 := ⟨eg 122 (by decide +kernel) rfl, eg 123 (by decide +kernel) rfl, rfl, rfl, caX3_init⟩
theorem pf_X11_28 : EPF RX11 28 7 2 (.object "PolicyDesk$Draft") true := ⟨RX11, TX11, 10, tyX11, rfl, innX11, by decide, eg 232 (by decide +kernel) rfl, tyX11_ok, nmX11, rfl, rfl, fun _ => rfl⟩
theorem nw_X11_32 : ENW RX11 32 2 5 [.null, .null, .int 0, .int 0, .int 0] := ⟨RX6, TX6, tyX6, rfl, innX6, tyX6_ok, eg 155 (by decide +kernel) rfl, eg 156 (by decide +kernel) rfl, eg 65 (by decide +kernel) rfl, by decide⟩
theorem cs_X11_34 : ECS RX11 34 mJ9_min_7cf53 2 := ⟨eg 157 (by decide +kernel) rfl, eg 158 (by decide +kernel) rfl, caJ9_min_7cf53⟩
theorem cs_X11_40 : ECS RX11 40 mJ9_max_7cf53 2 := ⟨eg 160 (by decide +kernel) rfl, eg 161 (by decide +kernel) rfl, caJ9_max_7cf53⟩
theorem ci_X11_43 : ECI RX11 43 mX6_init 1 := ⟨eg 163 (by decide +kernel) rfl, eg 164 (by decide +kernel) rfl, rfl, rfl, caX6_init⟩
theorem pf_X11_46 : EPF RX11 46 7 3 (.object "PolicyDesk$Memory") true := ⟨RX11, TX11, 10, tyX11, rfl, innX11, by decide, eg 233 (by decide +kernel) rfl, tyX11_ok, nmX11, rfl, rfl, fun _ => rfl⟩
theorem nw_X11_50 : ENW RX11 50 0 4 [.null, .int 0, .int 0, .int 0] := ⟨RX1, TX1, tyX1, rfl, innX1, tyX1_ok, eg 183 (by decide +kernel) rfl, eg 184 (by decide +kernel) rfl, eg 67 (by decide +kernel) rfl, by decide⟩
theorem ci_X11_52 : ECIN RX11 52 mX1_init 0 := ⟨⟨"PolicyDesk", List.mem_of_getElem? (i := 185) (by decide +kernel)⟩, eg 186 (by decide +kernel) rfl, rfl, rfl, caX1_init⟩
theorem pf_X11_53 : EPF RX11 53 7 4 (.object "PolicyDesk$ByteRow") true := ⟨RX11, TX11, 10, tyX11, rfl, innX11, by decide, eg 234 (by decide +kernel) rfl, tyX11_ok, nmX11, rfl, rfl, fun _ => rfl⟩
theorem pf_X11_57 : EPF RX11 57 7 5 (.object "PolicyDesk$ByteRow") true := ⟨RX11, TX11, 10, tyX11, rfl, innX11, by decide, eg 235 (by decide +kernel) rfl, tyX11_ok, nmX11, rfl, rfl, fun _ => rfl⟩
theorem nw_X11_60 : ENW RX11 60 3 7 [.null, .null, .null, .null, .null, .int 0, .int 0] := ⟨RX7, TX7, tyX7, rfl, innX7, tyX7_ok, eg 202 (by decide +kernel) rfl, eg 203 (by decide +kernel) rfl, eg 68 (by decide +kernel) rfl, by decide⟩
theorem ci_X11_62 : ECIN RX11 62 mX7_init 0 := ⟨⟨"PolicyDesk", List.mem_of_getElem? (i := 204) (by decide +kernel)⟩, eg 205 (by decide +kernel) rfl, rfl, rfl, caX7_init⟩
theorem pf_X11_63 : EPF RX11 63 7 6 (.object "PolicyDesk$Policy") false := ⟨RX11, TX11, 10, tyX11, rfl, innX11, by decide, eg 236 (by decide +kernel) rfl, tyX11_ok, nmX11, rfl, rfl, fun _ => rfl⟩
theorem pf_X11_67 : EPF RX11 67 7 7 (.object "PolicyDesk$Policy") false := ⟨RX11, TX11, 10, tyX11, rfl, innX11, by decide, eg 237 (by decide +kernel) rfl, tyX11_ok, nmX11, rfl, rfl, fun _ => rfl⟩
theorem pf_X11_70 : EPF RX11 70 7 8 (.int) false := ⟨RX11, TX11, 10, tyX11, rfl, innX11, by decide, eg 238 (by decide +kernel) rfl, tyX11_ok, nmX11, rfl, rfl, fun _ => rfl⟩
theorem pf_X11_74 : EPF RX11 74 7 9 (.int) false := ⟨RX11, TX11, 10, tyX11, rfl, innX11, by decide, eg 239 (by decide +kernel) rfl, tyX11_ok, nmX11, rfl, rfl, fun _ => rfl⟩
theorem cv_X11_77 : ECV RX11 77 mX10_append 1 := ⟨eg 265 (by decide +kernel) rfl, eg 266 (by decide +kernel) rfl, eg 267 (by decide +kernel) rfl, caX10_append⟩
theorem gf_X11_21 : EGF RX11 21 7 1 := ⟨RX11, TX11, 10, rfl, innX11, by decide, eg 231 (by decide +kernel) rfl⟩
theorem gf_X11_28 : EGF RX11 28 7 2 := ⟨RX11, TX11, 10, rfl, innX11, by decide, eg 232 (by decide +kernel) rfl⟩
theorem cv_X11_81 : ECV RX11 81 mX3_spare 0 := ⟨eg 441 (by decide +kernel) rfl, eg 442 (by decide +kernel) rfl, eg 443 (by decide +kernel) rfl, caX3_spare⟩
theorem cv_X11_85 : ECV RX11 85 mX8_parse 1 := ⟨eg 445 (by decide +kernel) rfl, eg 446 (by decide +kernel) rfl, eg 447 (by decide +kernel) rfl, caX8_parse⟩
theorem cv_X11_89 : ECV RX11 89 mX8_stoppedAt 0 := ⟨eg 618 (by decide +kernel) rfl, eg 619 (by decide +kernel) rfl, eg 620 (by decide +kernel) rfl, caX8_stoppedAt⟩
theorem cv_X11_93 : ECV RX11 93 mX10_clear 0 := ⟨eg 622 (by decide +kernel) rfl, eg 623 (by decide +kernel) rfl, eg 624 (by decide +kernel) rfl, caX10_clear⟩
theorem cv_X11_103 : ECV RX11 103 mX3_hasRoom 0 := ⟨eg 694 (by decide +kernel) rfl, eg 695 (by decide +kernel) rfl, eg 696 (by decide +kernel) rfl, caX3_hasRoom⟩
theorem cv_X11_112 : ECV RX11 112 mX3_keepSpare 0 := ⟨eg 714 (by decide +kernel) rfl, eg 715 (by decide +kernel) rfl, eg 716 (by decide +kernel) rfl, caX3_keepSpare⟩
theorem gf_X11_70 : EGF RX11 70 7 8 := ⟨RX11, TX11, 10, rfl, innX11, by decide, eg 238 (by decide +kernel) rfl⟩
theorem cv_X11_115 : ECV RX11 115 mX3_shorten 1 := ⟨eg 284 (by decide +kernel) rfl, eg 285 (by decide +kernel) rfl, eg 286 (by decide +kernel) rfl, caX3_shorten⟩
theorem cv_X11_119 : ECV RX11 119 mX3_firstWrong 0 := ⟨eg 726 (by decide +kernel) rfl, eg 727 (by decide +kernel) rfl, eg 728 (by decide +kernel) rfl, caX3_firstWrong⟩
theorem gf_X11_74 : EGF RX11 74 7 9 := ⟨RX11, TX11, 10, rfl, innX11, by decide, eg 239 (by decide +kernel) rfl⟩
theorem gf_X11_67 : EGF RX11 67 7 7 := ⟨RX11, TX11, 10, rfl, innX11, by decide, eg 237 (by decide +kernel) rfl⟩
theorem cs_X11_124 : ECS RX11 124 mX2_compose 2 := ⟨eg 802 (by decide +kernel) rfl, eg 803 (by decide +kernel) rfl, caX2_compose⟩
theorem cs_X11_130 : ECS RX11 130 mX2_firstAgainst 2 := ⟨eg 879 (by decide +kernel) rfl, eg 880 (by decide +kernel) rfl, caX2_firstAgainst⟩
theorem cv_X11_136 : ECV RX11 136 mX11_putInForce 0 := ⟨eg 892 (by decide +kernel) rfl, eg 894 (by decide +kernel) rfl, eg 21 (by decide +kernel) rfl, caX11_putInForce⟩
theorem gf_X11_63 : EGF RX11 63 7 6 := ⟨RX11, TX11, 10, rfl, innX11, by decide, eg 236 (by decide +kernel) rfl⟩
theorem cv_X11_139 : ECV RX11 139 mX7_has 3 := ⟨eg 908 (by decide +kernel) rfl, eg 301 (by decide +kernel) rfl, eg 302 (by decide +kernel) rfl, caX7_has⟩
theorem cs_X11_148 : ECS RX11 148 mX11_cellOf 3 := ⟨eg 925 (by decide +kernel) rfl, eg 305 (by decide +kernel) rfl, caX11_cellOf⟩
theorem gf_X11_46 : EGF RX11 46 7 3 := ⟨RX11, TX11, 10, rfl, innX11, by decide, eg 233 (by decide +kernel) rfl⟩
theorem cv_X11_152 : ECV RX11 152 mX6_recall 1 := ⟨eg 926 (by decide +kernel) rfl, eg 927 (by decide +kernel) rfl, eg 928 (by decide +kernel) rfl, caX6_recall⟩
theorem cv_X11_156 : ECV RX11 156 mX7_permitted 3 := ⟨eg 938 (by decide +kernel) rfl, eg 331 (by decide +kernel) rfl, eg 332 (by decide +kernel) rfl, caX7_permitted⟩
theorem cv_X11_159 : ECV RX11 159 mX6_keep 2 := ⟨eg 939 (by decide +kernel) rfl, eg 940 (by decide +kernel) rfl, eg 941 (by decide +kernel) rfl, caX6_keep⟩
theorem cv_X11_163 : ECV RX11 163 mX7_productAt 3 := ⟨eg 296 (by decide +kernel) rfl, eg 297 (by decide +kernel) rfl, eg 298 (by decide +kernel) rfl, caX7_productAt⟩
theorem cv_X11_166 : ECV RX11 166 mX7_hasType 1 := ⟨eg 311 (by decide +kernel) rfl, eg 312 (by decide +kernel) rfl, eg 313 (by decide +kernel) rfl, caX7_hasType⟩
theorem cv_X11_169 : ECV RX11 169 mX7_stepsBetween 2 := ⟨eg 315 (by decide +kernel) rfl, eg 316 (by decide +kernel) rfl, eg 317 (by decide +kernel) rfl, caX7_stepsBetween⟩
theorem cv_X11_172 : ECV RX11 172 mX7_types 0 := ⟨eg 355 (by decide +kernel) rfl, eg 356 (by decide +kernel) rfl, eg 357 (by decide +kernel) rfl, caX7_types⟩
theorem cv_X11_175 : ECV RX11 175 mX7_classes 0 := ⟨eg 359 (by decide +kernel) rfl, eg 360 (by decide +kernel) rfl, eg 361 (by decide +kernel) rfl, caX7_classes⟩
theorem cv_X11_178 : ECV RX11 178 mX6_hits 0 := ⟨eg 363 (by decide +kernel) rfl, eg 364 (by decide +kernel) rfl, eg 365 (by decide +kernel) rfl, caX6_hits⟩
theorem cv_X11_181 : ECV RX11 181 mX6_misses 0 := ⟨eg 367 (by decide +kernel) rfl, eg 368 (by decide +kernel) rfl, eg 369 (by decide +kernel) rfl, caX6_misses⟩
theorem cv_X11_184 : ECV RX11 184 mX6_size 0 := ⟨eg 371 (by decide +kernel) rfl, eg 372 (by decide +kernel) rfl, eg 373 (by decide +kernel) rfl, caX6_size⟩
theorem cv_X11_187 : ECV RX11 187 mX3_size 0 := ⟨eg 375 (by decide +kernel) rfl, eg 376 (by decide +kernel) rfl, eg 377 (by decide +kernel) rfl, caX3_size⟩
theorem gf_X11_53 : EGF RX11 53 7 4 := ⟨RX11, TX11, 10, rfl, innX11, by decide, eg 234 (by decide +kernel) rfl⟩
theorem cs_X11_188 : ECS RX11 188 mX4_encode 2 := ⟨eg 383 (by decide +kernel) rfl, eg 384 (by decide +kernel) rfl, caX4_encode⟩
theorem cv_X11_194 : ECV RX11 194 mX1_length 0 := ⟨eg 407 (by decide +kernel) rfl, eg 408 (by decide +kernel) rfl, eg 409 (by decide +kernel) rfl, caX1_length⟩
theorem cv_X11_197 : ECV RX11 197 mX1_byteAt 1 := ⟨eg 415 (by decide +kernel) rfl, eg 416 (by decide +kernel) rfl, eg 417 (by decide +kernel) rfl, caX1_byteAt⟩
theorem gf_X11_57 : EGF RX11 57 7 5 := ⟨RX11, TX11, 10, rfl, innX11, by decide, eg 235 (by decide +kernel) rfl⟩
theorem cv_X11_200 : ECV RX11 200 mX1_room 0 := ⟨eg 423 (by decide +kernel) rfl, eg 424 (by decide +kernel) rfl, eg 425 (by decide +kernel) rfl, caX1_room⟩
theorem cs_X11_203 : ECS RX11 203 mX11_byteOf 2 := ⟨eg 427 (by decide +kernel) rfl, eg 270 (by decide +kernel) rfl, caX11_byteOf⟩
theorem cv_X11_207 : ECV RX11 207 mX1_push 1 := ⟨eg 428 (by decide +kernel) rfl, eg 392 (by decide +kernel) rfl, eg 393 (by decide +kernel) rfl, caX1_push⟩
theorem cs_X11_210 : ECS RX11 210 mX4_decode 2 := ⟨eg 950 (by decide +kernel) rfl, eg 951 (by decide +kernel) rfl, caX4_decode⟩
theorem cv_X11_214 : ECV RX11 214 mX1_clear 0 := ⟨eg 979 (by decide +kernel) rfl, eg 387 (by decide +kernel) rfl, eg 388 (by decide +kernel) rfl, caX1_clear⟩
theorem cv_X11_217 : ECV RX11 217 mX6_forget 0 := ⟨eg 896 (by decide +kernel) rfl, eg 897 (by decide +kernel) rfl, eg 898 (by decide +kernel) rfl, caX6_forget⟩
theorem ob_X12_1 : Cond.methodLink RX12 1 objectInit ∈ egood := eg 986 (by decide +kernel) rfl
theorem pf_X12_7 : EPF RX12 7 8 3 (.array .char) true := ⟨RX12, TX12, 32, tyX12, rfl, innX12, by decide, eg 990 (by decide +kernel) rfl, tyX12_ok, nmX12, rfl, rfl, fun _ => rfl⟩
theorem pf_X12_13 : EPF RX12 13 8 5 (.int) false := ⟨RX12, TX12, 32, tyX12, rfl, innX12, by decide, eg 992 (by decide +kernel) rfl, tyX12_ok, nmX12, rfl, rfl, fun _ => rfl⟩
theorem pf_X12_17 : EPF RX12 17 8 7 (.array .int) true := ⟨RX12, TX12, 32, tyX12, rfl, innX12, by decide, eg 994 (by decide +kernel) rfl, tyX12_ok, nmX12, rfl, rfl, fun _ => rfl⟩
theorem pf_X12_21 : EPF RX12 21 8 8 (.array .int) true := ⟨RX12, TX12, 32, tyX12, rfl, innX12, by decide, eg 995 (by decide +kernel) rfl, tyX12_ok, nmX12, rfl, rfl, fun _ => rfl⟩
theorem pf_X12_24 : EPF RX12 24 8 9 (.array .int) true := ⟨RX12, TX12, 32, tyX12, rfl, innX12, by decide, eg 996 (by decide +kernel) rfl, tyX12_ok, nmX12, rfl, rfl, fun _ => rfl⟩
theorem pf_X12_27 : EPF RX12 27 8 10 (.array .int) true := ⟨RX12, TX12, 32, tyX12, rfl, innX12, by decide, eg 997 (by decide +kernel) rfl, tyX12_ok, nmX12, rfl, rfl, fun _ => rfl⟩
theorem pf_X12_30 : EPF RX12 30 8 11 (.int) false := ⟨RX12, TX12, 32, tyX12, rfl, innX12, by decide, eg 998 (by decide +kernel) rfl, tyX12_ok, nmX12, rfl, rfl, fun _ => rfl⟩
theorem pf_X12_33 : EPF RX12 33 8 14 (.array .int) true := ⟨RX12, TX12, 32, tyX12, rfl, innX12, by decide, eg 1001 (by decide +kernel) rfl, tyX12_ok, nmX12, rfl, rfl, fun _ => rfl⟩
theorem pf_X12_36 : EPF RX12 36 8 15 (.array .int) true := ⟨RX12, TX12, 32, tyX12, rfl, innX12, by decide, eg 1002 (by decide +kernel) rfl, tyX12_ok, nmX12, rfl, rfl, fun _ => rfl⟩
theorem pf_X12_39 : EPF RX12 39 8 16 (.array .int) true := ⟨RX12, TX12, 32, tyX12, rfl, innX12, by decide, eg 1003 (by decide +kernel) rfl, tyX12_ok, nmX12, rfl, rfl, fun _ => rfl⟩
theorem pf_X12_42 : EPF RX12 42 8 17 (.array .int) true := ⟨RX12, TX12, 32, tyX12, rfl, innX12, by decide, eg 1004 (by decide +kernel) rfl, tyX12_ok, nmX12, rfl, rfl, fun _ => rfl⟩
theorem pf_X12_45 : EPF RX12 45 8 18 (.array .int) true := ⟨RX12, TX12, 32, tyX12, rfl, innX12, by decide, eg 1005 (by decide +kernel) rfl, tyX12_ok, nmX12, rfl, rfl, fun _ => rfl⟩
theorem pf_X12_48 : EPF RX12 48 8 19 (.array .int) true := ⟨RX12, TX12, 32, tyX12, rfl, innX12, by decide, eg 1006 (by decide +kernel) rfl, tyX12_ok, nmX12, rfl, rfl, fun _ => rfl⟩
theorem pf_X12_51 : EPF RX12 51 8 20 (.array .int) true := ⟨RX12, TX12, 32, tyX12, rfl, innX12, by decide, eg 1007 (by decide +kernel) rfl, tyX12_ok, nmX12, rfl, rfl, fun _ => rfl⟩
theorem pf_X12_54 : EPF RX12 54 8 22 (.array .int) true := ⟨RX12, TX12, 32, tyX12, rfl, innX12, by decide, eg 1009 (by decide +kernel) rfl, tyX12_ok, nmX12, rfl, rfl, fun _ => rfl⟩
theorem pf_X12_57 : EPF RX12 57 8 23 (.array .int) true := ⟨RX12, TX12, 32, tyX12, rfl, innX12, by decide, eg 1010 (by decide +kernel) rfl, tyX12_ok, nmX12, rfl, rfl, fun _ => rfl⟩
theorem pf_X12_60 : EPF RX12 60 8 27 (.array .int) true := ⟨RX12, TX12, 32, tyX12, rfl, innX12, by decide, eg 1014 (by decide +kernel) rfl, tyX12_ok, nmX12, rfl, rfl, fun _ => rfl⟩
theorem pf_X12_63 : EPF RX12 63 8 29 (.array .int) true := ⟨RX12, TX12, 32, tyX12, rfl, innX12, by decide, eg 1016 (by decide +kernel) rfl, tyX12_ok, nmX12, rfl, rfl, fun _ => rfl⟩
theorem pf_X12_66 : EPF RX12 66 8 30 (.array .boolean) true := ⟨RX12, TX12, 32, tyX12, rfl, innX12, by decide, eg 1017 (by decide +kernel) rfl, tyX12_ok, nmX12, rfl, rfl, fun _ => rfl⟩
theorem pf_X12_70 : EPF RX12 70 8 31 (.array .boolean) true := ⟨RX12, TX12, 32, tyX12, rfl, innX12, by decide, eg 1018 (by decide +kernel) rfl, tyX12_ok, nmX12, rfl, rfl, fun _ => rfl⟩
theorem pf_X12_73 : EPF RX12 73 8 0 (.int) true := ⟨RX12, TX12, 32, tyX12, rfl, innX12, by decide, eg 987 (by decide +kernel) rfl, tyX12_ok, nmX12, rfl, rfl, fun _ => rfl⟩
theorem gf_X12_76 : EGF RX12 76 8 1 := ⟨RX12, TX12, 32, rfl, innX12, by decide, eg 988 (by decide +kernel) rfl⟩
theorem pf_X12_76 : EPF RX12 76 8 1 (.int) false := ⟨RX12, TX12, 32, tyX12, rfl, innX12, by decide, eg 988 (by decide +kernel) rfl, tyX12_ok, nmX12, rfl, rfl, fun _ => rfl⟩
theorem lc_X12_79 : Cond.constantLong RX12 79 (255) ∈ egood := eg 1094 (by decide +kernel) rfl
theorem gf_X12_81 : EGF RX12 81 8 2 := ⟨RX12, TX12, 32, rfl, innX12, by decide, eg 989 (by decide +kernel) rfl⟩
theorem gf_X12_7 : EGF RX12 7 8 3 := ⟨RX12, TX12, 32, rfl, innX12, by decide, eg 990 (by decide +kernel) rfl⟩
theorem pf_X12_81 : EPF RX12 81 8 2 (.int) false := ⟨RX12, TX12, 32, tyX12, rfl, innX12, by decide, eg 989 (by decide +kernel) rfl, tyX12_ok, nmX12, rfl, rfl, fun _ => rfl⟩
theorem gf_X12_84 : EGF RX12 84 8 4 := ⟨RX12, TX12, 32, rfl, innX12, by decide, eg 991 (by decide +kernel) rfl⟩
theorem cv_X12_87 : ECV RX12 87 mX12_here 0 := ⟨eg 1117 (by decide +kernel) rfl, eg 1119 (by decide +kernel) rfl, eg 27 (by decide +kernel) rfl, caX12_here⟩
theorem cs_X12_91 : ECS RX12 91 mX12_word 5 := ⟨eg 1110 (by decide +kernel) rfl, eg 1111 (by decide +kernel) rfl, caX12_word⟩
theorem cs_X12_95 : ECS RX12 95 mX12_keyword 1 := ⟨eg 1107 (by decide +kernel) rfl, eg 1108 (by decide +kernel) rfl, caX12_keyword⟩
theorem cv_X12_99 : ECV RX12 99 mX12_isLetter 0 := ⟨eg 1113 (by decide +kernel) rfl, eg 1115 (by decide +kernel) rfl, eg 26 (by decide +kernel) rfl, caX12_isLetter⟩
theorem pf_X12_84 : EPF RX12 84 8 4 (.int) false := ⟨RX12, TX12, 32, tyX12, rfl, innX12, by decide, eg 991 (by decide +kernel) rfl, tyX12_ok, nmX12, rfl, rfl, fun _ => rfl⟩
theorem cv_X12_103 : ECV RX12 103 mX12_readName 0 := ⟨eg 1125 (by decide +kernel) rfl, eg 1127 (by decide +kernel) rfl, eg 29 (by decide +kernel) rfl, caX12_readName⟩
theorem gf_X12_24 : EGF RX12 24 8 9 := ⟨RX12, TX12, 32, rfl, innX12, by decide, eg 996 (by decide +kernel) rfl⟩
theorem gf_X12_21 : EGF RX12 21 8 8 := ⟨RX12, TX12, 32, rfl, innX12, by decide, eg 995 (by decide +kernel) rfl⟩
theorem gf_X12_107 : EGF RX12 107 8 6 := ⟨RX12, TX12, 32, rfl, innX12, by decide, eg 993 (by decide +kernel) rfl⟩
theorem cv_X12_110 : ECV RX12 110 mX12_readKind 0 := ⟨eg 1103 (by decide +kernel) rfl, eg 1105 (by decide +kernel) rfl, eg 25 (by decide +kernel) rfl, caX12_readKind⟩
theorem gf_X12_17 : EGF RX12 17 8 7 := ⟨RX12, TX12, 32, rfl, innX12, by decide, eg 994 (by decide +kernel) rfl⟩
theorem gf_X12_27 : EGF RX12 27 8 10 := ⟨RX12, TX12, 32, rfl, innX12, by decide, eg 997 (by decide +kernel) rfl⟩
theorem cv_X12_113 : ECV RX12 113 mX12_readNames 3 := ⟨eg 1121 (by decide +kernel) rfl, eg 1123 (by decide +kernel) rfl, eg 28 (by decide +kernel) rfl, caX12_readNames⟩
theorem cv_X12_117 : ECV RX12 117 mX12_readExtra 2 := ⟨eg 1129 (by decide +kernel) rfl, eg 1131 (by decide +kernel) rfl, eg 30 (by decide +kernel) rfl, caX12_readExtra⟩
theorem cv_X12_121 : ECV RX12 121 mX12_readStatement 0 := ⟨eg 1099 (by decide +kernel) rfl, eg 1101 (by decide +kernel) rfl, eg 24 (by decide +kernel) rfl, caX12_readStatement⟩
theorem pf_X12_107 : EPF RX12 107 8 6 (.int) false := ⟨RX12, TX12, 32, tyX12, rfl, innX12, by decide, eg 993 (by decide +kernel) rfl, tyX12_ok, nmX12, rfl, rfl, fun _ => rfl⟩
theorem gf_X12_13 : EGF RX12 13 8 5 := ⟨RX12, TX12, 32, rfl, innX12, by decide, eg 992 (by decide +kernel) rfl⟩
theorem cv_X12_124 : ECV RX12 124 mX12_nameAt 2 := ⟨eg 1153 (by decide +kernel) rfl, eg 1155 (by decide +kernel) rfl, eg 33 (by decide +kernel) rfl, caX12_nameAt⟩
theorem cv_X12_128 : ECV RX12 128 mX12_before 3 := ⟨eg 1157 (by decide +kernel) rfl, eg 1159 (by decide +kernel) rfl, eg 34 (by decide +kernel) rfl, caX12_before⟩
theorem cv_X12_132 : ECV RX12 132 mX12_isClass 1 := ⟨eg 1177 (by decide +kernel) rfl, eg 1179 (by decide +kernel) rfl, eg 39 (by decide +kernel) rfl, caX12_isClass⟩
theorem cv_X12_136 : ECV RX12 136 mX12_isPermission 2 := ⟨eg 1188 (by decide +kernel) rfl, eg 1190 (by decide +kernel) rfl, eg 41 (by decide +kernel) rfl, caX12_isPermission⟩
theorem cv_X12_139 : ECV RX12 139 mX12_allDifferent 1 := ⟨eg 1161 (by decide +kernel) rfl, eg 1163 (by decide +kernel) rfl, eg 35 (by decide +kernel) rfl, caX12_allDifferent⟩
theorem cv_X12_142 : ECV RX12 142 mX12_isAttribute 1 := ⟨eg 1165 (by decide +kernel) rfl, eg 1167 (by decide +kernel) rfl, eg 36 (by decide +kernel) rfl, caX12_isAttribute⟩
theorem cv_X12_145 : ECV RX12 145 mX12_twice 1 := ⟨eg 1169 (by decide +kernel) rfl, eg 1171 (by decide +kernel) rfl, eg 37 (by decide +kernel) rfl, caX12_twice⟩
theorem cv_X12_148 : ECV RX12 148 mX12_isType 1 := ⟨eg 1173 (by decide +kernel) rfl, eg 1175 (by decide +kernel) rfl, eg 38 (by decide +kernel) rfl, caX12_isType⟩
theorem cs_X12_151 : ECS RX12 151 mX12_isSelf 1 := ⟨eg 1181 (by decide +kernel) rfl, eg 1182 (by decide +kernel) rfl, caX12_isSelf⟩
theorem cv_X12_154 : ECV RX12 154 mX12_arePermissions 3 := ⟨eg 1184 (by decide +kernel) rfl, eg 1186 (by decide +kernel) rfl, eg 40 (by decide +kernel) rfl, caX12_arePermissions⟩
theorem cv_X12_157 : ECV RX12 157 mX12_isWrong 1 := ⟨eg 1149 (by decide +kernel) rfl, eg 1151 (by decide +kernel) rfl, eg 32 (by decide +kernel) rfl, caX12_isWrong⟩
theorem cv_X12_160 : ECV RX12 160 mX12_typeStatement 1 := ⟨eg 1204 (by decide +kernel) rfl, eg 1206 (by decide +kernel) rfl, eg 45 (by decide +kernel) rfl, caX12_typeStatement⟩
theorem cv_X12_163 : ECV RX12 163 mX12_standsFor 2 := ⟨eg 1208 (by decide +kernel) rfl, eg 1210 (by decide +kernel) rfl, eg 46 (by decide +kernel) rfl, caX12_standsFor⟩
theorem cv_X12_166 : ECV RX12 166 mX12_shared 2 := ⟨eg 1196 (by decide +kernel) rfl, eg 1198 (by decide +kernel) rfl, eg 43 (by decide +kernel) rfl, caX12_shared⟩
theorem cv_X12_169 : ECV RX12 169 mX12_isAbout 3 := ⟨eg 1200 (by decide +kernel) rfl, eg 1202 (by decide +kernel) rfl, eg 44 (by decide +kernel) rfl, caX12_isAbout⟩
theorem gf_X12_51 : EGF RX12 51 8 20 := ⟨RX12, TX12, 32, rfl, innX12, by decide, eg 1007 (by decide +kernel) rfl⟩
theorem gf_X12_48 : EGF RX12 48 8 19 := ⟨RX12, TX12, 32, rfl, innX12, by decide, eg 1006 (by decide +kernel) rfl⟩
theorem pf_X12_172 : EPF RX12 172 8 12 (.int) false := ⟨RX12, TX12, 32, tyX12, rfl, innX12, by decide, eg 999 (by decide +kernel) rfl, tyX12_ok, nmX12, rfl, rfl, fun _ => rfl⟩
theorem pf_X12_175 : EPF RX12 175 8 13 (.int) false := ⟨RX12, TX12, 32, tyX12, rfl, innX12, by decide, eg 1000 (by decide +kernel) rfl, tyX12_ok, nmX12, rfl, rfl, fun _ => rfl⟩
theorem gf_X12_39 : EGF RX12 39 8 16 := ⟨RX12, TX12, 32, rfl, innX12, by decide, eg 1003 (by decide +kernel) rfl⟩
theorem gf_X12_42 : EGF RX12 42 8 17 := ⟨RX12, TX12, 32, rfl, innX12, by decide, eg 1004 (by decide +kernel) rfl⟩
theorem gf_X12_45 : EGF RX12 45 8 18 := ⟨RX12, TX12, 32, rfl, innX12, by decide, eg 1005 (by decide +kernel) rfl⟩
theorem gf_X12_172 : EGF RX12 172 8 12 := ⟨RX12, TX12, 32, rfl, innX12, by decide, eg 999 (by decide +kernel) rfl⟩
theorem gf_X12_36 : EGF RX12 36 8 15 := ⟨RX12, TX12, 32, rfl, innX12, by decide, eg 1002 (by decide +kernel) rfl⟩
theorem gf_X12_175 : EGF RX12 175 8 13 := ⟨RX12, TX12, 32, rfl, innX12, by decide, eg 1000 (by decide +kernel) rfl⟩
theorem gf_X12_33 : EGF RX12 33 8 14 := ⟨RX12, TX12, 32, rfl, innX12, by decide, eg 1001 (by decide +kernel) rfl⟩
theorem cv_X12_178 : ECV RX12 178 mX12_classNumber 1 := ⟨eg 1220 (by decide +kernel) rfl, eg 1222 (by decide +kernel) rfl, eg 49 (by decide +kernel) rfl, caX12_classNumber⟩
theorem cv_X12_181 : ECV RX12 181 mX12_maskOf 3 := ⟨eg 1224 (by decide +kernel) rfl, eg 1226 (by decide +kernel) rfl, eg 50 (by decide +kernel) rfl, caX12_maskOf⟩
theorem cv_X12_184 : ECV RX12 184 mX12_typeNumber 1 := ⟨eg 1228 (by decide +kernel) rfl, eg 1230 (by decide +kernel) rfl, eg 51 (by decide +kernel) rfl, caX12_typeNumber⟩
theorem cv_X12_187 : ECV RX12 187 mX12_firstWrong 0 := ⟨eg 1145 (by decide +kernel) rfl, eg 1147 (by decide +kernel) rfl, eg 31 (by decide +kernel) rfl, caX12_firstWrong⟩
theorem cv_X12_190 : ECV RX12 190 mX12_firstAgainst 0 := ⟨eg 1192 (by decide +kernel) rfl, eg 1194 (by decide +kernel) rfl, eg 42 (by decide +kernel) rfl, caX12_firstAgainst⟩
theorem cv_X12_193 : ECV RX12 193 mX12_begin 0 := ⟨eg 1212 (by decide +kernel) rfl, eg 1214 (by decide +kernel) rfl, eg 47 (by decide +kernel) rfl, caX12_begin⟩
theorem cv_X12_196 : ECV RX12 196 mX12_put 1 := ⟨eg 1216 (by decide +kernel) rfl, eg 1218 (by decide +kernel) rfl, eg 48 (by decide +kernel) rfl, caX12_put⟩
theorem pf_X12_200 : EPF RX12 200 8 21 (.int) false := ⟨RX12, TX12, 32, tyX12, rfl, innX12, by decide, eg 1008 (by decide +kernel) rfl, tyX12_ok, nmX12, rfl, rfl, fun _ => rfl⟩
theorem gf_X12_30 : EGF RX12 30 8 11 := ⟨RX12, TX12, 32, rfl, innX12, by decide, eg 998 (by decide +kernel) rfl⟩
theorem cv_X12_203 : ECV RX12 203 mX12_isThere 3 := ⟨eg 1240 (by decide +kernel) rfl, eg 1242 (by decide +kernel) rfl, eg 52 (by decide +kernel) rfl, caX12_isThere⟩
theorem gf_X12_200 : EGF RX12 200 8 21 := ⟨RX12, TX12, 32, rfl, innX12, by decide, eg 1008 (by decide +kernel) rfl⟩
theorem gf_X12_54 : EGF RX12 54 8 22 := ⟨RX12, TX12, 32, rfl, innX12, by decide, eg 1009 (by decide +kernel) rfl⟩
theorem cv_X12_206 : ECV RX12 206 mX12_worked 3 := ⟨eg 1244 (by decide +kernel) rfl, eg 1246 (by decide +kernel) rfl, eg 53 (by decide +kernel) rfl, caX12_worked⟩
theorem gf_X12_209 : EGF RX12 209 8 24 := ⟨RX12, TX12, 32, rfl, innX12, by decide, eg 1011 (by decide +kernel) rfl⟩
theorem pf_X12_209 : EPF RX12 209 8 24 (.int) false := ⟨RX12, TX12, 32, tyX12, rfl, innX12, by decide, eg 1011 (by decide +kernel) rfl, tyX12_ok, nmX12, rfl, rfl, fun _ => rfl⟩
theorem gf_X12_57 : EGF RX12 57 8 23 := ⟨RX12, TX12, 32, rfl, innX12, by decide, eg 1010 (by decide +kernel) rfl⟩
theorem gf_X12_212 : EGF RX12 212 8 25 := ⟨RX12, TX12, 32, rfl, innX12, by decide, eg 1012 (by decide +kernel) rfl⟩
theorem pf_X12_212 : EPF RX12 212 8 25 (.int) false := ⟨RX12, TX12, 32, tyX12, rfl, innX12, by decide, eg 1012 (by decide +kernel) rfl, tyX12_ok, nmX12, rfl, rfl, fun _ => rfl⟩
theorem gf_X12_73 : EGF RX12 73 8 0 := ⟨RX12, TX12, 32, rfl, innX12, by decide, eg 987 (by decide +kernel) rfl⟩
theorem gf_X12_66 : EGF RX12 66 8 30 := ⟨RX12, TX12, 32, rfl, innX12, by decide, eg 1017 (by decide +kernel) rfl⟩
theorem gf_X12_70 : EGF RX12 70 8 31 := ⟨RX12, TX12, 32, rfl, innX12, by decide, eg 1018 (by decide +kernel) rfl⟩
theorem cv_X12_215 : ECV RX12 215 mX12_flows 2 := ⟨eg 1256 (by decide +kernel) rfl, eg 1258 (by decide +kernel) rfl, eg 54 (by decide +kernel) rfl, caX12_flows⟩
theorem gf_X12_60 : EGF RX12 60 8 27 := ⟨RX12, TX12, 32, rfl, innX12, by decide, eg 1014 (by decide +kernel) rfl⟩
theorem gf_X12_218 : EGF RX12 218 8 26 := ⟨RX12, TX12, 32, rfl, innX12, by decide, eg 1013 (by decide +kernel) rfl⟩
theorem pf_X12_218 : EPF RX12 218 8 26 (.int) false := ⟨RX12, TX12, 32, tyX12, rfl, innX12, by decide, eg 1013 (by decide +kernel) rfl, tyX12_ok, nmX12, rfl, rfl, fun _ => rfl⟩
theorem cv_X12_221 : ECV RX12 221 mX12_say 1 := ⟨eg 1268 (by decide +kernel) rfl, eg 1270 (by decide +kernel) rfl, eg 55 (by decide +kernel) rfl, caX12_say⟩
theorem gf_X12_224 : EGF RX12 224 8 28 := ⟨RX12, TX12, 32, rfl, innX12, by decide, eg 1015 (by decide +kernel) rfl⟩
theorem gf_X12_63 : EGF RX12 63 8 29 := ⟨RX12, TX12, 32, rfl, innX12, by decide, eg 1016 (by decide +kernel) rfl⟩
theorem pf_X12_224 : EPF RX12 224 8 28 (.int) false := ⟨RX12, TX12, 32, tyX12, rfl, innX12, by decide, eg 1015 (by decide +kernel) rfl, tyX12_ok, nmX12, rfl, rfl, fun _ => rfl⟩
theorem cs_X12_227 : ECS RX12 227 mX12_in 3 := ⟨eg 1288 (by decide +kernel) rfl, eg 1289 (by decide +kernel) rfl, caX12_in⟩
theorem cv_X12_230 : ECV RX12 230 mX12_wellFormed 0 := ⟨eg 1284 (by decide +kernel) rfl, eg 1286 (by decide +kernel) rfl, eg 56 (by decide +kernel) rfl, caX12_wellFormed⟩
theorem lc_J11_110 : Cond.constant RJ11 110 (55232) ∈ egood := eg 605 (by decide +kernel) rfl
theorem lc_J11_76 : Cond.constant RJ11 76 (56320) ∈ egood := eg 609 (by decide +kernel) rfl
theorem gc_Jx29ce0_7 : Cond.fieldLink RJx29ce0 7 "java/lang/Enum" "ordinal" "I" ∈ egood := eg 1301 (by decide +kernel) rfl
theorem gc_J0_9 : Cond.fieldLink RJ0 9 "java/lang/String" "value" "[B" ∈ egood := eg 1295 (by decide +kernel) rfl
theorem cv_J0_335 : ECV RJ0 335 mJ0_coder_7d493 0 := ⟨eg 463 (by decide +kernel) rfl, eg 464 (by decide +kernel) rfl, eg 465 (by decide +kernel) rfl, caJ0_coder_7d493⟩
theorem cv_J0_492 : ECV RJ0 492 mJ0_isLatin1_aae02 0 := ⟨eg 477 (by decide +kernel) rfl, eg 478 (by decide +kernel) rfl, eg 479 (by decide +kernel) rfl, caJ0_isLatin1_aae02⟩
theorem cs_J0_495 : ECS RJ0 495 mJ1_charAt_3b067 2 := ⟨eg 481 (by decide +kernel) rfl, eg 482 (by decide +kernel) rfl, caJ1_charAt_3b067⟩
theorem cs_J0_498 : ECS RJ0 498 mJ2_charAt_3b067 2 := ⟨eg 492 (by decide +kernel) rfl, eg 493 (by decide +kernel) rfl, caJ2_charAt_3b067⟩
theorem cv_J0_633 : ECV RJ0 633 mJ0_indexOf_7cf53 2 := ⟨eg 559 (by decide +kernel) rfl, eg 560 (by decide +kernel) rfl, eg 561 (by decide +kernel) rfl, caJ0_indexOf_7cf53⟩
theorem cv_J0_505 : ECV RJ0 505 mJ0_length_8abf5 0 := ⟨eg 563 (by decide +kernel) rfl, eg 460 (by decide +kernel) rfl, eg 461 (by decide +kernel) rfl, caJ0_length_8abf5⟩
theorem cs_J0_637 : ECS RJ0 637 mJ1_indexOf_4cfef 4 := ⟨eg 564 (by decide +kernel) rfl, eg 565 (by decide +kernel) rfl, caJ1_indexOf_4cfef⟩
theorem cs_J0_640 : ECS RJ0 640 mJ2_indexOf_4cfef 4 := ⟨eg 575 (by decide +kernel) rfl, eg 576 (by decide +kernel) rfl, caJ2_indexOf_4cfef⟩
theorem gz_J0_38 : Cond.fieldLink RJ0 38 "java/lang/String" "COMPACT_STRINGS" "Z" ∈ egood := eg 467 (by decide +kernel) rfl
theorem gc_J0_15 : Cond.fieldLink RJ0 15 "java/lang/String" "coder" "B" ∈ egood := eg 1296 (by decide +kernel) rfl
theorem gz_J0_1053 : Cond.fieldLink RJ0 1053 "jdk/internal/util/Preconditions" "SIOOBE_FORMATTER" "Ljava/util/function/BiFunction;" ∈ egood := eg 487 (by decide +kernel) rfl
theorem cs_J0_1059 : ECS RJ0 1059 mJ3_checkIndex_8e157 3 := ⟨eg 489 (by decide +kernel) rfl, eg 490 (by decide +kernel) rfl, caJ3_checkIndex_8e157⟩
theorem cs_J0_1062 : ECS RJ0 1062 mJ3_checkFromToIndex_8c36e 4 := ⟨eg 590 (by decide +kernel) rfl, eg 591 (by decide +kernel) rfl, caJ3_checkFromToIndex_8c36e⟩
theorem cs_J1_9 : ECS RJ1 9 mJ0_checkIndex_df160 2 := ⟨eg 484 (by decide +kernel) rfl, eg 485 (by decide +kernel) rfl, caJ0_checkIndex_df160⟩
theorem cs_J1_88 : ECS RJ1 88 mJ1_canEncode_9a6ad 1 := ⟨eg 567 (by decide +kernel) rfl, eg 568 (by decide +kernel) rfl, caJ1_canEncode_9a6ad⟩
theorem cs_J1_92 : ECS RJ1 92 mJ9_max_7cf53 2 := ⟨eg 570 (by decide +kernel) rfl, eg 161 (by decide +kernel) rfl, caJ9_max_7cf53⟩
theorem cs_J1_38 : ECS RJ1 38 mJ9_min_7cf53 2 := ⟨eg 571 (by decide +kernel) rfl, eg 158 (by decide +kernel) rfl, caJ9_min_7cf53⟩
theorem cs_J1_95 : ECS RJ1 95 mJ1_indexOfChar_4cfef 4 := ⟨eg 572 (by decide +kernel) rfl, eg 573 (by decide +kernel) rfl, caJ1_indexOfChar_4cfef⟩
theorem gz_J2_44 : Cond.fieldLink RJ2 44 "java/lang/StringUTF16" "$assertionsDisabled" "Z" ∈ egood := eg 505 (by decide +kernel) rfl
theorem cs_J2_48 : ECS RJ2 48 mJ2_length_9d52b 1 := ⟨eg 498 (by decide +kernel) rfl, eg 499 (by decide +kernel) rfl, caJ2_length_9d52b⟩
theorem gz_J2_59 : Cond.fieldLink RJ2 59 "java/lang/StringUTF16" "HI_BYTE_SHIFT" "I" ∈ egood := eg 507 (by decide +kernel) rfl
theorem gz_J2_63 : Cond.fieldLink RJ2 63 "java/lang/StringUTF16" "LO_BYTE_SHIFT" "I" ∈ egood := eg 509 (by decide +kernel) rfl
theorem cs_J2_224 : ECS RJ2 224 mJ9_max_7cf53 2 := ⟨eg 578 (by decide +kernel) rfl, eg 161 (by decide +kernel) rfl, caJ9_max_7cf53⟩
theorem cs_J2_183 : ECS RJ2 183 mJ9_min_7cf53 2 := ⟨eg 579 (by decide +kernel) rfl, eg 158 (by decide +kernel) rfl, caJ9_min_7cf53⟩
theorem lc_J2_227 : Cond.constant RJ2 227 (65536) ∈ egood := eg 580 (by decide +kernel) rfl
theorem cs_J2_228 : ECS RJ2 228 mJ2_indexOfChar_4cfef 4 := ⟨eg 581 (by decide +kernel) rfl, eg 582 (by decide +kernel) rfl, caJ2_indexOfChar_4cfef⟩
theorem cs_J2_232 : ECS RJ2 232 mJ2_indexOfSupplementary_4cfef 4 := ⟨eg 596 (by decide +kernel) rfl, eg 597 (by decide +kernel) rfl, caJ2_indexOfSupplementary_4cfef⟩
theorem cs_J2_96 : ECS RJ2 96 mJ2_checkBoundsBeginEnd_d044e 3 := ⟨eg 584 (by decide +kernel) rfl, eg 585 (by decide +kernel) rfl, caJ2_checkBoundsBeginEnd_d044e⟩
theorem cs_J2_244 : ECS RJ2 244 mJ2_indexOfCharUnsafe_4cfef 4 := ⟨eg 593 (by decide +kernel) rfl, eg 594 (by decide +kernel) rfl, caJ2_indexOfCharUnsafe_4cfef⟩
theorem cs_J2_71 : ECS RJ2 71 mJ2_getChar_3b067 2 := ⟨eg 502 (by decide +kernel) rfl, eg 503 (by decide +kernel) rfl, caJ2_getChar_3b067⟩
theorem cs_J2_164 : ECS RJ2 164 mJ11_isValidCodePoint_9a6ad 1 := ⟨eg 599 (by decide +kernel) rfl, eg 600 (by decide +kernel) rfl, caJ11_isValidCodePoint_9a6ad⟩
theorem cs_J2_157 : ECS RJ2 157 mJ11_highSurrogate_5068e 1 := ⟨eg 602 (by decide +kernel) rfl, eg 603 (by decide +kernel) rfl, caJ11_highSurrogate_5068e⟩
theorem cs_J2_161 : ECS RJ2 161 mJ11_lowSurrogate_5068e 1 := ⟨eg 606 (by decide +kernel) rfl, eg 607 (by decide +kernel) rfl, caJ11_lowSurrogate_5068e⟩
theorem cs_J2_67 : ECS RJ2 67 mJ2_checkIndex_2214a 2 := ⟨eg 495 (by decide +kernel) rfl, eg 496 (by decide +kernel) rfl, caJ2_checkIndex_2214a⟩
theorem cs_J2_414 : ECS RJ2 414 mJ0_checkIndex_df160 2 := ⟨eg 501 (by decide +kernel) rfl, eg 485 (by decide +kernel) rfl, caJ0_checkIndex_df160⟩
theorem cs_J2_241 : ECS RJ2 241 mJ0_checkBoundsBeginEnd_23922 3 := ⟨eg 587 (by decide +kernel) rfl, eg 588 (by decide +kernel) rfl, caJ0_checkBoundsBeginEnd_23922⟩
theorem cv_L_7 : ECV RL 7 mX11_add 0 := ⟨eg 437 (by decide +kernel) rfl, eg 438 (by decide +kernel) rfl, eg 439 (by decide +kernel) rfl, caX11_add⟩
theorem cv_L_17 : ECV RL 17 mX11_accept 0 := ⟨eg 722 (by decide +kernel) rfl, eg 723 (by decide +kernel) rfl, eg 724 (by decide +kernel) rfl, caX11_accept⟩
theorem cv_L_20 : ECV RL 20 mX11_may 3 := ⟨eg 904 (by decide +kernel) rfl, eg 905 (by decide +kernel) rfl, eg 906 (by decide +kernel) rfl, caX11_may⟩
theorem cv_L_26 : ECV RL 26 mX11_read 0 := ⟨eg 946 (by decide +kernel) rfl, eg 947 (by decide +kernel) rfl, eg 948 (by decide +kernel) rfl, caX11_read⟩
theorem ac_int : Cond.arrayClass .int ∈ egood := eg 106 (by decide +kernel) rfl
theorem ac_long : Cond.arrayClass .long ∈ egood := eg 1292 (by decide +kernel) rfl
theorem ac_char : Cond.arrayClass .char ∈ egood := eg 1084 (by decide +kernel) rfl
theorem ac_boolean : Cond.arrayClass .boolean ∈ egood := eg 1085 (by decide +kernel) rfl
theorem ob_i : Cond.instanceMethod objectInit ∈ egood := eg 91 (by decide +kernel) rfl
theorem ob_c : Cond.code objectInit ⟨#[0xb1]⟩ 1 none ∈ egood := eg 92 (by decide +kernel) rfl
end
section
/-! THE LOGIC, 4: the same rules where ints are numbers (nI), truth values (b2i), numbers or NONE (oI) -/
def b2i (b : Bool) : Int32 := nI b.toNat
def oI (o : Option Nat) : Int32 := match o with
  | none => -1
  | some j => nI j
theorem b2i_t : b2i true = nI 1 := rfl
theorem b2i_f : b2i false = nI 0 := rfl
theorem b2i_eq0 {b : Bool} : b2i b = 0 ↔ b = false := by cases b <;> decide
theorem b2i_nb (b : Bool) : narrow .boolean (.int (b2i b)) = .int (b2i b) := by cases b <;> rfl
theorem nI_ne_m1 {a : Nat} (h : a < 2 ^ 31) : nI a ≠ -1 := by
  intro q
  have h1 := nI_toInt h
  rw [q] at h1
  have : ((-1 : Int32)).toInt = -1 := by decide
  omega
theorem oI_m1 {o : Option Nat} (h : ∀ j, o = some j → j < 2 ^ 31) : oI o = -1 ↔ o = none := by
  cases o with
  | none => exact ⟨fun _ => rfl, fun _ => rfl⟩
  | some j => exact ⟨fun q => absurd q (nI_ne_m1 (h j rfl)), fun q => by cases q⟩
theorem hup_eq {h : EH} {a : Nat} {e : va_E} : (hup h a e).2 a = some e := if_pos rfl
theorem hup_ne {h : EH} {a b : Nat} {e : va_E} {x : Option va_E} (hn : b ≠ a) (hb : h.2 b = x) : (hup h a e).2 b = x := (if_neg hn).trans hb
theorem hnew_eq {h : EH} {e : va_E} : (hnew h e).2 h.1 = some e := if_pos rfl
theorem hnew_ne {h : EH} {b : Nat} {e : va_E} {x : Option va_E} (hn : b ≠ h.1) (hb : h.2 b = x) : (hnew h e).2 b = x := (if_neg hn).trans hb
theorem hup_hup (h : EH) (a : Nat) (e e' : va_E) : hup (hup h a e) a e' = hup h a e' := by
  refine Prod.ext rfl (funext fun b => ?_)
  show (if b = a then some e' else if b = a then some e else h.2 b) = if b = a then some e' else h.2 b
  by_cases hb : b = a <;> simp [hb]
theorem hup_comm (h : EH) {a b : Nat} (e e' : va_E) (hn : a ≠ b) : hup (hup h a e) b e' = hup (hup h b e') a e := by
  refine Prod.ext rfl (funext fun c => ?_)
  show (if c = b then some e' else if c = a then some e else h.2 c) = if c = a then some e else if c = b then some e' else h.2 c
  by_cases h1 : c = b
  · by_cases h2 : c = a
    · exact absurd (h2.symm.trans h1) hn
    · subst h1; rw [if_pos rfl, if_neg h2, if_pos rfl]
  · rw [if_neg h1, if_neg h1]
theorem hup_id {h : EH} {a : Nat} {e : va_E} (ha : h.2 a = some e) : hup h a e = h := by
  refine Prod.ext rfl (funext fun b => ?_)
  show (if b = a then some e else h.2 b) = h.2 b
  by_cases hb : b = a
  · rw [if_pos hb, hb, ha]
  · rw [if_neg hb]
theorem upd_same (f : Nat → Int32) (j : Nat) : upd f j (f j) = f := funext fun i => by unfold upd; by_cases h : i = j <;> simp [h]
section EXN
variable {G : EG} {l : Launch} {d : Nat} {M : EM} {Q : Option Value → EH → Prop} {X : String → EH → Prop} {k n pc : Nat} {lv : List (Nat × Value)} {rest st : List Value} {h : EH}
theorem ex_iaddN {a b : Nat} (hd : decode (eC M) pc = .ok (.iadd, 1)) (kk : Ex G l d M Q X k n (pc + 1) lv (.int (nI (a + b)) :: rest) h) : Ex G l d M Q X k n pc lv (.int (nI b) :: .int (nI a) :: rest) h := ex_iadd hd (by rw [nI_add]; exact kk)
theorem ex_imulN {a b : Nat} (hd : decode (eC M) pc = .ok (.imul, 1)) (kk : Ex G l d M Q X k n (pc + 1) lv (.int (nI (a * b)) :: rest) h) : Ex G l d M Q X k n pc lv (.int (nI b) :: .int (nI a) :: rest) h := ex_imul hd (by rw [pk_mul]; exact kk)
theorem ex_isubN {a b : Nat} (hle : b ≤ a) (hd : decode (eC M) pc = .ok (.isub, 1)) (kk : Ex G l d M Q X k n (pc + 1) lv (.int (nI (a - b)) :: rest) h) : Ex G l d M Q X k n pc lv (.int (nI b) :: .int (nI a) :: rest) h := ex_isub hd (by rw [pk_sub hle]; exact kk)
theorem ex_idivN {a b : Nat} (ha : a < 2 ^ 31) (h0 : 0 < b) (hb : b < 2 ^ 31) (hd : decode (eC M) pc = .ok (.idiv, 1)) (kk : Ex G l d M Q X k n (pc + 1) lv (.int (nI (a / b)) :: rest) h) : Ex G l d M Q X k n pc lv (.int (nI b) :: .int (nI a) :: rest) h := ex_idiv (nI_ne0 h0 hb) hd (by rw [pk_div ha h0 hb]; exact kk)
theorem ex_iremN {a b : Nat} (ha : a < 2 ^ 31) (h0 : 0 < b) (hb : b < 2 ^ 31) (hd : decode (eC M) pc = .ok (.irem, 1)) (kk : Ex G l d M Q X k n (pc + 1) lv (.int (nI (a % b)) :: rest) h) : Ex G l d M Q X k n pc lv (.int (nI b) :: .int (nI a) :: rest) h := ex_irem (nI_ne0 h0 hb) hd (by rw [pk_rem ha h0 hb]; exact kk)
theorem ofInt_nat (z : Nat) : Int32.ofInt (z : Int) = nI z := rfl
theorem ex_iincN {i z a : Nat} (hl : lget lv i = some (.int (nI a))) (hi : i < eL M) (hf : lfree lv i = true) (hd : decode (eC M) pc = .ok (.iinc i (z : Int), 3)) (kk : Ex G l d M Q X k n (pc + 3) (lset lv i (.int (nI (a + z)))) st h) : Ex G l d M Q X k n pc lv st h := ex_iinc hl (by rw [ofInt_nat, nI_add]) hi hf hd kk
theorem ex_icmpN_eq {a b : Nat} {off : Int} {tgt : Nat} (ht : (pc : Int) + off = (tgt : Int)) (hd : decode (eC M) pc = .ok (.if_icmp .eq off, 3)) (ha : a < 2 ^ 31) (hb : b < 2 ^ 31) (kt : a = b → Ex G l d M Q X k n tgt lv rest h) (kf : a ≠ b → Ex G l d M Q X k n (pc + 3) lv rest h) : Ex G l d M Q X k n pc lv (.int (nI b) :: .int (nI a) :: rest) h := ex_icmp_eq ht hd (fun q => kt ((nI_eq ha hb).mp q)) (fun q => kf (fun z => q ((nI_eq ha hb).mpr z)))
theorem ex_icmpN_ne {a b : Nat} {off : Int} {tgt : Nat} (ht : (pc : Int) + off = (tgt : Int)) (hd : decode (eC M) pc = .ok (.if_icmp .ne off, 3)) (ha : a < 2 ^ 31) (hb : b < 2 ^ 31) (kt : a ≠ b → Ex G l d M Q X k n tgt lv rest h) (kf : a = b → Ex G l d M Q X k n (pc + 3) lv rest h) : Ex G l d M Q X k n pc lv (.int (nI b) :: .int (nI a) :: rest) h := ex_icmp_ne ht hd (fun q => kt (fun z => q ((nI_eq ha hb).mpr z))) (fun q => kf ((nI_eq ha hb).mp q))
theorem ex_icmpN_lt {a b : Nat} {off : Int} {tgt : Nat} (ht : (pc : Int) + off = (tgt : Int)) (hd : decode (eC M) pc = .ok (.if_icmp .lt off, 3)) (ha : a < 2 ^ 31) (hb : b < 2 ^ 31) (kt : a < b → Ex G l d M Q X k n tgt lv rest h) (kf : b ≤ a → Ex G l d M Q X k n (pc + 3) lv rest h) : Ex G l d M Q X k n pc lv (.int (nI b) :: .int (nI a) :: rest) h := ex_icmp_lt ht hd (fun q => kt ((nI_ltI ha hb).mp q)) (fun q => kf (Nat.not_lt.mp (fun z => q ((nI_ltI ha hb).mpr z))))
theorem ex_icmpN_ge {a b : Nat} {off : Int} {tgt : Nat} (ht : (pc : Int) + off = (tgt : Int)) (hd : decode (eC M) pc = .ok (.if_icmp .ge off, 3)) (ha : a < 2 ^ 31) (hb : b < 2 ^ 31) (kt : b ≤ a → Ex G l d M Q X k n tgt lv rest h) (kf : a < b → Ex G l d M Q X k n (pc + 3) lv rest h) : Ex G l d M Q X k n pc lv (.int (nI b) :: .int (nI a) :: rest) h := ex_icmp_ge ht hd (fun q => kt ((nI_leI hb ha).mp q)) (fun q => kf (Nat.not_le.mp (fun z => q ((nI_leI hb ha).mpr z))))
theorem ex_icmpN_gt {a b : Nat} {off : Int} {tgt : Nat} (ht : (pc : Int) + off = (tgt : Int)) (hd : decode (eC M) pc = .ok (.if_icmp .gt off, 3)) (ha : a < 2 ^ 31) (hb : b < 2 ^ 31) (kt : b < a → Ex G l d M Q X k n tgt lv rest h) (kf : a ≤ b → Ex G l d M Q X k n (pc + 3) lv rest h) : Ex G l d M Q X k n pc lv (.int (nI b) :: .int (nI a) :: rest) h := ex_icmp_gt ht hd (fun q => kt ((nI_ltI hb ha).mp q)) (fun q => kf (Nat.not_lt.mp (fun z => q ((nI_ltI hb ha).mpr z))))
theorem ex_icmpN_le {a b : Nat} {off : Int} {tgt : Nat} (ht : (pc : Int) + off = (tgt : Int)) (hd : decode (eC M) pc = .ok (.if_icmp .le off, 3)) (ha : a < 2 ^ 31) (hb : b < 2 ^ 31) (kt : a ≤ b → Ex G l d M Q X k n tgt lv rest h) (kf : b < a → Ex G l d M Q X k n (pc + 3) lv rest h) : Ex G l d M Q X k n pc lv (.int (nI b) :: .int (nI a) :: rest) h := ex_icmp_le ht hd (fun q => kt ((nI_leI ha hb).mp q)) (fun q => kf (Nat.not_le.mp (fun z => q ((nI_leI ha hb).mpr z))))
theorem ex_ifN_eq {a : Nat} {off : Int} {tgt : Nat} (ht : (pc : Int) + off = (tgt : Int)) (hd : decode (eC M) pc = .ok (.ifCond .eq off, 3)) (ha : a < 2 ^ 31) (kt : a = 0 → Ex G l d M Q X k n tgt lv rest h) (kf : a ≠ 0 → Ex G l d M Q X k n (pc + 3) lv rest h) : Ex G l d M Q X k n pc lv (.int (nI a) :: rest) h := ex_if_eq ht hd (fun q => kt ((nI_eq ha (by decide : 0 < 2 ^ 31)).mp q)) (fun q => kf (fun z => q ((nI_eq ha (by decide : 0 < 2 ^ 31)).mpr z)))
theorem ex_ifN_ne {a : Nat} {off : Int} {tgt : Nat} (ht : (pc : Int) + off = (tgt : Int)) (hd : decode (eC M) pc = .ok (.ifCond .ne off, 3)) (ha : a < 2 ^ 31) (kt : a ≠ 0 → Ex G l d M Q X k n tgt lv rest h) (kf : a = 0 → Ex G l d M Q X k n (pc + 3) lv rest h) : Ex G l d M Q X k n pc lv (.int (nI a) :: rest) h := ex_if_ne ht hd (fun q => kt (fun z => q ((nI_eq ha (by decide : 0 < 2 ^ 31)).mpr z))) (fun q => kf ((nI_eq ha (by decide : 0 < 2 ^ 31)).mp q))
theorem ex_ifN_lt {a : Nat} {off : Int} {tgt : Nat} (ht : (pc : Int) + off = (tgt : Int)) (hd : decode (eC M) pc = .ok (.ifCond .lt off, 3)) (ha : a < 2 ^ 31) (kt : False → Ex G l d M Q X k n tgt lv rest h) (kf : True → Ex G l d M Q X k n (pc + 3) lv rest h) : Ex G l d M Q X k n pc lv (.int (nI a) :: rest) h := ex_if_lt ht hd (fun q => kt (nI_pos ha q)) (fun q => kf trivial)
theorem ex_ifN_ge {a : Nat} {off : Int} {tgt : Nat} (ht : (pc : Int) + off = (tgt : Int)) (hd : decode (eC M) pc = .ok (.ifCond .ge off, 3)) (ha : a < 2 ^ 31) (kt : True → Ex G l d M Q X k n tgt lv rest h) (kf : False → Ex G l d M Q X k n (pc + 3) lv rest h) : Ex G l d M Q X k n pc lv (.int (nI a) :: rest) h := ex_if_ge ht hd (fun q => kt trivial) (fun q => kf (q (nI_pos' ha)))
theorem ex_ifN_gt {a : Nat} {off : Int} {tgt : Nat} (ht : (pc : Int) + off = (tgt : Int)) (hd : decode (eC M) pc = .ok (.ifCond .gt off, 3)) (ha : a < 2 ^ 31) (kt : 0 < a → Ex G l d M Q X k n tgt lv rest h) (kf : a = 0 → Ex G l d M Q X k n (pc + 3) lv rest h) : Ex G l d M Q X k n pc lv (.int (nI a) :: rest) h := ex_if_gt ht hd (fun q => kt ((nI_ltI (by decide : 0 < 2 ^ 31) ha).mp q)) (fun q => kf (Nat.eq_zero_of_not_pos (fun z => q ((nI_ltI (by decide : 0 < 2 ^ 31) ha).mpr z))))
theorem ex_ifN_le {a : Nat} {off : Int} {tgt : Nat} (ht : (pc : Int) + off = (tgt : Int)) (hd : decode (eC M) pc = .ok (.ifCond .le off, 3)) (ha : a < 2 ^ 31) (kt : a = 0 → Ex G l d M Q X k n tgt lv rest h) (kf : 0 < a → Ex G l d M Q X k n (pc + 3) lv rest h) : Ex G l d M Q X k n pc lv (.int (nI a) :: rest) h := ex_if_le ht hd (fun q => kt (Nat.le_zero.mp ((nI_leI ha (by decide : 0 < 2 ^ 31)).mp q))) (fun q => kf (Nat.pos_of_ne_zero (fun z => q ((nI_leI ha (by decide : 0 < 2 ^ 31)).mpr (Nat.le_zero.mpr z)))))
theorem ex_ifB_eq {b : Bool} {off : Int} {tgt : Nat} (ht : (pc : Int) + off = (tgt : Int)) (hd : decode (eC M) pc = .ok (.ifCond .eq off, 3)) (kt : b = false → Ex G l d M Q X k n tgt lv rest h) (kf : b = true → Ex G l d M Q X k n (pc + 3) lv rest h) : Ex G l d M Q X k n pc lv (.int (b2i b) :: rest) h := ex_if_eq ht hd (fun q => kt (b2i_eq0.mp q)) (fun q => kf (by cases b with | true => rfl | false => exact absurd (b2i_eq0.mpr rfl) q))
theorem ex_ifB_ne {b : Bool} {off : Int} {tgt : Nat} (ht : (pc : Int) + off = (tgt : Int)) (hd : decode (eC M) pc = .ok (.ifCond .ne off, 3)) (kt : b = true → Ex G l d M Q X k n tgt lv rest h) (kf : b = false → Ex G l d M Q X k n (pc + 3) lv rest h) : Ex G l d M Q X k n pc lv (.int (b2i b) :: rest) h := ex_if_ne ht hd (fun q => kt (by cases b with | true => rfl | false => exact absurd (b2i_eq0.mpr rfl) q)) (fun q => kf (b2i_eq0.mp q))
theorem ex_icmpO_eq {o : Option Nat} {off : Int} {tgt : Nat} (ht : (pc : Int) + off = (tgt : Int)) (hd : decode (eC M) pc = .ok (.if_icmp .eq off, 3)) (ho : ∀ j, o = some j → j < 2 ^ 31) (kt : o = none → Ex G l d M Q X k n tgt lv rest h) (kf : ∀ j, o = some j → Ex G l d M Q X k n (pc + 3) lv rest h) : Ex G l d M Q X k n pc lv (.int (-1) :: .int (oI o) :: rest) h := ex_icmp_eq ht hd (fun q => kt ((oI_m1 ho).mp q)) (fun q => by
  cases o with
  | none => exact absurd rfl q
  | some j => exact kf j rfl)
theorem ex_icmpO_ne {o : Option Nat} {off : Int} {tgt : Nat} (ht : (pc : Int) + off = (tgt : Int)) (hd : decode (eC M) pc = .ok (.if_icmp .ne off, 3)) (ho : ∀ j, o = some j → j < 2 ^ 31) (kt : ∀ j, o = some j → Ex G l d M Q X k n tgt lv rest h) (kf : o = none → Ex G l d M Q X k n (pc + 3) lv rest h) : Ex G l d M Q X k n pc lv (.int (-1) :: .int (oI o) :: rest) h := ex_icmp_ne ht hd (fun q => by
  cases o with
  | none => exact absurd rfl q
  | some j => exact kt j rfl) (fun q => kf ((oI_m1 ho).mp q))
theorem ex_ialdN {a N j : Nat} {f : Nat → Int32} (hd : decode (eC M) pc = .ok (.iaload, 1)) (hh : h.2 a = some (.inl (eA G 0, N, .inl f))) (hj : j < N) (hN : N < 2 ^ 31) (kk : Ex G l d M Q X k n (pc + 1) lv (.int (f j) :: rest) h) : Ex G l d M Q X k n pc lv (.int (nI j) :: .ref a :: rest) h := ex_iald hd hh (vp_in_nI hj hN) (by rw [nI_clamp (Nat.lt_trans hj hN)]; exact kk)
theorem ex_caldN {a N j : Nat} {f : Nat → Int32} (hd : decode (eC M) pc = .ok (.caload, 1)) (hh : h.2 a = some (.inl (eA G 2, N, .inl f))) (hj : j < N) (hN : N < 2 ^ 31) (kk : Ex G l d M Q X k n (pc + 1) lv (.int (f j) :: rest) h) : Ex G l d M Q X k n pc lv (.int (nI j) :: .ref a :: rest) h := ex_cald hd hh (vp_in_nI hj hN) (by rw [nI_clamp (Nat.lt_trans hj hN)]; exact kk)
theorem ex_zaldN {a N j : Nat} {f : Nat → Int32} (hd : decode (eC M) pc = .ok (.baload, 1)) (hh : h.2 a = some (.inl (eA G 3, N, .inl f))) (hj : j < N) (hN : N < 2 ^ 31) (kk : Ex G l d M Q X k n (pc + 1) lv (.int (f j) :: rest) h) : Ex G l d M Q X k n pc lv (.int (nI j) :: .ref a :: rest) h := ex_zald hd hh (vp_in_nI hj hN) (by rw [nI_clamp (Nat.lt_trans hj hN)]; exact kk)
theorem ex_aldqN {a N j r : Nat} {f : Nat → Option Nat} (hd : decode (eC M) pc = .ok (.aaload, 1)) (hh : h.2 a = some (.inl (eA G 4, N, .inr (.inr (.inr (.inr f)))))) (hj : j < N) (hN : N < 2 ^ 31) (hr : f j = some r) (kk : Ex G l d M Q X k n (pc + 1) lv (.ref r :: rest) h) : Ex G l d M Q X k n pc lv (.int (nI j) :: .ref a :: rest) h := ex_aldq hd hh (vp_in_nI hj hN) (by rw [nI_clamp (Nat.lt_trans hj hN), hr]; exact kk)
theorem ex_astqN {a N j v : Nat} {f : Nat → Option Nat} {vs : List Value} (hd : decode (eC M) pc = .ok (.aastore, 1)) (hh : h.2 a = some (.inl (eA G 4, N, .inr (.inr (.inr (.inr f)))))) (hj : j < N) (hN : N < 2 ^ 31) (hv : h.2 v = some (.inr (5, vs))) (kk : Ex G l d M Q X k n (pc + 1) lv rest (hup h a (.inl (eA G 4, N, .inr (.inr (.inr (.inr (va_up f j (some v))))))))) : Ex G l d M Q X k n pc lv (.ref v :: .int (nI j) :: .ref a :: rest) h := ex_astq hd hh (vp_in_nI hj hN) hv (by rw [nI_clamp (Nat.lt_trans hj hN)]; exact kk)
theorem ex_iastN {a N j : Nat} {f : Nat → Int32} {x : Int32} (hd : decode (eC M) pc = .ok (.iastore, 1)) (hh : h.2 a = some (.inl (eA G 0, N, .inl f))) (hj : j < N) (hN : N < 2 ^ 31) (kk : Ex G l d M Q X k n (pc + 1) lv rest (hup h a (.inl (eA G 0, N, .inl (upd f j x))))) : Ex G l d M Q X k n pc lv (.int x :: .int (nI j) :: .ref a :: rest) h := ex_iast hd hh (vp_in_nI hj hN) (by rw [nI_clamp (Nat.lt_trans hj hN)]; exact kk)
theorem ex_castN {a N j c : Nat} {f : Nat → Int32} (hd : decode (eC M) pc = .ok (.castore, 1)) (hh : h.2 a = some (.inl (eA G 2, N, .inl f))) (hj : j < N) (hN : N < 2 ^ 31) (hc : c < 65536) (kk : Ex G l d M Q X k n (pc + 1) lv rest (hup h a (.inl (eA G 2, N, .inl (upd f j (nI c)))))) : Ex G l d M Q X k n pc lv (.int (nI c) :: .int (nI j) :: .ref a :: rest) h := ex_cast hd hh (vp_in_nI hj hN) (by rw [nI_clamp (Nat.lt_trans hj hN), show vp_nar .char (nI c) = nI c from Value.int.inj (pk_charN hc).1]; exact kk)
theorem ex_zastN {a N j : Nat} {f : Nat → Int32} {b : Bool} (hd : decode (eC M) pc = .ok (.bastore, 1)) (hh : h.2 a = some (.inl (eA G 3, N, .inl f))) (hj : j < N) (hN : N < 2 ^ 31) (kk : Ex G l d M Q X k n (pc + 1) lv rest (hup h a (.inl (eA G 3, N, .inl (upd f j (b2i b)))))) : Ex G l d M Q X k n pc lv (.int (b2i b) :: .int (nI j) :: .ref a :: rest) h := ex_zast hd hh (vp_in_nI hj hN) (by rw [nI_clamp (Nat.lt_trans hj hN), show vp_nar .boolean (b2i b) = b2i b from Value.int.inj (b2i_nb b)]; exact kk)
end EXN
end
section
/-! NUMBERS: bits of longs (uN and its rows are pasted from the kit's BITS.to-paste), frames of heaps -/
def uN (x : Int64) : Nat := x.toUInt64.toNat
theorem uN_lt (x : Int64) : uN x < 18446744073709551616 := x.toUInt64.toNat_lt
theorem uN_inj {x y : Int64} (h : uN x = uN y) : x = y := congrArg UInt64.toInt64 (UInt64.toNat_inj.mp h)
theorem uN_shr (x : Int64) (s : UInt64) : uN (x.toUInt64 >>> s).toInt64 = uN x / 2 ^ (s.toNat % 64) := by
  show (x.toUInt64 >>> s).toNat = _
  rw [UInt64.toNat_shiftRight, Nat.shiftRight_eq_div_pow]
  rfl
theorem uN_sk (x : Int64) {k : Nat} (hk : k < 64) : uN (x.toUInt64 >>> ((nI k).toInt64.toUInt64 &&& Int64.toUInt64 63)).toInt64 = uN x / 2 ^ k := by
  have h : ((nI k).toInt64.toUInt64 &&& Int64.toUInt64 63).toNat % 64 = k := by
    rw [nI_l (by omega), UInt64.toNat_and]
    have e : (lN k).toUInt64.toNat = k % 2 ^ 64 := rfl
    have e2 : (Int64.toUInt64 63).toNat = 2 ^ 6 - 1 := by decide
    rw [e, e2, Nat.and_two_pow_sub_one_eq_mod]
    omega
  rw [uN_shr, h]
/-- byte k of w, 0 being the highest -/
def byt (w : Int64) (k : Nat) : Nat := uN w / 2 ^ (56 - 8 * k) % 256
theorem byt_lt (w : Int64) (k : Nat) : byt w k < 256 := Nat.mod_lt _ (by decide)
theorem and255 (x : Int32) : x &&& nI 255 = nI (x.toBitVec.toNat % 256) := pk_and x 8 (by decide)
theorem l2i_nat (y : Int64) : y.toInt32.toBitVec.toNat = uN y % 4294967296 := by
  show (y.toBitVec.signExtend 32).toNat = _
  rw [BitVec.signExtend_eq_setWidth_of_le _ (by decide), BitVec.toNat_setWidth]
  rfl
theorem byt_class (w : Int64) {s : Nat} (hs : s < 64) : ((w.toUInt64 >>> ((nI s).toInt64.toUInt64 &&& Int64.toUInt64 63)).toInt64).toInt32 &&& nI 255 = nI (uN w / 2 ^ s % 256) := by
  rw [and255, l2i_nat, uN_sk w hs]
  congr 1
  omega
def Fr (P : Nat → Prop) (h h' : EH) : Prop := h'.1 = h.1 ∧ ∀ q, ¬ P q → h'.2 q = h.2 q
theorem Fr.rf {P : Nat → Prop} {h : EH} : Fr P h h := ⟨rfl, fun _ _ => rfl⟩
theorem Fr.tr {P : Nat → Prop} {h h' h'' : EH} (a : Fr P h h') (b : Fr P h' h'') : Fr P h h'' := ⟨b.1.trans a.1, fun q hq => (b.2 q hq).trans (a.2 q hq)⟩
theorem Fr.up {P : Nat → Prop} {h h' : EH} {a : Nat} {e : va_E} (f : Fr P h h') (ha : P a) : Fr P h (hup h' a e) := ⟨f.1, fun q hq => (if_neg (fun z => hq (by rw [z]; exact ha))).trans (f.2 q hq)⟩
theorem Fr.wk {P P' : Nat → Prop} {h h' : EH} (f : Fr P h h') (hp : ∀ q, P q → P' q) : Fr P' h h' := ⟨f.1, fun q hq => f.2 q (fun z => hq (hp q z))⟩
theorem Fr.get {P : Nat → Prop} {h h' : EH} (f : Fr P h h') {q : Nat} {x : Option va_E} (hq : ¬ P q) (hx : h.2 q = x) : h'.2 q = x := (f.2 q hq).trans hx
theorem b2i_fit (b : Bool) : fits .boolean (.int (b2i b)) = true := by cases b <;> rfl
theorem upd_nI (t : Nat → Nat) (j c : Nat) : upd (fun i => nI (t i)) j (nI c) = fun i => nI (va_up t j c i) := by
  funext i
  unfold upd va_up
  by_cases h : i = j <;> simp [h]
end
section
/-! TEXT: the characters written (PolicyDesk$Text), and PolicyDesk.byteOf -/
def TX (G : EG) (h : EH) (a b : Nat) (t : Nat → Nat) (n : Nat) : Prop := h.2 a = some (.inr (6, [.ref b, .int (nI n)])) ∧ h.2 b = some (.inl (eA G 0, 72, .inl (fun j => nI (t j)))) ∧ n ≤ 72 ∧ a ≠ b
abbrev atT (a b : Nat) : Nat → Prop := fun q => q = a ∨ q = b
theorem TX.fr {G : EG} {h h' : EH} {a b : Nat} {t : Nat → Nat} {n : Nat} {P : Nat → Prop} (x : TX G h a b t n) (f : Fr P h h') (ha : ¬ P a) (hb : ¬ P b) : TX G h' a b t n := ⟨f.get ha x.1, f.get hb x.2.1, x.2.2⟩
set_option maxHeartbeats 4000000 in
set_option maxRecDepth 100000 in
theorem s_byteOf {G : EG} {l : Launch} (h : EH) (w : Int64) {k : Nat} (hk : k < 8) : ES G l 0 mX11_byteOf [.long w, .int (nI k)] h 0 0 (fun v h' => v = some (.int (nI (byt w k))) ∧ h' = h) eNoX := by
  refine es_of (by decide) rfl (Nat.le_of_ble_eq_true rfl) ?_
  refine ex_lload_n rfl dX11_byteOf_0 ?_
  refine ex_bipush (v := (nI 56)) (by decide) dX11_byteOf_1 ?_
  refine ex_bipush (v := (nI 8)) (by decide) dX11_byteOf_3 ?_
  refine ex_iload_n rfl dX11_byteOf_5 ?_
  refine ex_imulN dX11_byteOf_6 ?_
  refine ex_isubN (by omega) dX11_byteOf_7 ?_
  refine ex_lushr dX11_byteOf_8 ?_
  refine ex_l2i dX11_byteOf_9 ?_
  refine ex_sipush (v := (nI 255)) (by decide) dX11_byteOf_10 ?_
  refine ex_iand dX11_byteOf_13 ?_
  refine ex_iret dX11_byteOf_14 rfl ⟨congrArg (fun z => some (Value.int z)) (byt_class w (by omega)), rfl⟩
set_option maxHeartbeats 4000000 in
set_option maxRecDepth 100000 in
theorem s_codeAt {G : EG} {l : Launch} {h : EH} {a b n i : Nat} {t : Nat → Nat} (hT : TX G h a b t n) (hi : i < 2 ^ 31) : ES G l 0 mX10_codeAt [.ref a, .int (nI i)] h 0 0 (fun v h' => v = some (.int (if i < n then nI (t i) else -1)) ∧ h' = h) eNoX := by
  have hn := hT.2.2.1
  refine es_of (by decide) rfl (Nat.le_of_ble_eq_true rfl) ?_
  refine ex_iload_n rfl dX10_codeAt_0 ?_
  refine ex_ifN_lt (tgt := 21) (by decide) dX10_codeAt_1 (by omega) (fun c1 => ?_) (fun c1 => ?_)
  · exact c1.elim
  · refine ex_iload_n rfl dX10_codeAt_4 ?_
    refine ex_aload_n rfl dX10_codeAt_5 ?_
    refine ex_get dX10_codeAt_6 gf_X10_15 hT.1 rfl ?_
    refine ex_icmpN_ge (tgt := 21) (by decide) dX10_codeAt_9 (by omega) (by omega) (fun c2 => ?_) (fun c2 => ?_)
    · refine ex_iconst (v := (-1)) (by decide) dX10_codeAt_21 ?_
      refine ex_iret dX10_codeAt_22 rfl ⟨by rw [if_neg (by omega)], rfl⟩
    · refine ex_aload_n rfl dX10_codeAt_12 ?_
      refine ex_get dX10_codeAt_13 gf_X10_9 hT.1 rfl ?_
      refine ex_iload_n rfl dX10_codeAt_16 ?_
      refine ex_ialdN dX10_codeAt_17 hT.2.1 (by omega) (by decide) ?_
      refine ex_goto (tgt := 22) (by decide) dX10_codeAt_18 ?_
      refine ex_iret dX10_codeAt_22 rfl ⟨by simp [*], rfl⟩
set_option maxHeartbeats 4000000 in
set_option maxRecDepth 100000 in
theorem s_tlength {G : EG} {l : Launch} {h : EH} {a b n : Nat} {t : Nat → Nat} (hT : TX G h a b t n) : ES G l 0 mX10_length [.ref a] h 0 0 (fun v h' => v = some (.int (nI n)) ∧ h' = h) eNoX := by
  refine es_of (by decide) rfl (Nat.le_of_ble_eq_true rfl) ?_
  refine ex_aload_n rfl dX10_length_0 ?_
  refine ex_get dX10_length_1 gf_X10_15 hT.1 rfl ?_
  refine ex_iret dX10_length_4 rfl ⟨rfl, rfl⟩
set_option maxHeartbeats 4000000 in
set_option maxRecDepth 100000 in
theorem s_tclear {G : EG} {l : Launch} {h : EH} {a b n : Nat} {t : Nat → Nat} (hT : TX G h a b t n) : ES G l 0 mX10_clear [.ref a] h 0 0 (fun v h' => v = none ∧ TX G h' a b t 0 ∧ Fr (atT a b) h h') eNoX := by
  refine es_of (by decide) rfl (Nat.le_of_ble_eq_true rfl) ?_
  refine ex_aload_n rfl dX10_clear_0 ?_
  refine ex_iconst (v := (nI 0)) (by decide) dX10_clear_1 ?_
  refine ex_put dX10_clear_2 pf_X10_15 hT.1 (Nat.le_of_ble_eq_true rfl) rfl rfl ?_
  refine ex_vret dX10_clear_5 rfl ⟨rfl, ⟨hup_eq, hup_ne hT.2.2.2.symm hT.2.1, by omega, hT.2.2.2⟩, Fr.rf.up (Or.inl rfl)⟩
set_option maxHeartbeats 4000000 in
set_option maxRecDepth 100000 in
theorem s_appendCode {G : EG} {l : Launch} {h : EH} {a b n c : Nat} {t : Nat → Nat} (hT : TX G h a b t n) (hc : c < 2 ^ 31) (hr : c = 0 ∨ n < 72) : ES G l 0 mX10_appendCode [.ref a, .int (nI c)] h 0 0 (fun v h' => v = none ∧ TX G h' a b (if c = 0 then t else va_up t n c) (if c = 0 then n else n + 1) ∧ Fr (atT a b) h h') eNoX := by
  have hn := hT.2.2.1
  have hab := hT.2.2.2
  refine es_of (by decide) rfl (Nat.le_of_ble_eq_true rfl) ?_
  refine ex_iload_n rfl dX10_appendCode_0 ?_
  refine ex_ifN_eq (tgt := 36) (by decide) dX10_appendCode_1 (by omega) (fun c1 => ?_) (fun c1 => ?_)
  · refine ex_vret dX10_appendCode_36 rfl ⟨rfl, by simp only [if_pos c1]; exact hT, Fr.rf⟩
  · refine ex_aload_n rfl dX10_appendCode_4 ?_
    refine ex_get dX10_appendCode_5 gf_X10_15 hT.1 rfl ?_
    refine ex_aload_n rfl dX10_appendCode_8 ?_
    refine ex_get dX10_appendCode_9 gf_X10_9 hT.1 rfl ?_
    refine ex_alen dX10_appendCode_12 hT.2.1 rfl (v := nI 72) rfl ?_
    refine ex_icmpN_ge (tgt := 36) (by decide) dX10_appendCode_13 (by omega) (by omega) (fun c2 => ?_) (fun c2 => ?_)
    · exact absurd hr (by omega)
    · refine ex_aload_n rfl dX10_appendCode_16 ?_
      refine ex_get dX10_appendCode_17 gf_X10_9 hT.1 rfl ?_
      refine ex_aload_n rfl dX10_appendCode_20 ?_
      refine ex_get dX10_appendCode_21 gf_X10_15 hT.1 rfl ?_
      refine ex_iload_n rfl dX10_appendCode_24 ?_
      refine ex_iastN dX10_appendCode_25 hT.2.1 (by omega) (by decide) ?_
      refine ex_aload_n rfl dX10_appendCode_26 ?_
      refine ex_dup rfl dX10_appendCode_27 ?_
      refine ex_get dX10_appendCode_28 gf_X10_15 (hup_ne hab hT.1) rfl ?_
      refine ex_iconst (v := (nI 1)) (by decide) dX10_appendCode_31 ?_
      refine ex_iaddN dX10_appendCode_32 ?_
      refine ex_put dX10_appendCode_33 pf_X10_15 (hup_ne hab hT.1) (Nat.le_of_ble_eq_true rfl) rfl rfl ?_
      refine ex_vret dX10_appendCode_36 rfl ⟨rfl, by simp only [if_neg c1]; exact ⟨hup_eq, hup_ne hab.symm (by rw [← upd_nI]; exact hup_eq), by omega, hab⟩, (Fr.rf.up (Or.inr rfl)).up (Or.inl rfl)⟩
def okb (b : Nat) : Bool := decide (b = 0 ∨ (32 ≤ b ∧ b ≤ 126))
def cntb (w : Int64) : Nat → Nat
  | 0 => 0
  | k + 1 => cntb w k + (if byt w k = 0 then 0 else 1)
def oks (w : Int64) : Bool := (List.range 8).all (fun k => okb (byt w k))
def wok (w : Int64) (n : Nat) : Bool := oks w && decide (n + cntb w 8 ≤ 72)
def wt (t : Nat → Nat) (n : Nat) (w : Int64) : Nat → Nat → Nat
  | 0 => t
  | k + 1 => if byt w k = 0 then wt t n w k else va_up (wt t n w k) (n + cntb w k) (byt w k)
theorem cntb_le (w : Int64) (k : Nat) : cntb w k ≤ k := by
  induction k with
  | zero => exact Nat.le_refl _
  | succ k ih => unfold cntb; split <;> omega
theorem cntb_mono (w : Int64) {j k : Nat} (h : j ≤ k) : cntb w j ≤ cntb w k := by
  induction k with
  | zero => rw [Nat.le_zero.mp h]; exact Nat.le_refl _
  | succ k ih =>
    rcases Nat.lt_or_ge j (k + 1) with q | q
    · have := ih (by omega)
      show cntb w j ≤ cntb w k + _
      omega
    · rw [show j = k + 1 by omega]; exact Nat.le_refl _
theorem oks_of {w : Int64} (h : ∀ j, j < 8 → okb (byt w j) = true) : oks w = true := List.all_eq_true.mpr fun j hj => h j (List.mem_range.mp hj)
theorem oks_no {w : Int64} {k : Nat} (hk : k < 8) (h : okb (byt w k) = false) : oks w = false := by
  cases hq : oks w with
  | false => rfl
  | true => exact absurd (List.all_eq_true.mp hq k (List.mem_range.mpr hk)) (by rw [h]; decide)
def QA (G : EG) (h : EH) (a b : Nat) (t : Nat → Nat) (n : Nat) (w : Int64) : Option Value → EH → Prop := fun v h' => v = some (.int (b2i (wok w n))) ∧ TX G h' a b (if wok w n then wt t n w 8 else t) (if wok w n then n + cntb w 8 else n) ∧ Fr (atT a b) h h'
theorem QA.no {G : EG} {h : EH} {a b n : Nat} {t : Nat → Nat} {w : Int64} (hT : TX G h a b t n) (hq : wok w n = false) : QA G h a b t n w (some (.int (nI 0))) h := ⟨by rw [hq]; rfl, by simp only [hq]; exact hT, Fr.rf⟩
set_option maxHeartbeats 4000000 in
set_option maxRecDepth 100000 in
theorem l_append2 {G : EG} {l : Launch} {h0 : EH} {a b n : Nat} {t : Nat → Nat} {w : Int64} (hw : wok w n = true) : ∀ (f k : Nat), 8 < f + k → k ≤ 8 → ∀ (h : EH) (m : Int32), TX G h a b (wt t n w k) (n + cntb w k) → Fr (atT a b) h0 h → Ex G l 1 mX10_append (QA G h0 a b t n w) eNoX 0 0 79 [(0, .ref a), (1, .long w), (3, .int m), (4, .int (nI k))] [] h := by
  intro f
  induction f with
  | zero =>
    intro k h1 h2 h m hT hF
    omega
  | succ f ih =>
    intro k h1 h2 h m hT hF
    have hn := hT.2.2.1
    have hw2 : n + cntb w 8 ≤ 72 := by simp [wok] at hw; exact hw.2
    have hb := byt_lt w k
    refine ex_iload rfl dX10_append_79 ?_
    refine ex_bipush (v := (nI 8)) (by decide) dX10_append_81 ?_
    refine ex_icmpN_ge (tgt := 102) (by decide) dX10_append_83 (by omega) (by omega) (fun c1 => ?_) (fun c1 => ?_)
    · refine ex_iconst (v := (nI 1)) (by decide) dX10_append_102 ?_
      refine ex_zret dX10_append_103 rfl rfl ⟨by rw [hw]; rfl, by simp only [hw, if_true]; rw [show k = 8 by omega] at hT; exact hT, hF⟩
    · refine ex_aload_n rfl dX10_append_86 ?_
      refine ex_lload_n rfl dX10_append_87 ?_
      refine ex_iload rfl dX10_append_88 ?_
      refine ex_invsN (As := [_, _]) dX10_append_90 cs_X10_19 (by decide) (Nat.le_of_ble_eq_true rfl) (s_byteOf _ w (k := k) (by omega)) (fun v h' q => ?_)
      obtain ⟨rfl, rfl⟩ := q
      refine ex_invv (As := [_]) dX10_append_93 cv_X10_23 (by decide) (Nat.le_of_ble_eq_true rfl) (Or.inl ⟨_, _, _, _, hT.1, rfl⟩) (s_appendCode hT (by omega) (by have h8 := cntb_mono w (j := k + 1) (k := 8) (by omega); by_cases hz : byt w k = 0; exact Or.inl hz; exact Or.inr (by have : cntb w (k + 1) = cntb w k + 1 := (by show _ + _ = _; rw [if_neg hz]); omega))) (fun v h' q => ?_)
      obtain ⟨rfl, hT', hF'⟩ := q
      refine ex_iincN (z := 1) rfl (by decide) rfl dX10_append_96 ?_
      refine ex_goto (tgt := 79) (by decide) dX10_append_99 ?_
      exact ih (k + 1) (by omega) (by omega) _ _ (by have e1 : wt t n w (k + 1) = if byt w k = 0 then wt t n w k else va_up (wt t n w k) (n + cntb w k) (byt w k) := rfl; have e2 : n + cntb w (k + 1) = if byt w k = 0 then n + cntb w k else n + cntb w k + 1 := (by show n + (_ + _) = _; split <;> omega); rw [e1, e2]; exact hT') (hF.tr hF')
set_option maxHeartbeats 4000000 in
set_option maxRecDepth 100000 in
theorem l_append1 {G : EG} {l : Launch} {h : EH} {a b n : Nat} {t : Nat → Nat} {w : Int64} (hT : TX G h a b t n) : ∀ (f k : Nat), 8 < f + k → k ≤ 8 → (∀ j, j < k → okb (byt w j) = true) → Ex G l 1 mX10_append (QA G h a b t n w) eNoX 0 0 5 [(0, .ref a), (1, .long w), (3, .int (nI (cntb w k))), (4, .int (nI k))] [] h := by
  intro f
  induction f with
  | zero =>
    intro k h1 h2 hok
    omega
  | succ f ih =>
    intro k h1 h2 hok
    have hn := hT.2.2.1
    have hb := byt_lt w k
    have hcl := cntb_le w k
    refine ex_iload rfl dX10_append_5 ?_
    refine ex_bipush (v := (nI 8)) (by decide) dX10_append_7 ?_
    refine ex_icmpN_ge (tgt := 60) (by decide) dX10_append_9 (by omega) (by omega) (fun c1 => ?_) (fun c1 => ?_)
    · refine ex_iload_n rfl dX10_append_60 ?_
      refine ex_aload_n rfl dX10_append_61 ?_
      refine ex_get dX10_append_62 gf_X10_9 hT.1 rfl ?_
      refine ex_alen dX10_append_65 hT.2.1 rfl (v := nI 72) rfl ?_
      refine ex_aload_n rfl dX10_append_66 ?_
      refine ex_get dX10_append_67 gf_X10_15 hT.1 rfl ?_
      refine ex_isubN (by omega) dX10_append_70 ?_
      refine ex_icmpN_le (tgt := 76) (by decide) dX10_append_71 (by omega) (by omega) (fun c2 => ?_) (fun c2 => ?_)
      · refine ex_iconst (v := (nI 0)) (by decide) dX10_append_76 ?_
        refine ex_istore (by decide) rfl dX10_append_77 ?_
        exact l_append2 (by have h8 := oks_of (w := w) (fun j hj => hok j (by omega)); rw [show k = 8 by omega] at *; simp [wok, h8]; omega) 9 0 (by omega) (by omega) h _ (by exact hT) Fr.rf
      · refine ex_iconst (v := (nI 0)) (by decide) dX10_append_74 ?_
        refine ex_zret dX10_append_75 rfl rfl (QA.no hT (by rw [show k = 8 by omega] at *; simp [wok]; intro _; omega))
    · refine ex_lload_n rfl dX10_append_12 ?_
      refine ex_iload rfl dX10_append_13 ?_
      refine ex_invsN (As := [_, _]) dX10_append_15 cs_X10_19 (by decide) (Nat.le_of_ble_eq_true rfl) (s_byteOf _ w (k := k) (by omega)) (fun v h' q => ?_)
      obtain ⟨rfl, rfl⟩ := q
      refine ex_istore (by decide) rfl dX10_append_18 ?_
      refine ex_iload rfl dX10_append_20 ?_
      refine ex_ifN_eq (tgt := 41) (by decide) dX10_append_22 (by omega) (fun c3 => ?_) (fun c3 => ?_)
      · refine ex_iload_n rfl dX10_append_41 ?_
        refine ex_iload rfl dX10_append_42 ?_
        refine ex_ifN_ne (tgt := 51) (by decide) dX10_append_44 (by omega) (fun c4 => ?_) (fun c4 => ?_)
        · refine ex_iconst (v := (nI 1)) (by decide) dX10_append_51 ?_
          refine ex_iaddN dX10_append_52 ?_
          refine ex_istore_n (by decide) rfl dX10_append_53 ?_
          refine ex_iincN (z := 1) rfl (by decide) rfl dX10_append_54 ?_
          refine ex_goto (tgt := 5) (by decide) dX10_append_57 ?_
          exact ex_lv [(0, .ref a), (1, .long w), (3, .int (nI (cntb w (k + 1)))), (4, .int (nI (k + 1)))] ⟨rfl, rfl, by show some (Value.int (nI (cntb w k + _))) = some (Value.int (nI (cntb w k + _))); first | exact absurd ‹byt w k = 0› ‹byt w k ≠ 0› | simp [*], rfl, trivial⟩ (ih (k + 1) (by omega) (by omega) (fun j hj => by rcases Nat.lt_or_ge j k with q | q; exact hok j q; rw [show j = k by omega]; simp [okb]; omega))
        · refine ex_iconst (v := (nI 0)) (by decide) dX10_append_47 ?_
          refine ex_goto (tgt := 52) (by decide) dX10_append_48 ?_
          refine ex_iaddN dX10_append_52 ?_
          refine ex_istore_n (by decide) rfl dX10_append_53 ?_
          refine ex_iincN (z := 1) rfl (by decide) rfl dX10_append_54 ?_
          refine ex_goto (tgt := 5) (by decide) dX10_append_57 ?_
          exact ex_lv [(0, .ref a), (1, .long w), (3, .int (nI (cntb w (k + 1)))), (4, .int (nI (k + 1)))] ⟨rfl, rfl, by show some (Value.int (nI (cntb w k + _))) = some (Value.int (nI (cntb w k + _))); first | exact absurd ‹byt w k = 0› ‹byt w k ≠ 0› | simp [*], rfl, trivial⟩ (ih (k + 1) (by omega) (by omega) (fun j hj => by rcases Nat.lt_or_ge j k with q | q; exact hok j q; rw [show j = k by omega]; simp [okb]; omega))
      · refine ex_iload rfl dX10_append_25 ?_
        refine ex_bipush (v := (nI 32)) (by decide) dX10_append_27 ?_
        refine ex_icmpN_lt (tgt := 39) (by decide) dX10_append_29 (by omega) (by omega) (fun c5 => ?_) (fun c5 => ?_)
        · refine ex_iconst (v := (nI 0)) (by decide) dX10_append_39 ?_
          refine ex_zret dX10_append_40 rfl rfl (QA.no hT (by rw [wok, oks_no (k := k) (by omega) (by simp [okb]; omega)]; rfl))
        · refine ex_iload rfl dX10_append_32 ?_
          refine ex_bipush (v := (nI 126)) (by decide) dX10_append_34 ?_
          refine ex_icmpN_le (tgt := 41) (by decide) dX10_append_36 (by omega) (by omega) (fun c6 => ?_) (fun c6 => ?_)
          · refine ex_iload_n rfl dX10_append_41 ?_
            refine ex_iload rfl dX10_append_42 ?_
            refine ex_ifN_ne (tgt := 51) (by decide) dX10_append_44 (by omega) (fun c7 => ?_) (fun c7 => ?_)
            · refine ex_iconst (v := (nI 1)) (by decide) dX10_append_51 ?_
              refine ex_iaddN dX10_append_52 ?_
              refine ex_istore_n (by decide) rfl dX10_append_53 ?_
              refine ex_iincN (z := 1) rfl (by decide) rfl dX10_append_54 ?_
              refine ex_goto (tgt := 5) (by decide) dX10_append_57 ?_
              exact ex_lv [(0, .ref a), (1, .long w), (3, .int (nI (cntb w (k + 1)))), (4, .int (nI (k + 1)))] ⟨rfl, rfl, by show some (Value.int (nI (cntb w k + _))) = some (Value.int (nI (cntb w k + _))); first | exact absurd ‹byt w k = 0› ‹byt w k ≠ 0› | simp [*], rfl, trivial⟩ (ih (k + 1) (by omega) (by omega) (fun j hj => by rcases Nat.lt_or_ge j k with q | q; exact hok j q; rw [show j = k by omega]; simp [okb]; omega))
            · refine ex_iconst (v := (nI 0)) (by decide) dX10_append_47 ?_
              refine ex_goto (tgt := 52) (by decide) dX10_append_48 ?_
              refine ex_iaddN dX10_append_52 ?_
              refine ex_istore_n (by decide) rfl dX10_append_53 ?_
              refine ex_iincN (z := 1) rfl (by decide) rfl dX10_append_54 ?_
              refine ex_goto (tgt := 5) (by decide) dX10_append_57 ?_
              exact ex_lv [(0, .ref a), (1, .long w), (3, .int (nI (cntb w (k + 1)))), (4, .int (nI (k + 1)))] ⟨rfl, rfl, by show some (Value.int (nI (cntb w k + _))) = some (Value.int (nI (cntb w k + _))); first | exact absurd ‹byt w k = 0› ‹byt w k ≠ 0› | simp [*], rfl, trivial⟩ (ih (k + 1) (by omega) (by omega) (fun j hj => by rcases Nat.lt_or_ge j k with q | q; exact hok j q; rw [show j = k by omega]; simp [okb]; omega))
          · refine ex_iconst (v := (nI 0)) (by decide) dX10_append_39 ?_
            refine ex_zret dX10_append_40 rfl rfl (QA.no hT (by rw [wok, oks_no (k := k) (by omega) (by simp [okb]; omega)]; rfl))
set_option maxHeartbeats 4000000 in
set_option maxRecDepth 100000 in
theorem s_append {G : EG} {l : Launch} {h : EH} {a b n : Nat} {t : Nat → Nat} {w : Int64} (hT : TX G h a b t n) : ES G l 1 mX10_append [.ref a, .long w] h 0 0 (QA G h a b t n w) eNoX := by
  refine es_of (by decide) rfl (Nat.le_of_ble_eq_true rfl) ?_
  refine ex_iconst (v := (nI 0)) (by decide) dX10_append_0 ?_
  refine ex_istore_n (by decide) rfl dX10_append_1 ?_
  refine ex_iconst (v := (nI 0)) (by decide) dX10_append_2 ?_
  refine ex_istore (by decide) rfl dX10_append_3 ?_
  exact l_append1 hT 9 0 (by omega) (by omega) (fun j hj => absurd hj (by omega))
end
