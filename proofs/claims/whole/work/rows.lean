section
-- ===== PART A: goes FIRST, ahead of the names: the tables' words, and 'selects' of the private methods out of them =====
/-- a private method of a class that the tables say can be made, by its rows of tables_1 -/
def lw_okq (q : MethodName × Nat) : Prop := (q.1.cls ≠ "java/lang/invoke/MethodHandle" ∧ q.1.cls ≠ "java/lang/invoke/VarHandle") ∧ Cond.instantiable q.1.cls q.2 ∈ tables_1 ∧ Cond.privateMethod q.1 ∈ tables_1 ∧ Cond.instanceMethod q.1 ∈ tables_1
theorem lw_p0 : lw_okq (⟨"PolicyDesk$Text", "appendCode", "(I)V"⟩, 2) := ⟨⟨by decide +kernel, by decide +kernel⟩, List.mem_of_getElem? (i := 37) (by decide +kernel), List.mem_of_getElem? (i := 216) (by decide +kernel), List.mem_of_getElem? (i := 217) (by decide +kernel)⟩
theorem lw_p1 : lw_okq (⟨"PolicyDesk$Policy", "spread", "(I)I"⟩, 7) := ⟨⟨by decide +kernel, by decide +kernel⟩, List.mem_of_getElem? (i := 146) (by decide +kernel), List.mem_of_getElem? (i := 266) (by decide +kernel), List.mem_of_getElem? (i := 267) (by decide +kernel)⟩
theorem lw_p2 : lw_okq (⟨"PolicyDesk$Policy", "flowsInOneStep", "(II)Z"⟩, 7) := ⟨⟨by decide +kernel, by decide +kernel⟩, List.mem_of_getElem? (i := 146) (by decide +kernel), List.mem_of_getElem? (i := 270) (by decide +kernel), List.mem_of_getElem? (i := 271) (by decide +kernel)⟩
theorem lw_p3 : lw_okq (⟨"PolicyDesk$Policy", "hasMask", "(II)Z"⟩, 7) := ⟨⟨by decide +kernel, by decide +kernel⟩, List.mem_of_getElem? (i := 146) (by decide +kernel), List.mem_of_getElem? (i := 287) (by decide +kernel), List.mem_of_getElem? (i := 288) (by decide +kernel)⟩
theorem lw_p4 : lw_okq (⟨"PolicyDesk$Reader", "keyword", "(LPolicyDesk$Statement;)Z"⟩, 2) := ⟨⟨by decide +kernel, by decide +kernel⟩, List.mem_of_getElem? (i := 51) (by decide +kernel), List.mem_of_getElem? (i := 393) (by decide +kernel), List.mem_of_getElem? (i := 394) (by decide +kernel)⟩
theorem lw_p5 : lw_okq (⟨"PolicyDesk$Reader", "lettersShared", "(Ljava/lang/String;)I"⟩, 2) := ⟨⟨by decide +kernel, by decide +kernel⟩, List.mem_of_getElem? (i := 51) (by decide +kernel), List.mem_of_getElem? (i := 399) (by decide +kernel), List.mem_of_getElem? (i := 400) (by decide +kernel)⟩
theorem lw_p6 : lw_okq (⟨"PolicyDesk$Reader", "names", "(LPolicyDesk$Statement;I)Z"⟩, 2) := ⟨⟨by decide +kernel, by decide +kernel⟩, List.mem_of_getElem? (i := 51) (by decide +kernel), List.mem_of_getElem? (i := 464) (by decide +kernel), List.mem_of_getElem? (i := 465) (by decide +kernel)⟩
theorem lw_p7 : lw_okq (⟨"PolicyDesk$Reader", "blank", "()Z"⟩, 2) := ⟨⟨by decide +kernel, by decide +kernel⟩, List.mem_of_getElem? (i := 51) (by decide +kernel), List.mem_of_getElem? (i := 468) (by decide +kernel), List.mem_of_getElem? (i := 469) (by decide +kernel)⟩
theorem lw_p8 : lw_okq (⟨"PolicyDesk$Reader", "name", "(LPolicyDesk$Statement;)Z"⟩, 2) := ⟨⟨by decide +kernel, by decide +kernel⟩, List.mem_of_getElem? (i := 51) (by decide +kernel), List.mem_of_getElem? (i := 472) (by decide +kernel), List.mem_of_getElem? (i := 473) (by decide +kernel)⟩
theorem lw_p9 : lw_okq (⟨"PolicyDesk$Reader", "mark", "(LPolicyDesk$Statement;Ljava/lang/String;)Z"⟩, 2) := ⟨⟨by decide +kernel, by decide +kernel⟩, List.mem_of_getElem? (i := 51) (by decide +kernel), List.mem_of_getElem? (i := 483) (by decide +kernel), List.mem_of_getElem? (i := 484) (by decide +kernel)⟩
theorem lw_p10 : lw_okq (⟨"PolicyDesk$Reader", "atEnd", "()Z"⟩, 2) := ⟨⟨by decide +kernel, by decide +kernel⟩, List.mem_of_getElem? (i := 51) (by decide +kernel), List.mem_of_getElem? (i := 491) (by decide +kernel), List.mem_of_getElem? (i := 492) (by decide +kernel)⟩
theorem lw_p11 : lw_okq (⟨"PolicyDesk$Reader", "list", "(LPolicyDesk$Statement;II)Z"⟩, 2) := ⟨⟨by decide +kernel, by decide +kernel⟩, List.mem_of_getElem? (i := 51) (by decide +kernel), List.mem_of_getElem? (i := 558) (by decide +kernel), List.mem_of_getElem? (i := 559) (by decide +kernel)⟩
theorem lw_p12 : lw_okq (⟨"java/lang/Throwable", "fillInStackTrace", "(I)Ljava/lang/Throwable;"⟩, 6) := ⟨⟨by decide +kernel, by decide +kernel⟩, List.mem_of_getElem? (i := 608) (by decide +kernel), List.mem_of_getElem? (i := 606) (by decide +kernel), List.mem_of_getElem? (i := 607) (by decide +kernel)⟩
theorem lw_p13 : lw_okq (⟨"PolicyDesk$Draft", "isWrong", "(I)Z"⟩, 2) := ⟨⟨by decide +kernel, by decide +kernel⟩, List.mem_of_getElem? (i := 64) (by decide +kernel), List.mem_of_getElem? (i := 674) (by decide +kernel), List.mem_of_getElem? (i := 675) (by decide +kernel)⟩
theorem lw_p14 : lw_okq (⟨"PolicyDesk$Draft", "repeats", "(II)Z"⟩, 2) := ⟨⟨by decide +kernel, by decide +kernel⟩, List.mem_of_getElem? (i := 64) (by decide +kernel), List.mem_of_getElem? (i := 687) (by decide +kernel), List.mem_of_getElem? (i := 688) (by decide +kernel)⟩
theorem lw_p15 : lw_okq (⟨"PolicyDesk$Draft", "howMany", "(LPolicyDesk$Kind;I)I"⟩, 2) := ⟨⟨by decide +kernel, by decide +kernel⟩, List.mem_of_getElem? (i := 64) (by decide +kernel), List.mem_of_getElem? (i := 708) (by decide +kernel), List.mem_of_getElem? (i := 709) (by decide +kernel)⟩
def lw_privs_1 : List (MethodName × Nat) := [(⟨"PolicyDesk$Text", "appendCode", "(I)V"⟩, 2), (⟨"PolicyDesk$Policy", "spread", "(I)I"⟩, 7), (⟨"PolicyDesk$Policy", "flowsInOneStep", "(II)Z"⟩, 7), (⟨"PolicyDesk$Policy", "hasMask", "(II)Z"⟩, 7), (⟨"PolicyDesk$Reader", "keyword", "(LPolicyDesk$Statement;)Z"⟩, 2), (⟨"PolicyDesk$Reader", "lettersShared", "(Ljava/lang/String;)I"⟩, 2), (⟨"PolicyDesk$Reader", "names", "(LPolicyDesk$Statement;I)Z"⟩, 2), (⟨"PolicyDesk$Reader", "blank", "()Z"⟩, 2), (⟨"PolicyDesk$Reader", "name", "(LPolicyDesk$Statement;)Z"⟩, 2), (⟨"PolicyDesk$Reader", "mark", "(LPolicyDesk$Statement;Ljava/lang/String;)Z"⟩, 2), (⟨"PolicyDesk$Reader", "atEnd", "()Z"⟩, 2), (⟨"PolicyDesk$Reader", "list", "(LPolicyDesk$Statement;II)Z"⟩, 2), (⟨"java/lang/Throwable", "fillInStackTrace", "(I)Ljava/lang/Throwable;"⟩, 6), (⟨"PolicyDesk$Draft", "isWrong", "(I)Z"⟩, 2), (⟨"PolicyDesk$Draft", "repeats", "(II)Z"⟩, 2), (⟨"PolicyDesk$Draft", "howMany", "(LPolicyDesk$Kind;I)I"⟩, 2)]
theorem lw_r1 : ∀ q ∈ lw_privs_1, lw_okq q := List.forall_mem_cons.mpr ⟨lw_p0, List.forall_mem_cons.mpr ⟨lw_p1, List.forall_mem_cons.mpr ⟨lw_p2, List.forall_mem_cons.mpr ⟨lw_p3, List.forall_mem_cons.mpr ⟨lw_p4, List.forall_mem_cons.mpr ⟨lw_p5, List.forall_mem_cons.mpr ⟨lw_p6, List.forall_mem_cons.mpr ⟨lw_p7, List.forall_mem_cons.mpr ⟨lw_p8, List.forall_mem_cons.mpr ⟨lw_p9, List.forall_mem_cons.mpr ⟨lw_p10, List.forall_mem_cons.mpr ⟨lw_p11, List.forall_mem_cons.mpr ⟨lw_p12, List.forall_mem_cons.mpr ⟨lw_p13, List.forall_mem_cons.mpr ⟨lw_p14, List.forall_mem_cons.mpr ⟨lw_p15, fun _ h => absurd h List.not_mem_nil⟩⟩⟩⟩⟩⟩⟩⟩⟩⟩⟩⟩⟩⟩⟩⟩
theorem lw_p16 : lw_okq (⟨"PolicyDesk$Draft", "isAttribute", "(I)Z"⟩, 2) := ⟨⟨by decide +kernel, by decide +kernel⟩, List.mem_of_getElem? (i := 64) (by decide +kernel), List.mem_of_getElem? (i := 713) (by decide +kernel), List.mem_of_getElem? (i := 714) (by decide +kernel)⟩
theorem lw_p17 : lw_okq (⟨"PolicyDesk$Draft", "isDoer", "(I)Z"⟩, 2) := ⟨⟨by decide +kernel, by decide +kernel⟩, List.mem_of_getElem? (i := 64) (by decide +kernel), List.mem_of_getElem? (i := 720) (by decide +kernel), List.mem_of_getElem? (i := 721) (by decide +kernel)⟩
theorem lw_p18 : lw_okq (⟨"PolicyDesk$Draft", "isType", "(I)Z"⟩, 2) := ⟨⟨by decide +kernel, by decide +kernel⟩, List.mem_of_getElem? (i := 64) (by decide +kernel), List.mem_of_getElem? (i := 724) (by decide +kernel), List.mem_of_getElem? (i := 725) (by decide +kernel)⟩
theorem lw_p19 : lw_okq (⟨"PolicyDesk$Draft", "declaresPermissions", "(LPolicyDesk$Statement;I)Z"⟩, 2) := ⟨⟨by decide +kernel, by decide +kernel⟩, List.mem_of_getElem? (i := 64) (by decide +kernel), List.mem_of_getElem? (i := 733) (by decide +kernel), List.mem_of_getElem? (i := 734) (by decide +kernel)⟩
theorem lw_p20 : lw_okq (⟨"PolicyDesk$Draft", "declaresPermission", "(II)Z"⟩, 2) := ⟨⟨by decide +kernel, by decide +kernel⟩, List.mem_of_getElem? (i := 64) (by decide +kernel), List.mem_of_getElem? (i := 741) (by decide +kernel), List.mem_of_getElem? (i := 742) (by decide +kernel)⟩
theorem lw_p21 : lw_okq (⟨"PolicyDesk", "putInForce", "()I"⟩, 10) := ⟨⟨by decide +kernel, by decide +kernel⟩, List.mem_of_getElem? (i := 29) (by decide +kernel), List.mem_of_getElem? (i := 836) (by decide +kernel), List.mem_of_getElem? (i := 837) (by decide +kernel)⟩
theorem lw_p22 : lw_okq (⟨"PolicyDesk$Memory", "drop", "(I)V"⟩, 5) := ⟨⟨by decide +kernel, by decide +kernel⟩, List.mem_of_getElem? (i := 99) (by decide +kernel), List.mem_of_getElem? (i := 874) (by decide +kernel), List.mem_of_getElem? (i := 875) (by decide +kernel)⟩
theorem lw_p23 : lw_okq (⟨"PolicyDesk$Memory", "append", "(II)V"⟩, 5) := ⟨⟨by decide +kernel, by decide +kernel⟩, List.mem_of_getElem? (i := 99) (by decide +kernel), List.mem_of_getElem? (i := 878) (by decide +kernel), List.mem_of_getElem? (i := 879) (by decide +kernel)⟩
theorem lw_p24 : lw_okq (⟨"PolicyDeskModel", "readStatement", "()Z"⟩, 32) := ⟨⟨by decide +kernel, by decide +kernel⟩, List.mem_of_getElem? (i := 925) (by decide +kernel), List.mem_of_getElem? (i := 1043) (by decide +kernel), List.mem_of_getElem? (i := 1044) (by decide +kernel)⟩
theorem lw_p25 : lw_okq (⟨"PolicyDeskModel", "readKind", "()I"⟩, 32) := ⟨⟨by decide +kernel, by decide +kernel⟩, List.mem_of_getElem? (i := 925) (by decide +kernel), List.mem_of_getElem? (i := 1047) (by decide +kernel), List.mem_of_getElem? (i := 1048) (by decide +kernel)⟩
theorem lw_p26 : lw_okq (⟨"PolicyDeskModel", "isLetter", "()Z"⟩, 32) := ⟨⟨by decide +kernel, by decide +kernel⟩, List.mem_of_getElem? (i := 925) (by decide +kernel), List.mem_of_getElem? (i := 1057) (by decide +kernel), List.mem_of_getElem? (i := 1058) (by decide +kernel)⟩
theorem lw_p27 : lw_okq (⟨"PolicyDeskModel", "here", "()C"⟩, 32) := ⟨⟨by decide +kernel, by decide +kernel⟩, List.mem_of_getElem? (i := 925) (by decide +kernel), List.mem_of_getElem? (i := 1061) (by decide +kernel), List.mem_of_getElem? (i := 1062) (by decide +kernel)⟩
theorem lw_p28 : lw_okq (⟨"PolicyDeskModel", "readNames", "(III)Z"⟩, 32) := ⟨⟨by decide +kernel, by decide +kernel⟩, List.mem_of_getElem? (i := 925) (by decide +kernel), List.mem_of_getElem? (i := 1065) (by decide +kernel), List.mem_of_getElem? (i := 1066) (by decide +kernel)⟩
theorem lw_p29 : lw_okq (⟨"PolicyDeskModel", "readName", "()I"⟩, 32) := ⟨⟨by decide +kernel, by decide +kernel⟩, List.mem_of_getElem? (i := 925) (by decide +kernel), List.mem_of_getElem? (i := 1069) (by decide +kernel), List.mem_of_getElem? (i := 1070) (by decide +kernel)⟩
theorem lw_p30 : lw_okq (⟨"PolicyDeskModel", "readExtra", "(II)Z"⟩, 32) := ⟨⟨by decide +kernel, by decide +kernel⟩, List.mem_of_getElem? (i := 925) (by decide +kernel), List.mem_of_getElem? (i := 1073) (by decide +kernel), List.mem_of_getElem? (i := 1074) (by decide +kernel)⟩
theorem lw_p31 : lw_okq (⟨"PolicyDeskModel", "firstWrong", "()I"⟩, 32) := ⟨⟨by decide +kernel, by decide +kernel⟩, List.mem_of_getElem? (i := 925) (by decide +kernel), List.mem_of_getElem? (i := 1089) (by decide +kernel), List.mem_of_getElem? (i := 1090) (by decide +kernel)⟩
def lw_privs_2 : List (MethodName × Nat) := [(⟨"PolicyDesk$Draft", "isAttribute", "(I)Z"⟩, 2), (⟨"PolicyDesk$Draft", "isDoer", "(I)Z"⟩, 2), (⟨"PolicyDesk$Draft", "isType", "(I)Z"⟩, 2), (⟨"PolicyDesk$Draft", "declaresPermissions", "(LPolicyDesk$Statement;I)Z"⟩, 2), (⟨"PolicyDesk$Draft", "declaresPermission", "(II)Z"⟩, 2), (⟨"PolicyDesk", "putInForce", "()I"⟩, 10), (⟨"PolicyDesk$Memory", "drop", "(I)V"⟩, 5), (⟨"PolicyDesk$Memory", "append", "(II)V"⟩, 5), (⟨"PolicyDeskModel", "readStatement", "()Z"⟩, 32), (⟨"PolicyDeskModel", "readKind", "()I"⟩, 32), (⟨"PolicyDeskModel", "isLetter", "()Z"⟩, 32), (⟨"PolicyDeskModel", "here", "()C"⟩, 32), (⟨"PolicyDeskModel", "readNames", "(III)Z"⟩, 32), (⟨"PolicyDeskModel", "readName", "()I"⟩, 32), (⟨"PolicyDeskModel", "readExtra", "(II)Z"⟩, 32), (⟨"PolicyDeskModel", "firstWrong", "()I"⟩, 32)]
theorem lw_r2 : ∀ q ∈ lw_privs_2, lw_okq q := List.forall_mem_cons.mpr ⟨lw_p16, List.forall_mem_cons.mpr ⟨lw_p17, List.forall_mem_cons.mpr ⟨lw_p18, List.forall_mem_cons.mpr ⟨lw_p19, List.forall_mem_cons.mpr ⟨lw_p20, List.forall_mem_cons.mpr ⟨lw_p21, List.forall_mem_cons.mpr ⟨lw_p22, List.forall_mem_cons.mpr ⟨lw_p23, List.forall_mem_cons.mpr ⟨lw_p24, List.forall_mem_cons.mpr ⟨lw_p25, List.forall_mem_cons.mpr ⟨lw_p26, List.forall_mem_cons.mpr ⟨lw_p27, List.forall_mem_cons.mpr ⟨lw_p28, List.forall_mem_cons.mpr ⟨lw_p29, List.forall_mem_cons.mpr ⟨lw_p30, List.forall_mem_cons.mpr ⟨lw_p31, fun _ h => absurd h List.not_mem_nil⟩⟩⟩⟩⟩⟩⟩⟩⟩⟩⟩⟩⟩⟩⟩⟩
theorem lw_p32 : lw_okq (⟨"PolicyDeskModel", "isWrong", "(I)Z"⟩, 32) := ⟨⟨by decide +kernel, by decide +kernel⟩, List.mem_of_getElem? (i := 925) (by decide +kernel), List.mem_of_getElem? (i := 1093) (by decide +kernel), List.mem_of_getElem? (i := 1094) (by decide +kernel)⟩
theorem lw_p33 : lw_okq (⟨"PolicyDeskModel", "nameAt", "(II)I"⟩, 32) := ⟨⟨by decide +kernel, by decide +kernel⟩, List.mem_of_getElem? (i := 925) (by decide +kernel), List.mem_of_getElem? (i := 1097) (by decide +kernel), List.mem_of_getElem? (i := 1098) (by decide +kernel)⟩
theorem lw_p34 : lw_okq (⟨"PolicyDeskModel", "before", "(III)I"⟩, 32) := ⟨⟨by decide +kernel, by decide +kernel⟩, List.mem_of_getElem? (i := 925) (by decide +kernel), List.mem_of_getElem? (i := 1101) (by decide +kernel), List.mem_of_getElem? (i := 1102) (by decide +kernel)⟩
theorem lw_p35 : lw_okq (⟨"PolicyDeskModel", "allDifferent", "(I)Z"⟩, 32) := ⟨⟨by decide +kernel, by decide +kernel⟩, List.mem_of_getElem? (i := 925) (by decide +kernel), List.mem_of_getElem? (i := 1105) (by decide +kernel), List.mem_of_getElem? (i := 1106) (by decide +kernel)⟩
theorem lw_p36 : lw_okq (⟨"PolicyDeskModel", "isAttribute", "(I)Z"⟩, 32) := ⟨⟨by decide +kernel, by decide +kernel⟩, List.mem_of_getElem? (i := 925) (by decide +kernel), List.mem_of_getElem? (i := 1109) (by decide +kernel), List.mem_of_getElem? (i := 1110) (by decide +kernel)⟩
theorem lw_p37 : lw_okq (⟨"PolicyDeskModel", "twice", "(I)Z"⟩, 32) := ⟨⟨by decide +kernel, by decide +kernel⟩, List.mem_of_getElem? (i := 925) (by decide +kernel), List.mem_of_getElem? (i := 1113) (by decide +kernel), List.mem_of_getElem? (i := 1114) (by decide +kernel)⟩
theorem lw_p38 : lw_okq (⟨"PolicyDeskModel", "isType", "(I)Z"⟩, 32) := ⟨⟨by decide +kernel, by decide +kernel⟩, List.mem_of_getElem? (i := 925) (by decide +kernel), List.mem_of_getElem? (i := 1117) (by decide +kernel), List.mem_of_getElem? (i := 1118) (by decide +kernel)⟩
theorem lw_p39 : lw_okq (⟨"PolicyDeskModel", "isClass", "(I)Z"⟩, 32) := ⟨⟨by decide +kernel, by decide +kernel⟩, List.mem_of_getElem? (i := 925) (by decide +kernel), List.mem_of_getElem? (i := 1121) (by decide +kernel), List.mem_of_getElem? (i := 1122) (by decide +kernel)⟩
theorem lw_p40 : lw_okq (⟨"PolicyDeskModel", "arePermissions", "(III)Z"⟩, 32) := ⟨⟨by decide +kernel, by decide +kernel⟩, List.mem_of_getElem? (i := 925) (by decide +kernel), List.mem_of_getElem? (i := 1128) (by decide +kernel), List.mem_of_getElem? (i := 1129) (by decide +kernel)⟩
theorem lw_p41 : lw_okq (⟨"PolicyDeskModel", "isPermission", "(II)Z"⟩, 32) := ⟨⟨by decide +kernel, by decide +kernel⟩, List.mem_of_getElem? (i := 925) (by decide +kernel), List.mem_of_getElem? (i := 1132) (by decide +kernel), List.mem_of_getElem? (i := 1133) (by decide +kernel)⟩
theorem lw_p42 : lw_okq (⟨"PolicyDeskModel", "firstAgainst", "()I"⟩, 32) := ⟨⟨by decide +kernel, by decide +kernel⟩, List.mem_of_getElem? (i := 925) (by decide +kernel), List.mem_of_getElem? (i := 1136) (by decide +kernel), List.mem_of_getElem? (i := 1137) (by decide +kernel)⟩
theorem lw_p43 : lw_okq (⟨"PolicyDeskModel", "shared", "(II)Z"⟩, 32) := ⟨⟨by decide +kernel, by decide +kernel⟩, List.mem_of_getElem? (i := 925) (by decide +kernel), List.mem_of_getElem? (i := 1140) (by decide +kernel), List.mem_of_getElem? (i := 1141) (by decide +kernel)⟩
theorem lw_p44 : lw_okq (⟨"PolicyDeskModel", "isAbout", "(III)Z"⟩, 32) := ⟨⟨by decide +kernel, by decide +kernel⟩, List.mem_of_getElem? (i := 925) (by decide +kernel), List.mem_of_getElem? (i := 1144) (by decide +kernel), List.mem_of_getElem? (i := 1145) (by decide +kernel)⟩
theorem lw_p45 : lw_okq (⟨"PolicyDeskModel", "typeStatement", "(I)I"⟩, 32) := ⟨⟨by decide +kernel, by decide +kernel⟩, List.mem_of_getElem? (i := 925) (by decide +kernel), List.mem_of_getElem? (i := 1148) (by decide +kernel), List.mem_of_getElem? (i := 1149) (by decide +kernel)⟩
theorem lw_p46 : lw_okq (⟨"PolicyDeskModel", "standsFor", "(II)Z"⟩, 32) := ⟨⟨by decide +kernel, by decide +kernel⟩, List.mem_of_getElem? (i := 925) (by decide +kernel), List.mem_of_getElem? (i := 1152) (by decide +kernel), List.mem_of_getElem? (i := 1153) (by decide +kernel)⟩
theorem lw_p47 : lw_okq (⟨"PolicyDeskModel", "begin", "()V"⟩, 32) := ⟨⟨by decide +kernel, by decide +kernel⟩, List.mem_of_getElem? (i := 925) (by decide +kernel), List.mem_of_getElem? (i := 1156) (by decide +kernel), List.mem_of_getElem? (i := 1157) (by decide +kernel)⟩
def lw_privs_3 : List (MethodName × Nat) := [(⟨"PolicyDeskModel", "isWrong", "(I)Z"⟩, 32), (⟨"PolicyDeskModel", "nameAt", "(II)I"⟩, 32), (⟨"PolicyDeskModel", "before", "(III)I"⟩, 32), (⟨"PolicyDeskModel", "allDifferent", "(I)Z"⟩, 32), (⟨"PolicyDeskModel", "isAttribute", "(I)Z"⟩, 32), (⟨"PolicyDeskModel", "twice", "(I)Z"⟩, 32), (⟨"PolicyDeskModel", "isType", "(I)Z"⟩, 32), (⟨"PolicyDeskModel", "isClass", "(I)Z"⟩, 32), (⟨"PolicyDeskModel", "arePermissions", "(III)Z"⟩, 32), (⟨"PolicyDeskModel", "isPermission", "(II)Z"⟩, 32), (⟨"PolicyDeskModel", "firstAgainst", "()I"⟩, 32), (⟨"PolicyDeskModel", "shared", "(II)Z"⟩, 32), (⟨"PolicyDeskModel", "isAbout", "(III)Z"⟩, 32), (⟨"PolicyDeskModel", "typeStatement", "(I)I"⟩, 32), (⟨"PolicyDeskModel", "standsFor", "(II)Z"⟩, 32), (⟨"PolicyDeskModel", "begin", "()V"⟩, 32)]
theorem lw_r3 : ∀ q ∈ lw_privs_3, lw_okq q := List.forall_mem_cons.mpr ⟨lw_p32, List.forall_mem_cons.mpr ⟨lw_p33, List.forall_mem_cons.mpr ⟨lw_p34, List.forall_mem_cons.mpr ⟨lw_p35, List.forall_mem_cons.mpr ⟨lw_p36, List.forall_mem_cons.mpr ⟨lw_p37, List.forall_mem_cons.mpr ⟨lw_p38, List.forall_mem_cons.mpr ⟨lw_p39, List.forall_mem_cons.mpr ⟨lw_p40, List.forall_mem_cons.mpr ⟨lw_p41, List.forall_mem_cons.mpr ⟨lw_p42, List.forall_mem_cons.mpr ⟨lw_p43, List.forall_mem_cons.mpr ⟨lw_p44, List.forall_mem_cons.mpr ⟨lw_p45, List.forall_mem_cons.mpr ⟨lw_p46, List.forall_mem_cons.mpr ⟨lw_p47, fun _ h => absurd h List.not_mem_nil⟩⟩⟩⟩⟩⟩⟩⟩⟩⟩⟩⟩⟩⟩⟩⟩
theorem lw_p48 : lw_okq (⟨"PolicyDeskModel", "put", "(I)V"⟩, 32) := ⟨⟨by decide +kernel, by decide +kernel⟩, List.mem_of_getElem? (i := 925) (by decide +kernel), List.mem_of_getElem? (i := 1160) (by decide +kernel), List.mem_of_getElem? (i := 1161) (by decide +kernel)⟩
theorem lw_p49 : lw_okq (⟨"PolicyDeskModel", "classNumber", "(I)I"⟩, 32) := ⟨⟨by decide +kernel, by decide +kernel⟩, List.mem_of_getElem? (i := 925) (by decide +kernel), List.mem_of_getElem? (i := 1164) (by decide +kernel), List.mem_of_getElem? (i := 1165) (by decide +kernel)⟩
theorem lw_p50 : lw_okq (⟨"PolicyDeskModel", "maskOf", "(III)I"⟩, 32) := ⟨⟨by decide +kernel, by decide +kernel⟩, List.mem_of_getElem? (i := 925) (by decide +kernel), List.mem_of_getElem? (i := 1168) (by decide +kernel), List.mem_of_getElem? (i := 1169) (by decide +kernel)⟩
theorem lw_p51 : lw_okq (⟨"PolicyDeskModel", "typeNumber", "(I)I"⟩, 32) := ⟨⟨by decide +kernel, by decide +kernel⟩, List.mem_of_getElem? (i := 925) (by decide +kernel), List.mem_of_getElem? (i := 1172) (by decide +kernel), List.mem_of_getElem? (i := 1173) (by decide +kernel)⟩
theorem lw_p52 : lw_okq (⟨"PolicyDeskModel", "isThere", "(III)Z"⟩, 32) := ⟨⟨by decide +kernel, by decide +kernel⟩, List.mem_of_getElem? (i := 925) (by decide +kernel), List.mem_of_getElem? (i := 1184) (by decide +kernel), List.mem_of_getElem? (i := 1185) (by decide +kernel)⟩
theorem lw_p53 : lw_okq (⟨"PolicyDeskModel", "worked", "(III)I"⟩, 32) := ⟨⟨by decide +kernel, by decide +kernel⟩, List.mem_of_getElem? (i := 925) (by decide +kernel), List.mem_of_getElem? (i := 1188) (by decide +kernel), List.mem_of_getElem? (i := 1189) (by decide +kernel)⟩
theorem lw_p54 : lw_okq (⟨"PolicyDeskModel", "flows", "(II)Z"⟩, 32) := ⟨⟨by decide +kernel, by decide +kernel⟩, List.mem_of_getElem? (i := 925) (by decide +kernel), List.mem_of_getElem? (i := 1200) (by decide +kernel), List.mem_of_getElem? (i := 1201) (by decide +kernel)⟩
theorem lw_p55 : lw_okq (⟨"PolicyDeskModel", "say", "(I)V"⟩, 32) := ⟨⟨by decide +kernel, by decide +kernel⟩, List.mem_of_getElem? (i := 925) (by decide +kernel), List.mem_of_getElem? (i := 1212) (by decide +kernel), List.mem_of_getElem? (i := 1213) (by decide +kernel)⟩
theorem lw_p56 : lw_okq (⟨"PolicyDeskModel", "wellFormed", "()Z"⟩, 32) := ⟨⟨by decide +kernel, by decide +kernel⟩, List.mem_of_getElem? (i := 925) (by decide +kernel), List.mem_of_getElem? (i := 1228) (by decide +kernel), List.mem_of_getElem? (i := 1229) (by decide +kernel)⟩
def lw_privs_4 : List (MethodName × Nat) := [(⟨"PolicyDeskModel", "put", "(I)V"⟩, 32), (⟨"PolicyDeskModel", "classNumber", "(I)I"⟩, 32), (⟨"PolicyDeskModel", "maskOf", "(III)I"⟩, 32), (⟨"PolicyDeskModel", "typeNumber", "(I)I"⟩, 32), (⟨"PolicyDeskModel", "isThere", "(III)Z"⟩, 32), (⟨"PolicyDeskModel", "worked", "(III)I"⟩, 32), (⟨"PolicyDeskModel", "flows", "(II)Z"⟩, 32), (⟨"PolicyDeskModel", "say", "(I)V"⟩, 32), (⟨"PolicyDeskModel", "wellFormed", "()Z"⟩, 32)]
theorem lw_r4 : ∀ q ∈ lw_privs_4, lw_okq q := List.forall_mem_cons.mpr ⟨lw_p48, List.forall_mem_cons.mpr ⟨lw_p49, List.forall_mem_cons.mpr ⟨lw_p50, List.forall_mem_cons.mpr ⟨lw_p51, List.forall_mem_cons.mpr ⟨lw_p52, List.forall_mem_cons.mpr ⟨lw_p53, List.forall_mem_cons.mpr ⟨lw_p54, List.forall_mem_cons.mpr ⟨lw_p55, List.forall_mem_cons.mpr ⟨lw_p56, fun _ h => absurd h List.not_mem_nil⟩⟩⟩⟩⟩⟩⟩⟩⟩
def lw_privs : List (MethodName × Nat) := lw_privs_1 ++ (lw_privs_2 ++ (lw_privs_3 ++ (lw_privs_4)))
def lw_tbl : List Cond := k2_sels lw_privs ++ tables_1
theorem lw_privs_ok : ∀ q ∈ lw_privs, lw_okq q := by
  show ∀ q ∈ lw_privs_1 ++ (lw_privs_2 ++ (lw_privs_3 ++ (lw_privs_4))), lw_okq q
  exact List.forall_mem_append.mpr ⟨lw_r1, List.forall_mem_append.mpr ⟨lw_r2, List.forall_mem_append.mpr ⟨lw_r3, lw_r4⟩⟩⟩
-- ===== end of PART A; then your names; then what follows =====
end
section
/-! ===== BEGIN words of one list among another's, by their places ===== -/
theorem goodIn_r {big : List Cond} (ws : List Cond) (ps : List Nat) (hp : ws = ps.filterMap (fun i => big[i]?)) (h : ws.all goodWord = true) : GoodIn big ws := by
  intro w hw
  have h1 := List.all_eq_true.mp h w hw
  rw [hp] at hw
  obtain ⟨i, -, hi⟩ := List.mem_filterMap.mp hw
  have hm : w ∈ big := by first | exact List.mem_of_getElem? hi | exact List.getElem?_mem hi
  exact ⟨hm, good_of_word h1⟩
theorem goodIn_app {big a b : List Cond} (ha : GoodIn big a) (hb : GoodIn big b) : GoodIn big (a ++ b) := fun w h => (List.mem_append.mp h).elim (ha w) (hb w)
theorem goodIn_ca {big a b : List Cond} {c : Cond} (ha : GoodIn big (c :: a)) (hb : GoodIn big b) : GoodIn big (c :: (a ++ b)) := fun w h => (List.mem_cons.mp h).elim (fun e => ha w (List.mem_cons.mpr (Or.inl e))) (fun h => (List.mem_append.mp h).elim (fun h => ha w (List.mem_cons.mpr (Or.inr h))) (hb w))
theorem goodIn_sub {big ws : List Cond} (hm : ∀ w ∈ ws, w ∈ big) (h : ws.all goodWord = true) : GoodIn big ws := fun w hw => ⟨hm w hw, good_of_word (List.all_eq_true.mp h w hw)⟩
/-! ===== END ===== -/

/-! ===== BEGIN exceptions that leave a method, and their catching by the caller (launches without stack traces) ===== -/
section VXA
/-! The laws vx_back, vx_callV, vx_callS, vx_callSW, vx_throw0, vx_throwS follow proofs of the library, with one case more: JvmDerived/Free/Laws.lean (Back.of_free), Shelf42/LK1.lean (callV, callS), Shelf/KitTraced.lean (throwNew0V, throwNewS). -/
/-- where a method has thrown q: the class by its name, the cell, what was written, the world -/
def vx_T (XC : String → State → State → Prop) (st : State) (q : Addr) (t : State) (mc ms : Nat) (free : Addr → Prop) : Prop :=
  ∃ (E : String) (ce : Cell) (L : List Loc), XC E st t ∧ t.heap[q]? = some ce ∧ ce.vm = .none ∧ st.vm.findClass E = some ce.cls ∧ st.WarmedH t.vm ∧ st.sameButNew ({ t with vm := st.vm } : State) L mc ms ∧ ∀ z ∈ L, free z.base
def vx_Q (Qc : Array Value → State → Outcome → State → Prop) (XC : String → State → State → Prop) (mc ms : Nat) (free : Addr → Prop) : Array Value → State → Outcome → State → Prop := fun a st o t =>
  (Qc a st o t ∧ ∃ L, FrameEnd st o t L mc ms ∧ ∀ q ∈ L, free q.base) ∨ ∃ q, o = .threw q ∧ vx_T XC st q t mc ms free
/-- a callee that returns or throws -/
def vx_Met (l : Launch) (y : MethodName) (ws : List Cond) (rm : Room) (Pc : Array Value → State → Prop) (Qc : Array Value → State → Outcome → State → Prop) (XC : String → State → State → Prop) (mc ms : Nat) (free : Addr → Prop) : Prop :=
  MetFree l y (headSpec ws rm) Pc (fun _ _ _ _ _ => True) (vx_Q Qc XC mc ms free)
def vx_Post (XC : String → State → State → Prop) (mc ms : Nat) (free : Addr → Prop) : Pt → Array Value → Addr → Pt → Prop := fun A a q B =>
  ∃ (g : JFrame) (mk : MethodId) (t : State) (L : List Loc) (E : String) (ce : Cell), B.U.heap = t.heap ∧ B.U.vm = t.vm ∧ XC E (A.U.calling g mk a) t ∧ t.heap[q]? = some ce ∧ ce.vm = .none ∧ A.U.vm.findClass E = some ce.cls ∧ B.locs = A.locs ++ L ∧ (∀ z ∈ L, free z.base) ∧ B.cells = A.cells + mc ∧ B.slots = A.slots + ms
def vx_Back (l : Launch) (R : Room) (p : Program) (e : Env) (below : List Frame) (s : State) (sargs : Array Value) (y : MethodName) (len W9 : Nat)
    (Pre : Pt → Array Value → Prop) (Post : Pt → Array Value → Option Value → Pt → Prop) (PostX : Pt → Array Value → Addr → Pt → Prop) : Prop :=
  ∀ (m : MethodId) (meth : Method) (c : Code) (A : Pt) (g : JFrame) (ig : Instr) (mk : MethodId) (a : Array Value),
    Stand p l e R s m sargs below meth c A.U A.locs A.cells A.slots → g.method = m → g.locals.size = c.maxLocals → decode c.code g.pc = .ok (ig, len) →
    2 * g.monitorRoom + (g.stack.map fun v => v.category).sum ≤ W9 → A.U.methodNamed? y = some mk → Pre A a →
    (∃ (v : Option Value) (B : Pt), Stand p l e R s m sargs below meth c B.U B.locs B.cells B.slots ∧ Post A a v B ∧
      Steps p.tables e below (doInvoke e (A.U.setTop g) [] mk a).1 (B.U.setTop { g with pc := g.pc + len, stack := v.toList ++ g.stack })) ∨
    (∃ (q : Addr) (B : Pt), Stand p l e R s m sargs below meth c B.U B.locs B.cells B.slots ∧ PostX A a q B ∧
      Steps p.tables e below (doInvoke e (A.U.setTop g) [] mk a).1 ((B.U.setTop g).pushFrame (.throwing q)))
section Payer
variable {l : Launch} {R : Room} {p : Program} {e : Env} {below : List Frame} {s : State} {sargs : Array Value} {y : MethodName} {len W9 : Nat}
theorem vx_back {ws : List Cond} {rm : Room} {Pc : Array Value → State → Prop} {Qc : Array Value → State → Outcome → State → Prop} {XC : String → State → State → Prop} {mc ms : Nat} {free : Addr → Prop} {bytes : ByteArray} {maxL : Nat} {ret : Option FieldType}
    (hM : vx_Met l y ws rm Pc Qc XC mc ms free) (hblind : FrameBlind Pc) (hrc : rm.cells = mc) (hrs : rm.slots = ms)
    (hframes : rm.frames + 1 ≤ R.frames) (hlocals : W9 + (maxL + 11) + rm.locals ≤ R.locals)
    (hws : ∀ w ∈ ws, ∀ a' U, s.WarmedH U.vm → w.before a' U = true) (hcode : Cond.code y bytes maxL ret ∈ ws) (hinit : ∀ a' U, s.WarmedH U.vm → (Cond.initialized y.cls).before a' U = true) :
    vx_Back l R p e below s sargs y len W9 (PreOf R mc ms Pc) (PostOf Qc mc ms free) (vx_Post XC mc ms free) := by
  intro m meth c A g ig mk a X hg hsize hdg hW hn hp
  have h1 : (headSpec ws rm).pre.before a A.U = true := atoms_intro fun w hw => hws w hw _ _ X.warmed
  have h2 : (Cond.code y bytes maxL ret).before a A.U = true := hws _ hcode _ _ X.warmed
  have h3 : (Cond.initialized y.cls).before a A.U = true := hinit _ _ X.warmed
  have h4 : A.cells + (headSpec ws rm).room.cells ≤ R.cells := by rw [show (headSpec ws rm).room.cells = mc from hrc]; exact hp.1
  have h5 : A.slots + (headSpec ws rm).room.slots ≤ R.slots := by rw [show (headSpec ws rm).room.slots = ms from hrs]; exact hp.2.1
  have hPc : Pc a (A.U.calling g mk a) := hblind _ _ _ _ hp.2.2
  obtain ⟨U, Ls, c0, s0⟩ := A
  dsimp only [Pt.U, Pt.locs, Pt.cells, Pt.slots] at h1 h2 h3 h4 h5 X hn hPc ⊢
  obtain ⟨methY, cY, hmY, hcY, -, hlY, -, -, -, -⟩ := Cond.code_spec hn h2
  obtain ⟨kY, hkY, -⟩ := className_of_methodNamed hn
  have hinitY : kY.init = .initialized := Cond.initialized_spec (findClass_of_methodNamed hn) hkY h3
  have h : At U g.method c below := by rw [hg]; exact X.here
  have hlocals9 : W9 + (maxL + 11) + (headSpec ws rm).room.locals ≤ R.locals := hlocals
  have happ : (headSpec ws rm).appliesLoose y e.platform (U.calling g mk a) = true :=
    Spec.appliesLoose_calling (g := g) h hdg hn hkY hinitY
      (X.room_calling (g := g) (R' := (headSpec ws rm).room) hsize hmY hcY hframes (by rw [hlY]; omega) h4 h5) h1
  obtain ⟨mid, hmid⟩ := h.above
  have hfr : (U.setTop g).frames = (.java g :: mid) ++ below := by rw [State.frames_setTop' g h.top, hmid]; rfl
  obtain ⟨o, s₂, hsteps, -, hend, hq⟩ := Steps.callFree hM p X.admits X.cas X.clock (acts := []) hfr happ hPc trivial
  have hq' : vx_Q Qc XC mc ms free a (U.calling g mk a) o s₂ := hq
  rw [State.frames_setTop' g h.top] at hend
  obtain ⟨g₀, hg0⟩ := Option.isSome_iff_exists.mp h.top
  obtain ⟨r, hr⟩ := State.topJava?_eq_some.mp hg0
  have hr' : (({ U with heap := s₂.heap, slotsUsed := s₂.slotsUsed } : State).setVm s₂.vm).frames = .java g₀ :: r := hr
  rcases hq' with ⟨hqc, L, hfe, hL⟩ | ⟨q, rfl, E, ce, L, hx, hce, hcv, hcl, hW₂, hsm, hL⟩
  · obtain ⟨⟨v, rfl⟩, hW₂, e2, q2, q3, q4, q5, q6⟩ := id hfe
    have e3 : s₂ = ({ (U.calling g mk a).setFrames s₂.frames with heap := s₂.heap, slotsUsed := s₂.slotsUsed } : State).setVm s₂.vm := by
      have : s₂ = ({ s₂ with vm := (U.calling g mk a).vm } : State).setVm s₂.vm := rfl
      rw [e2] at this
      exact this
    obtain ⟨c₂, i₂, len₂, hc₂, hd₂, hf₂⟩ := hend
    have hW' : U.WarmedH s₂.vm := hW₂
    have hcc : c₂ = c := by
      have h1 : s₂.code? g.method = U.code? g.method := by
        rw [State.code?_eq, State.code?_eq, hW'.alike.method?]
      exact Option.some.inj (hc₂.symm.trans (h1.trans h.code))
    subst hcc
    have hlen : len₂ = len := by rw [hdg] at hd₂; cases hd₂; rfl
    subst hlen
    have hs₂ : s₂ = (({ U with heap := s₂.heap, slotsUsed := s₂.slotsUsed } : State).setVm s₂.vm).setTop { g with pc := g.pc + len₂, stack := v.toList ++ g.stack } := by
      refine e3.trans ?_
      rw [hf₂, State.calling_eq h.top, State.setFrames_setFrames, State.setTop_of_frames _ hr', hr]
      rfl
    have hsame : U.sameButNew ({ U with heap := s₂.heap, slotsUsed := s₂.slotsUsed } : State) L mc ms := by
      refine ⟨?_, q2, q3, q4, q5, q6⟩
      obtain ⟨t, ht, -⟩ := State.frames_cons hr
      show ({ U with heap := s₂.heap, slotsUsed := s₂.slotsUsed } : State) = { U.setFrames U.frames with heap := s₂.heap, slotsUsed := s₂.slotsUsed }
      rw [State.setFrames_self ht]
    subst hg
    refine Or.inl ⟨v, ⟨(({ U with heap := s₂.heap, slotsUsed := s₂.slotsUsed } : State).setVm s₂.vm), Ls ++ L, c0 + mc, s0 + ms⟩,
      ⟨X.admits, X.cas, X.clock, X.frames, X.room, X.hears, X.method, X.code, (X.here.setHeapUsed s₂.heap s₂.slotsUsed).setVm hW'.alike, X.tail, State.WarmedH.trans X.warmed hW', X.limits, X.bytes, X.same.trans (hsame.setVm s.vm)⟩,
      ⟨g, mk, s₂, L, rfl, rfl, hqc, rfl, hL, rfl, rfl⟩, ?_⟩
    show Steps p.tables e below _ ((({ U with heap := s₂.heap, slotsUsed := s₂.slotsUsed } : State).setVm s₂.vm).setTop { g with pc := g.pc + len₂, stack := v.toList ++ g.stack })
    rw [← hs₂]
    exact hsteps
  · obtain ⟨e2, q2, q3, q4, q5, q6⟩ := id hsm
    have e3 : s₂ = ({ (U.calling g mk a).setFrames s₂.frames with heap := s₂.heap, slotsUsed := s₂.slotsUsed } : State).setVm s₂.vm := by
      have : s₂ = ({ s₂ with vm := (U.calling g mk a).vm } : State).setVm s₂.vm := rfl
      rw [e2] at this
      exact this
    have hf₂ : s₂.frames = .throwing q :: .java g :: U.frames.tail := hend
    have hW' : U.WarmedH s₂.vm := hW₂
    have hs₂ : s₂ = ((({ U with heap := s₂.heap, slotsUsed := s₂.slotsUsed } : State).setVm s₂.vm).setTop g).pushFrame (.throwing q) := by
      refine e3.trans ?_
      rw [hf₂, State.calling_eq h.top, State.setFrames_setFrames, State.pushFrame, State.frames_setTop _ hr', State.setTop_of_frames _ hr', State.setFrames_setFrames, hr]
      rfl
    have hsame : U.sameButNew ({ U with heap := s₂.heap, slotsUsed := s₂.slotsUsed } : State) L mc ms := by
      refine ⟨?_, q2, q3, q4, q5, q6⟩
      obtain ⟨t, ht, -⟩ := State.frames_cons hr
      show ({ U with heap := s₂.heap, slotsUsed := s₂.slotsUsed } : State) = { U.setFrames U.frames with heap := s₂.heap, slotsUsed := s₂.slotsUsed }
      rw [State.setFrames_self ht]
    subst hg
    refine Or.inr ⟨q, ⟨(({ U with heap := s₂.heap, slotsUsed := s₂.slotsUsed } : State).setVm s₂.vm), Ls ++ L, c0 + mc, s0 + ms⟩,
      ⟨X.admits, X.cas, X.clock, X.frames, X.room, X.hears, X.method, X.code, (X.here.setHeapUsed s₂.heap s₂.slotsUsed).setVm hW'.alike, X.tail, State.WarmedH.trans X.warmed hW', X.limits, X.bytes, X.same.trans (hsame.setVm s.vm)⟩,
      ⟨g, mk, s₂, L, E, ce, rfl, rfl, hx, hce, hcv, hcl, rfl, hL, rfl, rfl⟩, ?_⟩
    show Steps p.tables e below _ (((({ U with heap := s₂.heap, slotsUsed := s₂.slotsUsed } : State).setVm s₂.vm).setTop g).pushFrame (.throwing q))
    rw [← hs₂]
    exact hsteps
end Payer
section Calls
variable {p : Program} {l : Launch} {e : Env} {R : Room} {s : State} {m : MethodId} {args : Array Value} {below : List Frame} {meth : Method} {c : Code} {T : State} {locs : List Loc} {cells slots : Nat}
theorem vx_callV (X : Stand p l e R s m args below meth c T locs cells slots) (hexec : p.tables.exec = Jvm.exec) {own C : String} {index : Nat} {y : MethodName} {bytes : ByteArray} {maxL : Nat} {ret : Option FieldType}
    (hown : s.vm.findClass own = some m.cls) (hlink : (Cond.methodLink own index y).before args s = true) (hinst : (Cond.instanceMethod y).before args s = true) (hsel : (Cond.selects C y y).before args s = true)
    (hcode : (Cond.code y bytes maxL ret).before args s = true) (hy : y.cls ≠ "java/lang/invoke/MethodHandle" ∧ y.cls ≠ "java/lang/invoke/VarHandle")
    {W9 : Nat} {Pre : Pt → Array Value → Prop} {Post : Pt → Array Value → Option Value → Pt → Prop} {PostX : Pt → Array Value → Addr → Pt → Prop} (hK : vx_Back l R p e below s args y 3 W9 Pre Post PostX)
    {b : Addr} {cellB : Cell} (hcell : T.heap[b]? = some cellB) (hobj : cellB.vm.isStatics = false) (hcls : s.vm.findClass C = some cellB.cls)
    {g : JFrame} (hg : g.method = m) (hsize : g.locals.size = c.maxLocals) {argsL rest : List Value} (hlen : ∀ sig, parseMethodDescriptor y.desc = some sig → argsL.length = sig.parameters.length)
    (hstack : g.stack = argsL.reverse ++ .ref b :: rest) (hW : 2 * g.monitorRoom + (rest.map fun v => v.category).sum ≤ W9) (hdg : decode c.code g.pc = .ok (.invokevirtual index, 3))
    (hpre : ∀ vm₁, s.WarmedH vm₁ → Pre ⟨T.setVm vm₁, locs, cells, slots⟩ (Value.ref b :: argsL).toArray) :
    (∃ (v : Option Value) (vm₁ : Vm) (B : Pt), s.WarmedH vm₁ ∧ Stand p l e R s m args below meth c B.U B.locs B.cells B.slots ∧ Post ⟨T.setVm vm₁, locs, cells, slots⟩ (Value.ref b :: argsL).toArray v B ∧
      ∀ target, Steps p.tables e below (B.U.setTop { g with pc := g.pc + 3, stack := v.toList ++ rest }) target → Steps p.tables e below (T.setTop g) target) ∨
    (∃ (q : Addr) (vm₁ : Vm) (B : Pt), s.WarmedH vm₁ ∧ Stand p l e R s m args below meth c B.U B.locs B.cells B.slots ∧ PostX ⟨T.setVm vm₁, locs, cells, slots⟩ (Value.ref b :: argsL).toArray q B ∧
      Steps p.tables e below (T.setTop g) ((B.U.setTop { g with stack := rest }).pushFrame (.throwing q))) := by
  obtain ⟨mk, methM, hnamed, hmethM, hstM, habM⟩ := Cond.instanceMethod_spec hinst
  obtain ⟨methM', cM, hmethM', -, -, -, -, -, -, hsigM⟩ := Cond.code_spec hnamed hcode
  cases hmethM.symm.trans hmethM'
  obtain ⟨c2, r2, m2, q1, q2, q3, q4, kP, hkP, hkPi⟩ := Cond.selects_spec hsel
  cases hcls.symm.trans q1
  cases (State.methodFound?_of_named hnamed hy).symm.trans q2
  cases hnamed.symm.trans q3
  have hselP : selectMethod e.platform s.vm cellB.cls mk = .method mk := by rw [Launch.admits_selectMethod X.admits]; exact q4
  obtain ⟨vm₁, X₁, hstep₁⟩ := X.invokevirtual hexec hown hlink hnamed hmethM hstM hkP hkPi hy (a := b) (cell := cellB) hcell
    (fun z h => by rw [h] at hobj; cases hobj) hselP hmethM habM hkP hkPi (g := g) hg (argsL := argsL) (rest := rest) (hlen _ hsigM) hstack hdg
  rcases hK m meth c ⟨T.setVm vm₁, locs, cells, slots⟩ { g with stack := rest } (.invokevirtual index) mk (Value.ref b :: argsL).toArray X₁ hg hsize hdg hW (X₁.named hnamed) (hpre vm₁ X₁.warmed) with ⟨v, B, X', hpost, hsteps⟩ | ⟨q, B, X', hpost, hsteps⟩
  · exact Or.inl ⟨v, vm₁, B, X₁.warmed, X', hpost, fun target h => hstep₁ _ fun acts => by rw [doInvoke_state]; exact hsteps.trans h⟩
  · exact Or.inr ⟨q, vm₁, B, X₁.warmed, X', hpost, hstep₁ _ fun acts => by rw [doInvoke_state]; exact hsteps⟩
theorem vx_callS (X : Stand p l e R s m args below meth c T locs cells slots) (hexec : p.tables.exec = Jvm.exec) {own : String} {index : Nat} {y : MethodName} {bytes : ByteArray} {maxL : Nat} {ret : Option FieldType}
    (hown : s.vm.findClass own = some m.cls) (hlink : (Cond.methodLink own index y).before args s = true) (hstat : (Cond.static y).before args s = true) (hinit : (Cond.initialized y.cls).before args s = true)
    (hcode : (Cond.code y bytes maxL ret).before args s = true) (hy : y.cls ≠ "java/lang/invoke/MethodHandle" ∧ y.cls ≠ "java/lang/invoke/VarHandle")
    {W9 : Nat} {Pre : Pt → Array Value → Prop} {Post : Pt → Array Value → Option Value → Pt → Prop} {PostX : Pt → Array Value → Addr → Pt → Prop} (hK : vx_Back l R p e below s args y 3 W9 Pre Post PostX)
    {g : JFrame} (hg : g.method = m) (hsize : g.locals.size = c.maxLocals) {argsL rest : List Value} (hlen : ∀ sig, parseMethodDescriptor y.desc = some sig → argsL.length = sig.parameters.length)
    (hstack : g.stack = argsL.reverse ++ rest) (hW : 2 * g.monitorRoom + (rest.map fun v => v.category).sum ≤ W9) (hdg : decode c.code g.pc = .ok (.invokestatic index, 3))
    (hpre : ∀ vm₁, s.WarmedH vm₁ → Pre ⟨T.setVm vm₁, locs, cells, slots⟩ argsL.toArray) :
    (∃ (v : Option Value) (vm₁ : Vm) (B : Pt), s.WarmedH vm₁ ∧ Stand p l e R s m args below meth c B.U B.locs B.cells B.slots ∧ Post ⟨T.setVm vm₁, locs, cells, slots⟩ argsL.toArray v B ∧
      ∀ target, Steps p.tables e below (B.U.setTop { g with pc := g.pc + 3, stack := v.toList ++ rest }) target → Steps p.tables e below (T.setTop g) target) ∨
    (∃ (q : Addr) (vm₁ : Vm) (B : Pt), s.WarmedH vm₁ ∧ Stand p l e R s m args below meth c B.U B.locs B.cells B.slots ∧ PostX ⟨T.setVm vm₁, locs, cells, slots⟩ argsL.toArray q B ∧
      Steps p.tables e below (T.setTop g) ((B.U.setTop { g with stack := rest }).pushFrame (.throwing q))) := by
  obtain ⟨mk, hnamed⟩ := Cond.code_named hcode
  obtain ⟨methM, cM, hmethM, -, -, -, -, -, -, hsigM⟩ := Cond.code_spec hnamed hcode
  have hstatic : methM.isStatic = true := Cond.static_spec hnamed hmethM hstat
  obtain ⟨kP, hkP, -⟩ := className_of_methodNamed hnamed
  have hinitP : kP.init = .initialized := Cond.initialized_spec (findClass_of_methodNamed hnamed) hkP hinit
  obtain ⟨vm₁, X₁, hstep₁⟩ := X.invokestatic hexec hown hlink hnamed hmethM hstatic hkP hinitP hy (g := g) hg (argsL := argsL) (rest := rest) (hlen _ hsigM) hstack hdg
  rcases hK m meth c ⟨T.setVm vm₁, locs, cells, slots⟩ { g with stack := rest } (.invokestatic index) mk argsL.toArray X₁ hg hsize hdg hW (X₁.named hnamed) (hpre vm₁ X₁.warmed) with ⟨v, B, X', hpost, hsteps⟩ | ⟨q, B, X', hpost, hsteps⟩
  · exact Or.inl ⟨v, vm₁, B, X₁.warmed, X', hpost, fun target h => hstep₁ _ fun acts => by rw [doInvoke_state]; exact hsteps.trans h⟩
  · exact Or.inr ⟨q, vm₁, B, X₁.warmed, X', hpost, hstep₁ _ fun acts => by rw [doInvoke_state]; exact hsteps⟩
end Calls
theorem vx_cls {s : State} {T : State} {vm₁ : Vm} {E : String} {k : ClassId} (hW : s.WarmedH vm₁) (h : (T.setVm vm₁).vm.findClass E = some k) : s.vm.findClass E = some k := by
  have h1 : vm₁.findClass E = some k := h
  rw [hW.alike.findClass] at h1
  exact h1
/-- the method's frame g, with q thrown over it -/
def vx_W (p : Program) (l : Launch) (e : Env) (R : Room) (s : State) (m : MethodId) (args : Array Value) (below : List Frame) (meth : Method) (c : Code) (H : Heap) (locs : List Loc) (cells slots : Nat) (Q : State → Prop) (g : JFrame) (q : Addr) : Prop :=
  ∀ T : State, T.heap = H → Stand p l e R s m args below meth c T locs cells slots → ∃ t, Steps p.tables e below ((T.setTop g).pushFrame (.throwing q)) t ∧ Q t
def vx_Run (p : Program) (l : Launch) (e : Env) (R : Room) (s : State) (m : MethodId) (args : Array Value) (below : List Frame) (meth : Method) (c : Code) (H : Heap) (locs : List Loc) (cells slots mc ms : Nat) (g : JFrame) (rest : List Value) (Qa : State → Outcome → State → Prop) (XC : String → State → State → Prop) (free : Addr → Prop) : Prop :=
  ∀ T : State, T.heap = H → Stand p l e R s m args below meth c T locs cells slots →
    (∃ (v : Option Value) (st₀ t T' : State) (L : List Loc), st₀.heap = H ∧ Stand p l e R s m args below meth c T' (locs ++ L) (cells + mc) (slots + ms) ∧ (∀ q ∈ L, free q.base) ∧ T'.heap = t.heap ∧ T'.vm = t.vm ∧ Qa st₀ (.returned v) t ∧
      Goes p e below T g T' { g with pc := g.pc + 3, stack := v.toList ++ rest }) ∨
    (∃ (q : Addr) (st₀ t T' : State) (L : List Loc) (E : String) (ce : Cell), st₀.heap = H ∧ Stand p l e R s m args below meth c T' (locs ++ L) (cells + mc) (slots + ms) ∧ (∀ z ∈ L, free z.base) ∧ T'.heap = t.heap ∧ T'.vm = t.vm ∧ XC E st₀ t ∧ t.heap[q]? = some ce ∧ ce.vm = .none ∧ s.vm.findClass E = some ce.cls ∧
      Steps p.tables e below (T.setTop g) ((T'.setTop { g with stack := rest }).pushFrame (.throwing q)))
def vx_X {S : Type} (px : S → Prop) (B : String → S → State → Prop) (A : Nat → Prop) : String → State → State → Prop := fun E st t => ∃ u : S, px u ∧ B E u t ∧ va_F A st t
section Runs
variable {p : Program} {l : Launch} {e : Env} {R : Room} {s : State} {m : MethodId} {args : Array Value} {below : List Frame} {meth : Method} {c : Code} {H : Heap} {locs : List Loc} {cells slots : Nat}
variable {y : MethodName} {bytes cc : ByteArray} {maxL nL mc ms n index : Nat} {ret : Option FieldType} {ws : List Cond} {rm : Room} {Pc : Array Value → State → Prop} {Qc : Array Value → State → Outcome → State → Prop} {XC : String → State → State → Prop} {free : Addr → Prop} {Ts : List Cond} {own C : String} {b : Addr} {As rest : List Value} {g : JFrame}
theorem vx_callBack (cb : CallB R s args own index y bytes maxL ret ws rm mc ms n) (hM : vx_Met l y ws rm Pc Qc XC mc ms free) (hbl : FrameBlind Pc) : vx_Back l R p e below s args y 3 8 (PreOf R mc ms Pc) (PostOf Qc mc ms free) (vx_Post XC mc ms free) := by
  obtain ⟨hrc, hrs, hfr, hlo, hws, hcw, -, hini, -⟩ := cb
  exact vx_back (bytes := bytes) (maxL := maxL) (ret := ret) hM hbl hrc hrs hfr hlo hws hcw (fun a' U hW => word_at hW (Or.inl (by first | rfl | simp [Cond.onTables, Cond.keeps, Cond.steady])) hini)
theorem vx_runV (S : CallFix p m c cc nL s args Ts own) (hM : vx_Met l y ws rm Pc Qc XC mc ms free) (cw : CallW R s args own C index y bytes maxL ret ws rm mc ms n) (hp : PreV s H C b Pc As)
    (hg : g.method = m) (hn : As.length = n) (hsize : g.locals.size = nL) (hstack : g.stack = As.reverse ++ .ref b :: rest) (hW : 2 * g.monitorRoom + (rest.map fun v => v.category).sum ≤ 8) (hdg : decode cc g.pc = .ok (.invokevirtual index, 3)) (hf : cells + mc ≤ R.cells ∧ slots + ms ≤ R.slots) :
    vx_Run p l e R s m args below meth c H locs cells slots mc ms g rest (Qc (Value.ref b :: As).toArray) XC free := by
  have hK : vx_Back l R p e below s args y 3 8 (PreOf R mc ms Pc) (PostOf Qc mc ms free) (vx_Post XC mc ms free) := vx_callBack cw.1 hM hp.1
  obtain ⟨⟨-, -, -, -, -, -, hcode, -, hy, hlen, hl⟩, hin, hse⟩ := cw
  obtain ⟨hx, hb, hml, ho, -⟩ := S
  obtain ⟨-, ⟨cellB, hcB, hoB, hclB⟩, hPc⟩ := hp
  intro T hT X
  rcases vx_callV X hx (C := C) (bytes := bytes) (maxL := maxL) (ret := ret) ho hl hin hse hcode hy hK (by rw [hT]; exact hcB) hoB hclB hg (hsize.trans hml.symm) (argsL := As) (rest := rest) (fun sig h => hn.trans (hlen sig h)) hstack hW (by rw [hb]; exact hdg)
    (fun vm₁ hW₁ => ⟨hf.1, hf.2, hPc (T.setVm vm₁) hT hW₁⟩) with ⟨v, vm₁, ⟨U', l2, c2, s2⟩, hW₁, X', ⟨g', mk, t, L, e1, e2, hq, h1, hL, h2, h3⟩, st⟩ | ⟨q, vm₁, ⟨U', l2, c2, s2⟩, hW₁, X', ⟨g', mk, t, L, E, ce, e1, e2, hq, hce, hcv, hcl, h1, hL, h2, h3⟩, st⟩
  · dsimp only [Pt.U, Pt.locs, Pt.cells, Pt.slots] at X' e1 e2 h1 h2 h3 st
    subst h1; subst h2; subst h3
    exact Or.inl ⟨v, (T.setVm vm₁).calling g' mk (Value.ref b :: As).toArray, t, U', L, hT, X', hL, e1, e2, hq, st⟩
  · dsimp only [Pt.U, Pt.locs, Pt.cells, Pt.slots] at X' e1 e2 h1 h2 h3 st hcl
    subst h1; subst h2; subst h3
    exact Or.inr ⟨q, (T.setVm vm₁).calling g' mk (Value.ref b :: As).toArray, t, U', L, E, ce, hT, X', hL, e1, e2, hq, hce, hcv, vx_cls hW₁ hcl, st⟩
theorem vx_runS (S : CallFix p m c cc nL s args Ts own) (hM : vx_Met l y ws rm Pc Qc XC mc ms free) (cw : CallB R s args own index y bytes maxL ret ws rm mc ms n ∧ (Cond.static y).before args s = true) (hp : PreS s H Pc As)
    (hg : g.method = m) (hn : As.length = n) (hsize : g.locals.size = nL) (hstack : g.stack = As.reverse ++ rest) (hW : 2 * g.monitorRoom + (rest.map fun v => v.category).sum ≤ 8) (hdg : decode cc g.pc = .ok (.invokestatic index, 3)) (hf : cells + mc ≤ R.cells ∧ slots + ms ≤ R.slots) :
    vx_Run p l e R s m args below meth c H locs cells slots mc ms g rest (Qc As.toArray) XC free := by
  have hK : vx_Back l R p e below s args y 3 8 (PreOf R mc ms Pc) (PostOf Qc mc ms free) (vx_Post XC mc ms free) := vx_callBack cw.1 hM hp.1
  obtain ⟨⟨-, -, -, -, -, -, hcode, hini, hy, hlen, hl⟩, hstt⟩ := cw
  obtain ⟨hx, hb, hml, ho, -⟩ := S
  intro T hT X
  rcases vx_callS X hx (bytes := bytes) (maxL := maxL) (ret := ret) ho hl hstt hini hcode hy hK hg (hsize.trans hml.symm) (argsL := As) (rest := rest) (fun sig h => hn.trans (hlen sig h)) hstack hW (by rw [hb]; exact hdg)
    (fun vm₁ hW₁ => ⟨hf.1, hf.2, hp.2 (T.setVm vm₁) hT hW₁⟩) with ⟨v, vm₁, ⟨U', l2, c2, s2⟩, hW₁, X', ⟨g', mk, t, L, e1, e2, hq, h1, hL, h2, h3⟩, st⟩ | ⟨q, vm₁, ⟨U', l2, c2, s2⟩, hW₁, X', ⟨g', mk, t, L, E, ce, e1, e2, hq, hce, hcv, hcl, h1, hL, h2, h3⟩, st⟩
  · dsimp only [Pt.U, Pt.locs, Pt.cells, Pt.slots] at X' e1 e2 h1 h2 h3 st
    subst h1; subst h2; subst h3
    exact Or.inl ⟨v, (T.setVm vm₁).calling g' mk As.toArray, t, U', L, hT, X', hL, e1, e2, hq, st⟩
  · dsimp only [Pt.U, Pt.locs, Pt.cells, Pt.slots] at X' e1 e2 h1 h2 h3 st hcl
    subst h1; subst h2; subst h3
    exact Or.inr ⟨q, (T.setVm vm₁).calling g' mk As.toArray, t, U', L, E, ce, hT, X', hL, e1, e2, hq, hce, hcv, vx_cls hW₁ hcl, st⟩
end Runs
section Rows
variable {p : Program} {l : Launch} {e : Env} {R : Room} {s : State} {m : MethodId} {args : Array Value} {below : List Frame} {meth : Method} {c : Code} {H : Heap} {locs : List Loc} {cells slots : Nat} {Q : State → Prop}
variable {mc ms : Nat} {free : Addr → Prop} {A0 A1 : Nat → Prop} {H0 : Heap} {a : Array Value} {pc : Nat} {ls : Array Slot} {st0 rest : List Value}
theorem vx_keep {st₀ t T' : State} {L : List Loc} (h0 : st₀.heap = H) (e1 : T'.heap = t.heap) (hS : va_S A0 H0 H locs) (hA : ∀ q, q < H.size → A1 q → A0 q) (hf : ∀ q, free q → A0 q) (hL : ∀ q ∈ L, free q.base) (hF : va_F A1 st₀ t) :
    H.size ≤ T'.heap.size ∧ (∀ q : Nat, q < H.size → ¬ A1 q → T'.heap[q]? = H[q]?) ∧ va_S A0 H0 T'.heap (locs ++ L) := by
  obtain ⟨hz, hk⟩ := hF
  rw [h0] at hz hk
  exact ⟨by rw [e1]; exact hz, fun q h1 h2 => by rw [e1]; exact hk q h1 h2,
    ⟨Nat.le_trans hS.1 (by rw [e1]; exact hz), fun q h1 h2 => by rw [e1, hk q (Nat.lt_of_lt_of_le h1 hS.1) (fun z => h2 (hA q (Nat.lt_of_lt_of_le h1 hS.1) z))]; exact hS.2.1 q h1 h2, fun q hq => by
      rcases List.mem_append.mp hq with h | h
      · exact hS.2.2 q h
      · exact hf _ (hL q h)⟩⟩
theorem vx_calli {S SX : Type} {post : Int32 → S → Prop} {px : SX → Prop} {B : S → State → Prop} {BX : String → SX → State → Prop} {AX : Nat → Prop} (hr : vx_Run p l e R s m args below meth c H locs cells slots mc ms (F0 m pc ls st0) rest (va_Qi post B A1 a) (vx_X px BX AX) free) (hS : va_S A0 H0 H locs) (hA : ∀ q, q < H.size → A1 q → A0 q) (hf : ∀ q, free q → A0 q) (hAX : ∀ q, q < H.size → AX q → A0 q)
    (kx : ∀ (E : String) (ce : Cell) (q9 : Addr) (u : SX) (t : State) (H1 : Heap) (locs1 : List Loc), t.heap = H1 → s.vm.Alike t.vm → px u → BX E u t → H.size ≤ H1.size → (∀ q : Nat, q < H.size → ¬ AX q → H1[q]? = H[q]?) → va_S A0 H0 H1 locs1 → H1[q9]? = some ce → ce.vm = .none → s.vm.findClass E = some ce.cls → vx_W p l e R s m args below meth c H1 locs1 (cells + mc) (slots + ms) Q (F0 m pc ls rest) q9)
    (kk : ∀ (r : Int32) (u : S) (t : State) (H1 : Heap) (locs1 : List Loc), t.heap = H1 → s.vm.Alike t.vm → post r u → B u t → H.size ≤ H1.size → (∀ q : Nat, q < H.size → ¬ A1 q → H1[q]? = H[q]?) → va_S A0 H0 H1 locs1 → W p l e R s m args below meth c H1 locs1 (cells + mc) (slots + ms) Q (F0 m (pc + 3) ls (.int r :: rest))) : W p l e R s m args below meth c H locs cells slots Q (F0 m pc ls st0) := by
  intro T hT X
  rcases hr T hT X with ⟨v, st₀, t, T', L, h0, X', hL, e1, e2, ⟨⟨r, u, hv, hp, hb⟩, hF⟩, st⟩ | ⟨q, st₀, t, T', L, E, ce, h0, X', hL, e1, e2, ⟨u, hp, hb, hF⟩, hce, hcv, hcl, st⟩
  · cases hv
    obtain ⟨k1, k2, k3⟩ := vx_keep h0 e1 hS hA hf hL hF
    obtain ⟨t2, a1, b1⟩ := kk r u t T'.heap (locs ++ L) e1.symm (by rw [← e2]; exact X'.warmed.alike) hp hb k1 k2 k3 T' rfl X'
    exact ⟨t2, st t2 a1, b1⟩
  · obtain ⟨k1, k2, k3⟩ := vx_keep h0 e1 hS hAX hf hL hF
    obtain ⟨t2, a1, b1⟩ := kx E ce q u t T'.heap (locs ++ L) e1.symm (by rw [← e2]; exact X'.warmed.alike) hp hb k1 k2 k3 (by rw [e1]; exact hce) hcv hcl T' rfl X'
    exact ⟨t2, st.trans a1, b1⟩
theorem vx_calll {S SX : Type} {post : Int64 → S → Prop} {px : SX → Prop} {B : S → State → Prop} {BX : String → SX → State → Prop} {AX : Nat → Prop} (hr : vx_Run p l e R s m args below meth c H locs cells slots mc ms (F0 m pc ls st0) rest (va_Ql post B A1 a) (vx_X px BX AX) free) (hS : va_S A0 H0 H locs) (hA : ∀ q, q < H.size → A1 q → A0 q) (hf : ∀ q, free q → A0 q) (hAX : ∀ q, q < H.size → AX q → A0 q)
    (kx : ∀ (E : String) (ce : Cell) (q9 : Addr) (u : SX) (t : State) (H1 : Heap) (locs1 : List Loc), t.heap = H1 → s.vm.Alike t.vm → px u → BX E u t → H.size ≤ H1.size → (∀ q : Nat, q < H.size → ¬ AX q → H1[q]? = H[q]?) → va_S A0 H0 H1 locs1 → H1[q9]? = some ce → ce.vm = .none → s.vm.findClass E = some ce.cls → vx_W p l e R s m args below meth c H1 locs1 (cells + mc) (slots + ms) Q (F0 m pc ls rest) q9)
    (kk : ∀ (r : Int64) (u : S) (t : State) (H1 : Heap) (locs1 : List Loc), t.heap = H1 → s.vm.Alike t.vm → post r u → B u t → H.size ≤ H1.size → (∀ q : Nat, q < H.size → ¬ A1 q → H1[q]? = H[q]?) → va_S A0 H0 H1 locs1 → W p l e R s m args below meth c H1 locs1 (cells + mc) (slots + ms) Q (F0 m (pc + 3) ls (.long r :: rest))) : W p l e R s m args below meth c H locs cells slots Q (F0 m pc ls st0) := by
  intro T hT X
  rcases hr T hT X with ⟨v, st₀, t, T', L, h0, X', hL, e1, e2, ⟨⟨r, u, hv, hp, hb⟩, hF⟩, st⟩ | ⟨q, st₀, t, T', L, E, ce, h0, X', hL, e1, e2, ⟨u, hp, hb, hF⟩, hce, hcv, hcl, st⟩
  · cases hv
    obtain ⟨k1, k2, k3⟩ := vx_keep h0 e1 hS hA hf hL hF
    obtain ⟨t2, a1, b1⟩ := kk r u t T'.heap (locs ++ L) e1.symm (by rw [← e2]; exact X'.warmed.alike) hp hb k1 k2 k3 T' rfl X'
    exact ⟨t2, st t2 a1, b1⟩
  · obtain ⟨k1, k2, k3⟩ := vx_keep h0 e1 hS hAX hf hL hF
    obtain ⟨t2, a1, b1⟩ := kx E ce q u t T'.heap (locs ++ L) e1.symm (by rw [← e2]; exact X'.warmed.alike) hp hb k1 k2 k3 (by rw [e1]; exact hce) hcv hcl T' rfl X'
    exact ⟨t2, st.trans a1, b1⟩
theorem vx_callf {S SX : Type} {post : UInt32 → S → Prop} {px : SX → Prop} {B : S → State → Prop} {BX : String → SX → State → Prop} {AX : Nat → Prop} (hr : vx_Run p l e R s m args below meth c H locs cells slots mc ms (F0 m pc ls st0) rest (va_Qf post B A1 a) (vx_X px BX AX) free) (hS : va_S A0 H0 H locs) (hA : ∀ q, q < H.size → A1 q → A0 q) (hf : ∀ q, free q → A0 q) (hAX : ∀ q, q < H.size → AX q → A0 q)
    (kx : ∀ (E : String) (ce : Cell) (q9 : Addr) (u : SX) (t : State) (H1 : Heap) (locs1 : List Loc), t.heap = H1 → s.vm.Alike t.vm → px u → BX E u t → H.size ≤ H1.size → (∀ q : Nat, q < H.size → ¬ AX q → H1[q]? = H[q]?) → va_S A0 H0 H1 locs1 → H1[q9]? = some ce → ce.vm = .none → s.vm.findClass E = some ce.cls → vx_W p l e R s m args below meth c H1 locs1 (cells + mc) (slots + ms) Q (F0 m pc ls rest) q9)
    (kk : ∀ (r : UInt32) (u : S) (t : State) (H1 : Heap) (locs1 : List Loc), t.heap = H1 → s.vm.Alike t.vm → post r u → B u t → H.size ≤ H1.size → (∀ q : Nat, q < H.size → ¬ A1 q → H1[q]? = H[q]?) → va_S A0 H0 H1 locs1 → W p l e R s m args below meth c H1 locs1 (cells + mc) (slots + ms) Q (F0 m (pc + 3) ls (.float r :: rest))) : W p l e R s m args below meth c H locs cells slots Q (F0 m pc ls st0) := by
  intro T hT X
  rcases hr T hT X with ⟨v, st₀, t, T', L, h0, X', hL, e1, e2, ⟨⟨r, u, hv, hp, hb⟩, hF⟩, st⟩ | ⟨q, st₀, t, T', L, E, ce, h0, X', hL, e1, e2, ⟨u, hp, hb, hF⟩, hce, hcv, hcl, st⟩
  · cases hv
    obtain ⟨k1, k2, k3⟩ := vx_keep h0 e1 hS hA hf hL hF
    obtain ⟨t2, a1, b1⟩ := kk r u t T'.heap (locs ++ L) e1.symm (by rw [← e2]; exact X'.warmed.alike) hp hb k1 k2 k3 T' rfl X'
    exact ⟨t2, st t2 a1, b1⟩
  · obtain ⟨k1, k2, k3⟩ := vx_keep h0 e1 hS hAX hf hL hF
    obtain ⟨t2, a1, b1⟩ := kx E ce q u t T'.heap (locs ++ L) e1.symm (by rw [← e2]; exact X'.warmed.alike) hp hb k1 k2 k3 (by rw [e1]; exact hce) hcv hcl T' rfl X'
    exact ⟨t2, st.trans a1, b1⟩
theorem vx_calld {S SX : Type} {post : UInt64 → S → Prop} {px : SX → Prop} {B : S → State → Prop} {BX : String → SX → State → Prop} {AX : Nat → Prop} (hr : vx_Run p l e R s m args below meth c H locs cells slots mc ms (F0 m pc ls st0) rest (va_Qd post B A1 a) (vx_X px BX AX) free) (hS : va_S A0 H0 H locs) (hA : ∀ q, q < H.size → A1 q → A0 q) (hf : ∀ q, free q → A0 q) (hAX : ∀ q, q < H.size → AX q → A0 q)
    (kx : ∀ (E : String) (ce : Cell) (q9 : Addr) (u : SX) (t : State) (H1 : Heap) (locs1 : List Loc), t.heap = H1 → s.vm.Alike t.vm → px u → BX E u t → H.size ≤ H1.size → (∀ q : Nat, q < H.size → ¬ AX q → H1[q]? = H[q]?) → va_S A0 H0 H1 locs1 → H1[q9]? = some ce → ce.vm = .none → s.vm.findClass E = some ce.cls → vx_W p l e R s m args below meth c H1 locs1 (cells + mc) (slots + ms) Q (F0 m pc ls rest) q9)
    (kk : ∀ (r : UInt64) (u : S) (t : State) (H1 : Heap) (locs1 : List Loc), t.heap = H1 → s.vm.Alike t.vm → post r u → B u t → H.size ≤ H1.size → (∀ q : Nat, q < H.size → ¬ A1 q → H1[q]? = H[q]?) → va_S A0 H0 H1 locs1 → W p l e R s m args below meth c H1 locs1 (cells + mc) (slots + ms) Q (F0 m (pc + 3) ls (.double r :: rest))) : W p l e R s m args below meth c H locs cells slots Q (F0 m pc ls st0) := by
  intro T hT X
  rcases hr T hT X with ⟨v, st₀, t, T', L, h0, X', hL, e1, e2, ⟨⟨r, u, hv, hp, hb⟩, hF⟩, st⟩ | ⟨q, st₀, t, T', L, E, ce, h0, X', hL, e1, e2, ⟨u, hp, hb, hF⟩, hce, hcv, hcl, st⟩
  · cases hv
    obtain ⟨k1, k2, k3⟩ := vx_keep h0 e1 hS hA hf hL hF
    obtain ⟨t2, a1, b1⟩ := kk r u t T'.heap (locs ++ L) e1.symm (by rw [← e2]; exact X'.warmed.alike) hp hb k1 k2 k3 T' rfl X'
    exact ⟨t2, st t2 a1, b1⟩
  · obtain ⟨k1, k2, k3⟩ := vx_keep h0 e1 hS hAX hf hL hF
    obtain ⟨t2, a1, b1⟩ := kx E ce q u t T'.heap (locs ++ L) e1.symm (by rw [← e2]; exact X'.warmed.alike) hp hb k1 k2 k3 (by rw [e1]; exact hce) hcv hcl T' rfl X'
    exact ⟨t2, st.trans a1, b1⟩
theorem vx_callv {S SX : Type} {post : S → Prop} {px : SX → Prop} {B : S → State → Prop} {BX : String → SX → State → Prop} {AX : Nat → Prop} (hr : vx_Run p l e R s m args below meth c H locs cells slots mc ms (F0 m pc ls st0) rest (va_Qv post B A1 a) (vx_X px BX AX) free) (hS : va_S A0 H0 H locs) (hA : ∀ q, q < H.size → A1 q → A0 q) (hf : ∀ q, free q → A0 q) (hAX : ∀ q, q < H.size → AX q → A0 q)
    (kx : ∀ (E : String) (ce : Cell) (q9 : Addr) (u : SX) (t : State) (H1 : Heap) (locs1 : List Loc), t.heap = H1 → s.vm.Alike t.vm → px u → BX E u t → H.size ≤ H1.size → (∀ q : Nat, q < H.size → ¬ AX q → H1[q]? = H[q]?) → va_S A0 H0 H1 locs1 → H1[q9]? = some ce → ce.vm = .none → s.vm.findClass E = some ce.cls → vx_W p l e R s m args below meth c H1 locs1 (cells + mc) (slots + ms) Q (F0 m pc ls rest) q9)
    (kk : ∀ (u : S) (t : State) (H1 : Heap) (locs1 : List Loc), t.heap = H1 → s.vm.Alike t.vm → post u → B u t → H.size ≤ H1.size → (∀ q : Nat, q < H.size → ¬ A1 q → H1[q]? = H[q]?) → va_S A0 H0 H1 locs1 → W p l e R s m args below meth c H1 locs1 (cells + mc) (slots + ms) Q (F0 m (pc + 3) ls (rest))) : W p l e R s m args below meth c H locs cells slots Q (F0 m pc ls st0) := by
  intro T hT X
  rcases hr T hT X with ⟨v, st₀, t, T', L, h0, X', hL, e1, e2, ⟨⟨u, hv, hp, hb⟩, hF⟩, st⟩ | ⟨q, st₀, t, T', L, E, ce, h0, X', hL, e1, e2, ⟨u, hp, hb, hF⟩, hce, hcv, hcl, st⟩
  · cases hv
    obtain ⟨k1, k2, k3⟩ := vx_keep h0 e1 hS hA hf hL hF
    obtain ⟨t2, a1, b1⟩ := kk u t T'.heap (locs ++ L) e1.symm (by rw [← e2]; exact X'.warmed.alike) hp hb k1 k2 k3 T' rfl X'
    exact ⟨t2, st t2 a1, b1⟩
  · obtain ⟨k1, k2, k3⟩ := vx_keep h0 e1 hS hAX hf hL hF
    obtain ⟨t2, a1, b1⟩ := kx E ce q u t T'.heap (locs ++ L) e1.symm (by rw [← e2]; exact X'.warmed.alike) hp hb k1 k2 k3 (by rw [e1]; exact hce) hcv hcl T' rfl X'
    exact ⟨t2, st.trans a1, b1⟩
end Rows
section Ends
variable {p : Program} {l : Launch} {e : Env} {R : Room} {s : State} {m : MethodId} {args : Array Value} {below : List Frame} {meth : Method} {c : Code} {H : Heap} {locs : List Loc} {cells slots : Nat} {Q : State → Prop}
variable {mc ms : Nat} {free : Addr → Prop} {A0 A1 : Nat → Prop} {H0 : Heap} {a : Array Value} {ls : Array Slot} {st0 rest : List Value}
variable {Qc : Array Value → State → Outcome → State → Prop} {XC : String → State → State → Prop}
/-- what a body that may throw owes at its end -/
def vx_MQ (below : List Frame) (Qc : Array Value → State → Outcome → State → Prop) (XC : String → State → State → Prop) (a : Array Value) (s : State) (mc ms : Nat) (free : Addr → Prop) : State → Prop := fun t =>
  ∃ o, t.status = .running ∧ Ended t below o ∧ vx_Q Qc XC mc ms free a s o t
theorem vx_ret {g : JFrame} {mc ms : Nat} (k : W p l e R s m args below meth c H locs cells slots (MQ below Qc args s mc ms free) g) : W p l e R s m args below meth c H locs cells slots (vx_MQ below Qc XC args s mc ms free) g := by
  intro T hT X
  obtain ⟨t, a1, o, b1, b2, b3, b4⟩ := k T hT X
  exact ⟨t, a1, o, b1, b2, Or.inl ⟨b3, b4⟩⟩
/-- not caught here: it goes on to the caller -/
theorem vx_widen {g : JFrame} {q : Addr} {k n : Nat} (h1 : cells ≤ k) (h2 : slots ≤ n) (kk : vx_W p l e R s m args below meth c H locs k n Q g q) : vx_W p l e R s m args below meth c H locs cells slots Q g q := fun T hT X => kk T hT (stand_widen X h1 h2)
theorem vx_out {pc : Nat} {E : String} {ce : Cell} {q : Addr} {mc ms : Nat} (hout : ∀ x ∈ c.exceptionTable.toList, covers x pc = false) (hlocks : meth.locks = false) (hcell : H[q]? = some ce) (hv : ce.vm = .none) (hcl : s.vm.findClass E = some ce.cls)
    (hx : ∀ t : State, t.heap = H → s.vm.Alike t.vm → XC E s t) (hf : ∀ z ∈ locs, free z.base) (hc : cells ≤ mc) (hs : slots ≤ ms) :
    vx_W p l e R s m args below meth c H locs cells slots (vx_MQ below Qc XC args s mc ms free) (F0 m pc ls rest) q := by
  intro T hT X
  obtain ⟨st1, hrun, hend, hW, hsm⟩ := X.leaveThrown q (g := F0 m pc ls rest) rfl rfl rfl hout hlocks
  have hcell9 : (T.setFrames (.throwing q :: below)).heap[q]? = some ce := by
    show T.heap[q]? = some ce
    rw [hT]; exact hcell
  exact ⟨_, st1, .threw q, hrun, hend, Or.inr ⟨q, rfl, E, ce, locs, hx _ hT hW.alike, hcell9, hv, hcl, hW, hsm.mono hc hs, hf⟩⟩
theorem vx_frame {U : State} {k n : Nat} (h : s.sameButNew ({ U with vm := s.vm } : State) locs k n) : s.heap.size ≤ U.heap.size ∧ ∀ q : Nat, q < s.heap.size → (∀ z ∈ locs, z.base ≠ q) → U.heap[q]? = s.heap[q]? := by
  obtain ⟨-, h2, -, -, -, h6⟩ := h
  refine ⟨h2, fun q hq hz => ?_⟩
  obtain ⟨c9, e1, e2, e3, e4⟩ := h6 q _ (Array.getElem?_eq_getElem hq)
  have hs : c9.slots = (s.heap[q]).slots := Array.ext_getElem? fun i => e4 i fun hm => hz _ hm rfl
  have h9 : c9 = s.heap[q] := by
    rw [hs] at e2
    exact e2
  have e5 : U.heap[q]? = some c9 := e1
  rw [e5, h9, Array.getElem?_eq_getElem hq]
/-- the words of a throw but the four that speak of the heap -/
def vx_no (w : Cond) : Bool := decide (w ≠ .isRef (.static Bundle.tN "UNASSIGNED_STACK" Bundle.steD)) && decide (w ≠ .isRef (.static Bundle.tN "SUPPRESSED_SENTINEL" Bundle.listD)) && decide (w ≠ .laysStatic Bundle.tN "UNASSIGNED_STACK" Bundle.steD) && decide (w ≠ .laysStatic Bundle.tN "SUPPRESSED_SENTINEL" Bundle.listD)
def vx_at0 (own : String) (ic : Nat) (X : String) (names : List String) : List Cond := (Bundle.ownAtoms0 own ic X names).filter vx_no
def vx_atS (own : String) (ic : Nat) (X : String) (names : List String) : List Cond := (Bundle.ownAtoms own ic X names).filter vx_no
/-- a word that the tables alone decide, or a good one -/
def vx_ot (w : Cond) : Bool := w.onTables || goodWord w
theorem vx_ot_at {args a' : Array Value} {s U : State} {w : Cond} (hW : s.WarmedH U.vm) (hvm : s.vm = U.vm) (hg : vx_ot w = true) (h : w.before args s = true) : w.before a' U = true := by
  simp only [vx_ot, Bool.or_eq_true] at hg
  rcases hg with hg | hg
  · exact va_tabs hg hvm h
  · exact word_at hW (good_of_word hg) h
/-- a list's words: the good ones out of the method's own list, the others by premises of their own -/
theorem vx_hat {args : Array Value} {s : State} {L B : List Cond} (h1 : ∀ w ∈ L.filter goodWord, w.before args s = true) (h2 : ∀ w ∈ L.filter (fun w => !goodWord w), w ∈ B) (h3 : ∀ w ∈ B, w.before args s = true) : ∀ w ∈ L, w.before args s = true := by
  intro w hw
  by_cases g : goodWord w = true
  · exact h1 w (List.mem_filter.mpr ⟨hw, g⟩)
  · refine h3 w (h2 w (List.mem_filter.mpr ⟨hw, ?_⟩))
    show (!goodWord w) = true
    cases hgw : goodWord w
    · rfl
    · exact absurd hgw g
theorem vx_c {args : Array Value} {s : State} {w : Cond} {B : List Cond} (h : w.before args s = true) (t : ∀ w ∈ B, w.before args s = true) : ∀ w' ∈ w :: B, w'.before args s = true := fun w' h' => (List.mem_cons.mp h').elim (fun e => by rw [e]; exact h) (t w')
theorem vx_n {args : Array Value} {s : State} : ∀ w ∈ ([] : List Cond), w.before args s = true := fun _ h => nomatch h
theorem vx_own {args : Array Value} {s : State} {L : List Cond} (h1 : ∀ w ∈ L.filter vx_no, w.before args s = true)
    (hU : (Cond.isRef (.static Bundle.tN "UNASSIGNED_STACK" Bundle.steD)).before args s = true) (hN : (Cond.isRef (.static Bundle.tN "SUPPRESSED_SENTINEL" Bundle.listD)).before args s = true)
    (lU : (Cond.laysStatic Bundle.tN "UNASSIGNED_STACK" Bundle.steD).before args s = true) (lN : (Cond.laysStatic Bundle.tN "SUPPRESSED_SENTINEL" Bundle.listD).before args s = true) : ∀ w ∈ L, w.before args s = true := by
  intro w hw
  by_cases e1 : w = .isRef (.static Bundle.tN "UNASSIGNED_STACK" Bundle.steD)
  · rw [e1]; exact hU
  · by_cases e2 : w = .isRef (.static Bundle.tN "SUPPRESSED_SENTINEL" Bundle.listD)
    · rw [e2]; exact hN
    · by_cases e3 : w = .laysStatic Bundle.tN "UNASSIGNED_STACK" Bundle.steD
      · rw [e3]; exact lU
      · by_cases e4 : w = .laysStatic Bundle.tN "SUPPRESSED_SENTINEL" Bundle.listD
        · rw [e4]; exact lN
        · exact h1 w (List.mem_filter.mpr ⟨hw, by unfold vx_no; rw [decide_eq_true e1, decide_eq_true e2, decide_eq_true e3, decide_eq_true e4]; rfl⟩)
/-- where a static field lies, its class's statics cell in H -/
def vx_L (C n d : String) (A : Nat → Prop) (U : State) (H : Heap) : Prop := ∃ (c : ClassId) (k : Class) (i : Nat) (f : Field) (a : Nat) (cell : Cell), U.vm.findClass C = some c ∧ U.fieldFound? C n d = some (c, k, i, f) ∧ f.isStatic = true ∧ k.statics = some a ∧ H[a]? = some cell ∧ cell.vm.isStatics = true ∧ cell.cls = c ∧ f.slot < cell.slots.size ∧ k.staticTypes[f.slot]? = some f.type ∧ ¬ A a
theorem vx_L.moved {C n d : String} {A : Nat → Prop} {u U : State} {H : Heap} (hvm : u.vm.Alike U.vm) (h : vx_L C n d A u H) : vx_L C n d A U H := by
  obtain ⟨c, k, i, f, a, cell, h1, h2, h3, h4, h5, h6, h7, h8, h9, h10⟩ := h
  obtain ⟨k', hi', he⟩ := State.fieldFound?_setVm hvm h2
  exact ⟨c, k', i, f, a, cell, by rw [hvm.findClass]; exact h1, hi', h3, by rw [he]; exact h4, h5, h6, h7, h8, by rw [he]; exact h9, h10⟩
theorem vx_L.kept {C n d : String} {A : Nat → Prop} {U : State} {H H1 : Heap} (h : vx_L C n d A U H) (hq : ∀ a : Nat, a < H.size → ¬ A a → H1[a]? = H[a]?) : vx_L C n d A U H1 := by
  obtain ⟨c, k, i, f, a, cell, h1, h2, h3, h4, h5, h6, h7, h8, h9, h10⟩ := h
  exact ⟨c, k, i, f, a, cell, h1, h2, h3, h4, by rw [hq a (Array.getElem?_eq_some_iff.mp h5).1 h10]; exact h5, h6, h7, h8, h9, h10⟩
theorem vx_L.narrow {C n d : String} {A B : Nat → Prop} {U : State} {H : Heap} (h : vx_L C n d A U H) (hAB : ∀ q, B q → A q) : vx_L C n d B U H := by
  obtain ⟨c, k, i, f, a, cell, h1, h2, h3, h4, h5, h6, h7, h8, h9, h10⟩ := h
  exact ⟨c, k, i, f, a, cell, h1, h2, h3, h4, h5, h6, h7, h8, h9, fun z => h10 (hAB _ z)⟩
theorem vx_L.word {C n d : String} {A : Nat → Prop} {s : State} {args : Array Value} (h : vx_L C n d A s s.heap) : (Cond.laysStatic C n d).before args s = true := by
  obtain ⟨c, k, i, f, a, cell, h1, h2, h3, h4, h5, h6, h7, h8, h9, -⟩ := h
  show (Cond.laysStatic C n d).holds args s none s [] = true
  exact Cond.laysStatic_of h1 h2 h3 h4 h5 h6 h7 h8 h9
/-- .. and what it holds: null or some reference -/
def vx_Zq (C n d : String) (A : Nat → Prop) (U : State) (H : Heap) : Prop := va_Zq C n d A U H ∧ vx_L C n d A U H
theorem vx_Zq.moved {C n d : String} {A : Nat → Prop} {u U : State} {H : Heap} (hvm : u.vm.Alike U.vm) (h : vx_Zq C n d A u H) : vx_Zq C n d A U H := ⟨va_Zq.moved hvm h.1, vx_L.moved hvm h.2⟩
theorem vx_Zq.kept {C n d : String} {A : Nat → Prop} {U : State} {H H1 : Heap} (h : vx_Zq C n d A U H) (hq : ∀ a : Nat, a < H.size → ¬ A a → H1[a]? = H[a]?) : vx_Zq C n d A U H1 := ⟨va_Zq.kept h.1 hq, vx_L.kept h.2 hq⟩
theorem vx_Zq.narrow {C n d : String} {A B : Nat → Prop} {U : State} {H : Heap} (h : vx_Zq C n d A U H) (hAB : ∀ q, B q → A q) : vx_Zq C n d B U H := ⟨va_Zq.narrow h.1 hAB, vx_L.narrow h.2 hAB⟩
theorem vx_Zqof {args : Array Value} {s : State} {C n d : String} {A : Nat → Prop} (hl : (Cond.laysStatic C n d).before args s = true) (hini : (Cond.initialized C).before args s = true) (h : (Cond.isRef (.static C n d)).before args s = true) (hA : ∀ a : Nat, a < s.heap.size → ¬ A a) : vx_Zq C n d A s s.heap := by
  refine ⟨va_Zqof hl hini h hA, ?_⟩
  obtain ⟨c, k, i, f, a, cell, h1, h2, h3, h4, h5, h6, h7, h8, h9⟩ := Cond.laysStatic_spec hl
  exact ⟨c, k, i, f, a, cell, h1, h2, h3, h4, h5, h6, h7, h8, h9, hA a (Array.getElem?_eq_some_iff.mp h5).1⟩
theorem vx_isRef {C n d : String} {v : Value} {A : Nat → Prop} {s : State} {args : Array Value} (h : va_Z C n d v A s s.heap) (hv : v.isRef = true) : (Cond.isRef (.static C n d)).before args s = true := by
  obtain ⟨cf, kf, fi, f, a, cell, h1, h2, h3, h4, h5, h6, h7, -⟩ := h
  have he : (Term.static C n d).eval args s none [] s = some v := by
    simp [Term.eval, State.fieldNamed?, h1, h2, h4, h5, h6, h7]
  simp only [Cond.before, Cond.holds, Cond.value, he]
  cases v <;> simp_all [Value.isRef]
theorem vx_isRefq {C n d : String} {A : Nat → Prop} {s : State} {args : Array Value} (h : va_Zq C n d A s s.heap) : (Cond.isRef (.static C n d)).before args s = true := by
  rcases h with h | ⟨t, h⟩
  · exact vx_isRef h rfl
  · exact vx_isRef h rfl
/-- the same frame, seen from here: as if the method were called anew in this heap -/
theorem vx_rebase {T : State} (X : Stand p l e R s m args below meth c T locs cells slots) {R' : Room} (hf : R'.frames ≤ R.frames) (hl : R'.locals ≤ R.locals) (hc : cells + R'.cells ≤ R.cells) (hs : slots + R'.slots ≤ R.slots) :
    Stand p l e R' ((T.setVm s.vm).setFrames (.invoking m args :: below)) m args below meth c T [] 0 0 := by
  have htop : (T.setVm s.vm).topJava?.isSome := X.here.top
  have hF : ((T.setVm s.vm).setFrames (.invoking m args :: below)).frames = .invoking m args :: below := State.frames_setFrames _ (State.cur_lt_of_top htop)
  obtain ⟨g₀, hg0⟩ := Option.isSome_iff_exists.mp htop
  obtain ⟨r, hr⟩ := State.topJava?_eq_some.mp hg0
  have hl9 : e.platform.stackLimits (T.setVm s.vm).me = e.platform.stackLimits s.me := X.limits
  have hb9 : (T.setVm s.vm).me.stackBytes = s.me.stackBytes := X.bytes
  refine ⟨X.admits, X.cas, X.clock, hF, ?_, X.hears, X.method, X.code, X.here, X.tail, X.warmed, ?_, ?_, ?_⟩
  · have h := X.room
    have hU : ((T.setVm s.vm).setFrames (.invoking m args :: below)).localsInUse = s.localsInUse := by
      rw [State.localsInUse_invoking hF (meth := meth) (c := c) X.method X.code, State.localsInUse_invoking X.frames X.method X.code]
    simp only [State.hasRoom, Bool.and_eq_true, decide_eq_true_eq] at h ⊢
    obtain ⟨⟨⟨⟨h1, h2, h3, h4, h5, h6⟩, h7⟩, h8⟩, h9⟩ := h
    rw [X.frames, List.length_cons] at h2 h3
    have q1 := X.heapSize
    have q2 := X.used
    simp only [hF, hU, List.length_cons, State.stackLimits_setFrames, State.stackBytes_setFrames, hl9, hb9]
    refine ⟨⟨⟨⟨by omega, by omega, by omega, by omega, by omega, h6⟩, ?_⟩, ?_⟩, X.book⟩
    · show T.heap.size + R'.cells ≤ e.platform.maxCells
      omega
    · show T.slotsUsed + R'.slots ≤ e.platform.maxSlots
      omega
  · rw [State.stackLimits_setFrames]; rfl
  · rw [State.stackBytes_setFrames]; rfl
  · refine ⟨?_, Nat.le_refl _, Nat.le_refl _, ?_, ?_, fun a c9 h9 => ⟨c9, h9, rfl, rfl, fun _ _ => rfl⟩⟩
    · obtain ⟨t, ht, -⟩ := State.frames_cons hr
      show T.setVm s.vm = { ((T.setVm s.vm).setFrames (.invoking m args :: below)).setFrames (T.setVm s.vm).frames with heap := T.heap, slotsUsed := T.slotsUsed }
      rw [State.setFrames_setFrames, State.setFrames_self ht]
      rfl
    · show T.slotsUsed = T.slotsUsed + ((T.heap.toList.drop T.heap.size).map (·.slots.size)).sum
      rw [List.drop_eq_nil_of_le (Nat.le_of_eq Array.length_toList)]
      rfl
    · show ((T.heap.toList.drop T.heap.size).map (·.slots.size)).sum ≤ 0
      rw [List.drop_eq_nil_of_le (Nat.le_of_eq Array.length_toList)]
      exact Nat.le_refl _
/-- 'throw new E()': new; dup; invokespecial; athrow -/
theorem vx_throw0 {cc : ByteArray} {pc : Nat} (hexec : p.tables.exec = Jvm.exec) (hb : c.code = cc) (hl : l.stackTraces = false) {own cls : String} {names : List String} {ik ic mc ms : Nat} {A : Nat → Prop}
    (hown : s.vm.findClass own = some m.cls) (hcls : Bundle.fit cls = true) (hnames : ∀ n ∈ names, Bundle.fit n = true)
    (hk : (Cond.classLink own ik cls).before args s = true) (hini : (Cond.initialized cls).before args s = true) (hat : ∀ w ∈ vx_at0 own ic cls names, w.before args s = true)
    (hgood : ∀ w ∈ Cond.classLink own ik cls :: Cond.initialized cls :: vx_at0 own ic cls names, vx_ot w = true)
    (hU : vx_Zq Bundle.tN "UNASSIGNED_STACK" Bundle.steD A s s.heap) (hN : vx_Zq Bundle.tN "SUPPRESSED_SENTINEL" Bundle.listD A s s.heap) (hS : va_S A s.heap H locs) (hsize : ls.size = c.maxLocals)
    (d0 : decode cc pc = .ok (.new ik, 3)) (d3 : decode cc (pc + 3) = .ok (.dup, 1)) (d4 : decode cc (pc + 4) = .ok (.invokespecial ic, 3)) (d7 : decode cc (pc + 7) = .ok (.athrow, 1))
    (hout : ∀ x ∈ c.exceptionTable.toList, covers x (pc + 7) = false)
    (hRframes : names.length + 3 < R.frames) (hRlocals : (rest.map fun v => v.category).sum + (13 * (names.length + 1) + 42) ≤ R.locals) (hRcells : cells + 1 ≤ R.cells) (hRslots : slots + 6 ≤ R.slots) (hlocks : meth.locks = false)
    (hx : ∀ t : State, s.vm.Alike t.vm → H.size ≤ t.heap.size → (∀ q : Nat, q < H.size → t.heap[q]? = H[q]?) → XC cls s t)
    (hf : ∀ z ∈ locs, free z.base) (hc : cells + 1 ≤ mc) (hs : slots + 6 ≤ ms) :
    W p l e R s m args below meth c H locs cells slots (vx_MQ below Qc XC args s mc ms free) (F0 m pc ls rest) := by
  intro T hT X
  have htr : e.platform.stackTraces = false := (show e.platform.stackTraces = l.stackTraces by rw [X.admits.platform]).trans hl
  have Y := vx_rebase X (R' := { frames := R.frames, locals := R.locals, cells := 1, slots := 6 }) (Nat.le_refl _) (Nat.le_refl _) hRcells hRslots
  obtain ⟨s', hA⟩ : ∃ z, z = (T.setVm s.vm).setFrames (.invoking m args :: below) := ⟨_, rfl⟩
  rw [← hA] at Y
  have hvm : s'.vm = s.vm := by rw [hA]; rfl
  have hhp : s'.heap = H := by rw [hA]; exact hT
  have hW0 : s.WarmedH s'.vm := by rw [hvm]; exact State.WarmedH.refl s
  have hat' : ∀ w ∈ vx_at0 own ic cls names, w.before args s' = true := fun w hw => vx_ot_at hW0 hvm.symm (hgood w (List.mem_cons_of_mem _ (List.mem_cons_of_mem _ hw))) (hat w hw)
  have hk' : (Cond.classLink own ik cls).before args s' = true := vx_ot_at hW0 hvm.symm (hgood _ List.mem_cons_self) hk
  have hini' : (Cond.initialized cls).before args s' = true := vx_ot_at hW0 hvm.symm (hgood _ (List.mem_cons_of_mem _ List.mem_cons_self)) hini
  have hU' : vx_Zq Bundle.tN "UNASSIGNED_STACK" Bundle.steD A s' s'.heap := by rw [hhp]; exact vx_Zq.moved hW0.alike (hU.kept hS.2.1)
  have hN' : vx_Zq Bundle.tN "SUPPRESSED_SENTINEL" Bundle.listD A s' s'.heap := by rw [hhp]; exact vx_Zq.moved hW0.alike (hN.kept hS.2.1)
  have h : ∀ w ∈ Bundle.ownAtoms0 own ic cls names, w.before args s' = true := vx_own hat' (vx_isRefq hU'.1) (vx_isRefq hN'.1) hU'.2.word hN'.2.word
  have hown' : s'.vm.findClass own = some m.cls := by rw [hvm]; exact hown
  have hins : (Cond.instantiable cls 6).before args s' = true := h _ (by simp [Bundle.ownAtoms0])
  obtain ⟨vm₁, cX, kX, hfX, hkX, -, -, X₁, st1⟩ := Y.newCold hexec (own := own) (C := cls) (index := ik) (n := 6) hown' hk' hins hini'
    (g := F0 m pc ls rest) rfl (by rw [hb]; exact d0) (Nat.le_refl _) (Nat.le_refl _)
  generalize hT1 : (T.setVm vm₁).pushCell { cls := cX, slots := kX.instanceTypes.map defaultValue, vm := .none } = T1 at X₁ st1
  have hcat : (Value.ref T.heap.size).category = 1 := rfl
  have hcellA : T1.heap[T.heap.size]? = some (freshCell cX kX) := by rw [← hT1]; exact State.heap_pushCell_size _ _
  have d3' : decode c.code (pc + 3) = .ok (.dup, 1) := by rw [hb]; exact d3
  obtain ⟨U, hsteps, hrun, hend, hW, hsame, ce, hce, hO⟩ := X₁.ctorThrow0 hexec htr (own := own) (cls := cls) (names := names) (ic := ic) hown' hcls hnames h (fun x hx => nomatch hx) hfX hkX hcellA (by rw [hhp, hT]; exact Nat.le_refl _)
    (g := { method := m, pc := pc + 4, locals := ls, stack := .ref T.heap.size :: .ref T.heap.size :: rest, locked := none }) rfl hsize rfl rfl (rest := rest) rfl
    (by rw [hb]; exact d4) (by rw [hb]; exact d7) hout hRframes (by simp only [List.map_cons, List.sum_cons, hcat]; omega) hlocks
  obtain ⟨f1, f2⟩ := vx_frame hsame
  rw [hhp] at f1 f2
  have hWs : s.WarmedH U.vm := State.WarmedH.trans hW0 hW
  have hcl : s.vm.findClass cls = some ce.cls := by
    have h9 := hO.cls
    rw [hvm] at h9
    exact h9
  have hall : s.sameButNew ({ U with vm := s.vm } : State) locs mc ms := by
    subst hA
    obtain ⟨e1, e2⟩ := hsame
    rw [State.setFrames_setFrames] at e1
    have h2 : (T.setVm s.vm).sameButNew ({ U with vm := s.vm } : State) [] (0 + 1) (0 + 6) := ⟨e1, e2⟩
    have h3 := X.same.trans h2
    rw [List.append_nil] at h3
    exact h3.mono hc hs
  refine ⟨U, ?_, .threw T.heap.size, hrun, hend, Or.inr ⟨T.heap.size, rfl, cls, ce, locs, hx U hWs.alike f1 (fun q hq => f2 q hq (fun z hz => nomatch hz)), hce, hO.vm, hcl, hWs, hall, hf⟩⟩
  refine st1 _ ?_
  show Steps p.tables e below (T1.setTop { method := m, pc := pc + 3, locals := ls, stack := .ref T.heap.size :: rest, locked := none }) _
  jvm_step X₁.here [X₁.here.top, hexec, d3', Value.category]
  exact hsteps
/-- 'throw new E("text")': new; dup; ldc; invokespecial; athrow -/
theorem vx_throwS {cc : ByteArray} {pc : Nat} (hexec : p.tables.exec = Jvm.exec) (hb : c.code = cc) (hl : l.stackTraces = false) {own cls text : String} {names : List String} {ik is ic mc ms sa : Nat} {A : Nat → Prop}
    (hown : s.vm.findClass own = some m.cls) (hcls : Bundle.fit cls = true) (hnames : ∀ n ∈ names, Bundle.fit n = true)
    (hk : (Cond.classLink own ik cls).before args s = true) (hini : (Cond.initialized cls).before args s = true) (hstr : vk_R own is text sa s) (hat : ∀ w ∈ vx_atS own ic cls names, w.before args s = true)
    (hgood : ∀ w ∈ Cond.classLink own ik cls :: Cond.initialized cls :: vx_atS own ic cls names, vx_ot w = true)
    (hU : vx_Zq Bundle.tN "UNASSIGNED_STACK" Bundle.steD A s s.heap) (hN : vx_Zq Bundle.tN "SUPPRESSED_SENTINEL" Bundle.listD A s s.heap) (hS : va_S A s.heap H locs) (hsize : ls.size = c.maxLocals)
    (d0 : decode cc pc = .ok (.new ik, 3)) (d3 : decode cc (pc + 3) = .ok (.dup, 1)) (d4 : decode cc (pc + 4) = .ok (.ldc is, 2)) (d6 : decode cc (pc + 6) = .ok (.invokespecial ic, 3)) (d9 : decode cc (pc + 9) = .ok (.athrow, 1))
    (hout : ∀ x ∈ c.exceptionTable.toList, covers x (pc + 9) = false)
    (hRframes : names.length + 3 < R.frames) (hRlocals : (rest.map fun v => v.category).sum + (13 * (names.length + 1) + 43) ≤ R.locals) (hRcells : cells + 1 ≤ R.cells) (hRslots : slots + 6 ≤ R.slots) (hlocks : meth.locks = false)
    (hx : ∀ t : State, s.vm.Alike t.vm → H.size ≤ t.heap.size → (∀ q : Nat, q < H.size → t.heap[q]? = H[q]?) → XC cls s t)
    (hf : ∀ z ∈ locs, free z.base) (hc : cells + 1 ≤ mc) (hs : slots + 6 ≤ ms) :
    W p l e R s m args below meth c H locs cells slots (vx_MQ below Qc XC args s mc ms free) (F0 m pc ls rest) := by
  intro T hT X
  have htr : e.platform.stackTraces = false := (show e.platform.stackTraces = l.stackTraces by rw [X.admits.platform]).trans hl
  have Y := vx_rebase X (R' := { frames := R.frames, locals := R.locals, cells := 1, slots := 6 }) (Nat.le_refl _) (Nat.le_refl _) hRcells hRslots
  obtain ⟨s', hA⟩ : ∃ z, z = (T.setVm s.vm).setFrames (.invoking m args :: below) := ⟨_, rfl⟩
  rw [← hA] at Y
  have hvm : s'.vm = s.vm := by rw [hA]; rfl
  have hhp : s'.heap = H := by rw [hA]; exact hT
  have hW0 : s.WarmedH s'.vm := by rw [hvm]; exact State.WarmedH.refl s
  have hat' : ∀ w ∈ vx_atS own ic cls names, w.before args s' = true := fun w hw => vx_ot_at hW0 hvm.symm (hgood w (List.mem_cons_of_mem _ (List.mem_cons_of_mem _ hw))) (hat w hw)
  have hk' : (Cond.classLink own ik cls).before args s' = true := vx_ot_at hW0 hvm.symm (hgood _ List.mem_cons_self) hk
  have hini' : (Cond.initialized cls).before args s' = true := vx_ot_at hW0 hvm.symm (hgood _ (List.mem_cons_of_mem _ List.mem_cons_self)) hini
  have hU' : vx_Zq Bundle.tN "UNASSIGNED_STACK" Bundle.steD A s' s'.heap := by rw [hhp]; exact vx_Zq.moved hW0.alike (hU.kept hS.2.1)
  have hN' : vx_Zq Bundle.tN "SUPPRESSED_SENTINEL" Bundle.listD A s' s'.heap := by rw [hhp]; exact vx_Zq.moved hW0.alike (hN.kept hS.2.1)
  have h : ∀ w ∈ Bundle.ownAtoms own ic cls names, w.before args s' = true := vx_own hat' (vx_isRefq hU'.1) (vx_isRefq hN'.1) hU'.2.word hN'.2.word
  have hown' : s'.vm.findClass own = some m.cls := by rw [hvm]; exact hown
  have hins : (Cond.instantiable cls 6).before args s' = true := h _ (by simp [Bundle.ownAtoms])
  obtain ⟨vm₁, cX, kX, hfX, hkX, -, -, X₁, st1⟩ := Y.newCold hexec (own := own) (C := cls) (index := ik) (n := 6) hown' hk' hins hini'
    (g := F0 m pc ls rest) rfl (by rw [hb]; exact d0) (Nat.le_refl _) (Nat.le_refl _)
  generalize hT1 : (T.setVm vm₁).pushCell { cls := cX, slots := kX.instanceTypes.map defaultValue, vm := .none } = T1 at X₁ st1
  have hcat : (Value.ref T.heap.size).category = 1 := rfl
  have hcellA : T1.heap[T.heap.size]? = some (freshCell cX kX) := by rw [← hT1]; exact State.heap_pushCell_size _ _
  have d3' : decode c.code (pc + 3) = .ok (.dup, 1) := by rw [hb]; exact d3
  have d4' : decode c.code (pc + 4) = .ok (.ldc is, 2) := by rw [hb]; exact d4
  have hstr' : vk_R own is text sa s' := vk_R.warm hW0 hstr
  obtain ⟨U, hsteps, hrun, hend, hW, hsame, ce, hce, hO⟩ := X₁.ctorThrowS hexec htr (own := own) (cls := cls) (names := names) (ic := ic) hown' hcls hnames h (fun x hx => nomatch hx) hfX hkX hcellA (by rw [hhp, hT]; exact Nat.le_refl _) (msg := .ref sa) rfl
    (g := { method := m, pc := pc + 6, locals := ls, stack := .ref sa :: .ref T.heap.size :: .ref T.heap.size :: rest, locked := none }) rfl hsize rfl rfl (rest := rest) rfl
    (by rw [hb]; exact d6) (by rw [hb]; exact d9) hout hRframes (by simp only [List.map_cons, List.sum_cons, hcat]; omega) hlocks
  obtain ⟨f1, f2⟩ := vx_frame hsame
  rw [hhp] at f1 f2
  have hWs : s.WarmedH U.vm := State.WarmedH.trans hW0 hW
  have hcl : s.vm.findClass cls = some ce.cls := by
    have h9 := hO.cls
    rw [hvm] at h9
    exact h9
  have hall : s.sameButNew ({ U with vm := s.vm } : State) locs mc ms := by
    subst hA
    obtain ⟨e1, e2⟩ := hsame
    rw [State.setFrames_setFrames] at e1
    have h2 : (T.setVm s.vm).sameButNew ({ U with vm := s.vm } : State) [] (0 + 1) (0 + 6) := ⟨e1, e2⟩
    have h3 := X.same.trans h2
    rw [List.append_nil] at h3
    exact h3.mono hc hs
  refine ⟨U, ?_, .threw T.heap.size, hrun, hend, Or.inr ⟨T.heap.size, rfl, cls, ce, locs, hx U hWs.alike f1 (fun q hq => f2 q hq (fun z hz => nomatch hz)), hce, hO.vm, hcl, hWs, hall, hf⟩⟩
  refine st1 _ ?_
  show Steps p.tables e below (T1.setTop { method := m, pc := pc + 3, locals := ls, stack := .ref T.heap.size :: rest, locked := none }) _
  jvm_step X₁.here [X₁.here.top, hexec, d3', Value.category]
  exact X₁.ldcString hexec (own := own) (text := text) (index := is) (a := sa) hown' hstr'.1 hstr'.2
    (g := { method := m, pc := pc + 4, locals := ls, stack := .ref T.heap.size :: .ref T.heap.size :: rest, locked := none }) rfl d4' _ hsteps
/-- 'throw new E("text")', the text by a wide index -/
theorem vx_throwSW {cc : ByteArray} {pc : Nat} (hexec : p.tables.exec = Jvm.exec) (hb : c.code = cc) (hl : l.stackTraces = false) {own cls text : String} {names : List String} {ik is ic mc ms sa : Nat} {A : Nat → Prop}
    (hown : s.vm.findClass own = some m.cls) (hcls : Bundle.fit cls = true) (hnames : ∀ n ∈ names, Bundle.fit n = true)
    (hk : (Cond.classLink own ik cls).before args s = true) (hini : (Cond.initialized cls).before args s = true) (hstr : vk_R own is text sa s) (hat : ∀ w ∈ vx_atS own ic cls names, w.before args s = true)
    (hgood : ∀ w ∈ Cond.classLink own ik cls :: Cond.initialized cls :: vx_atS own ic cls names, vx_ot w = true)
    (hU : vx_Zq Bundle.tN "UNASSIGNED_STACK" Bundle.steD A s s.heap) (hN : vx_Zq Bundle.tN "SUPPRESSED_SENTINEL" Bundle.listD A s s.heap) (hS : va_S A s.heap H locs) (hsize : ls.size = c.maxLocals)
    (d0 : decode cc pc = .ok (.new ik, 3)) (d3 : decode cc (pc + 3) = .ok (.dup, 1)) (d4 : decode cc (pc + 4) = .ok (.ldc_w is, 3)) (d7 : decode cc (pc + 7) = .ok (.invokespecial ic, 3)) (d10 : decode cc (pc + 10) = .ok (.athrow, 1))
    (hout : ∀ x ∈ c.exceptionTable.toList, covers x (pc + 10) = false)
    (hRframes : names.length + 3 < R.frames) (hRlocals : (rest.map fun v => v.category).sum + (13 * (names.length + 1) + 43) ≤ R.locals) (hRcells : cells + 1 ≤ R.cells) (hRslots : slots + 6 ≤ R.slots) (hlocks : meth.locks = false)
    (hx : ∀ t : State, s.vm.Alike t.vm → H.size ≤ t.heap.size → (∀ q : Nat, q < H.size → t.heap[q]? = H[q]?) → XC cls s t)
    (hf : ∀ z ∈ locs, free z.base) (hc : cells + 1 ≤ mc) (hs : slots + 6 ≤ ms) :
    W p l e R s m args below meth c H locs cells slots (vx_MQ below Qc XC args s mc ms free) (F0 m pc ls rest) := by
  intro T hT X
  have htr : e.platform.stackTraces = false := (show e.platform.stackTraces = l.stackTraces by rw [X.admits.platform]).trans hl
  have Y := vx_rebase X (R' := { frames := R.frames, locals := R.locals, cells := 1, slots := 6 }) (Nat.le_refl _) (Nat.le_refl _) hRcells hRslots
  obtain ⟨s', hA⟩ : ∃ z, z = (T.setVm s.vm).setFrames (.invoking m args :: below) := ⟨_, rfl⟩
  rw [← hA] at Y
  have hvm : s'.vm = s.vm := by rw [hA]; rfl
  have hhp : s'.heap = H := by rw [hA]; exact hT
  have hW0 : s.WarmedH s'.vm := by rw [hvm]; exact State.WarmedH.refl s
  have hat' : ∀ w ∈ vx_atS own ic cls names, w.before args s' = true := fun w hw => vx_ot_at hW0 hvm.symm (hgood w (List.mem_cons_of_mem _ (List.mem_cons_of_mem _ hw))) (hat w hw)
  have hk' : (Cond.classLink own ik cls).before args s' = true := vx_ot_at hW0 hvm.symm (hgood _ List.mem_cons_self) hk
  have hini' : (Cond.initialized cls).before args s' = true := vx_ot_at hW0 hvm.symm (hgood _ (List.mem_cons_of_mem _ List.mem_cons_self)) hini
  have hU' : vx_Zq Bundle.tN "UNASSIGNED_STACK" Bundle.steD A s' s'.heap := by rw [hhp]; exact vx_Zq.moved hW0.alike (hU.kept hS.2.1)
  have hN' : vx_Zq Bundle.tN "SUPPRESSED_SENTINEL" Bundle.listD A s' s'.heap := by rw [hhp]; exact vx_Zq.moved hW0.alike (hN.kept hS.2.1)
  have h : ∀ w ∈ Bundle.ownAtoms own ic cls names, w.before args s' = true := vx_own hat' (vx_isRefq hU'.1) (vx_isRefq hN'.1) hU'.2.word hN'.2.word
  have hown' : s'.vm.findClass own = some m.cls := by rw [hvm]; exact hown
  have hins : (Cond.instantiable cls 6).before args s' = true := h _ (by simp [Bundle.ownAtoms])
  obtain ⟨vm₁, cX, kX, hfX, hkX, -, -, X₁, st1⟩ := Y.newCold hexec (own := own) (C := cls) (index := ik) (n := 6) hown' hk' hins hini'
    (g := F0 m pc ls rest) rfl (by rw [hb]; exact d0) (Nat.le_refl _) (Nat.le_refl _)
  generalize hT1 : (T.setVm vm₁).pushCell { cls := cX, slots := kX.instanceTypes.map defaultValue, vm := .none } = T1 at X₁ st1
  have hcat : (Value.ref T.heap.size).category = 1 := rfl
  have hcellA : T1.heap[T.heap.size]? = some (freshCell cX kX) := by rw [← hT1]; exact State.heap_pushCell_size _ _
  have d3' : decode c.code (pc + 3) = .ok (.dup, 1) := by rw [hb]; exact d3
  have d4' : decode c.code (pc + 4) = .ok (.ldc_w is, 3) := by rw [hb]; exact d4
  have hstr' : vk_R own is text sa s' := vk_R.warm hW0 hstr
  obtain ⟨U, hsteps, hrun, hend, hW, hsame, ce, hce, hO⟩ := X₁.ctorThrowS hexec htr (own := own) (cls := cls) (names := names) (ic := ic) hown' hcls hnames h (fun x hx => nomatch hx) hfX hkX hcellA (by rw [hhp, hT]; exact Nat.le_refl _) (msg := .ref sa) rfl
    (g := { method := m, pc := pc + 7, locals := ls, stack := .ref sa :: .ref T.heap.size :: .ref T.heap.size :: rest, locked := none }) rfl hsize rfl rfl (rest := rest) rfl
    (by rw [hb]; exact d7) (by rw [hb]; exact d10) hout hRframes (by simp only [List.map_cons, List.sum_cons, hcat]; omega) hlocks
  obtain ⟨f1, f2⟩ := vx_frame hsame
  rw [hhp] at f1 f2
  have hWs : s.WarmedH U.vm := State.WarmedH.trans hW0 hW
  have hcl : s.vm.findClass cls = some ce.cls := by
    have h9 := hO.cls
    rw [hvm] at h9
    exact h9
  have hall : s.sameButNew ({ U with vm := s.vm } : State) locs mc ms := by
    subst hA
    obtain ⟨e1, e2⟩ := hsame
    rw [State.setFrames_setFrames] at e1
    have h2 : (T.setVm s.vm).sameButNew ({ U with vm := s.vm } : State) [] (0 + 1) (0 + 6) := ⟨e1, e2⟩
    have h3 := X.same.trans h2
    rw [List.append_nil] at h3
    exact h3.mono hc hs
  refine ⟨U, ?_, .threw T.heap.size, hrun, hend, Or.inr ⟨T.heap.size, rfl, cls, ce, locs, hx U hWs.alike f1 (fun q hq => f2 q hq (fun z hz => nomatch hz)), hce, hO.vm, hcl, hWs, hall, hf⟩⟩
  refine st1 _ ?_
  show Steps p.tables e below (T1.setTop { method := m, pc := pc + 3, locals := ls, stack := .ref T.heap.size :: rest, locked := none }) _
  jvm_step X₁.here [X₁.here.top, hexec, d3', Value.category]
  exact X₁.ldcStringW hexec (own := own) (text := text) (index := is) (a := sa) hown' hstr'.1 hstr'.2
    (g := { method := m, pc := pc + 4, locals := ls, stack := .ref T.heap.size :: .ref T.heap.size :: rest, locked := none }) rfl d4' _ hsteps
end Ends
section Bodies
variable {l : Launch}
theorem vx_ofW {y : MethodName} {ws ws' : List Cond} {rm : Room} {Pc : Array Value → State → Prop} {Qc : Array Value → State → Outcome → State → Prop} {XC : String → State → State → Prop} {mc ms : Nat} {free : Addr → Prop} {cc : ByteArray} {maxL : Nat} {ret : Option FieldType}
    (hy : plainName y.cls = true) (hw : ws = Cond.code y cc maxL ret :: ws')
    (body : ∀ p e s m args below meth c s₁, BodyLoose p l y (headSpec ws rm) cc maxL ret e s m args below meth c s₁ → c.maxLocals = maxL → (∀ x ∈ c.exceptionTable.toList, False) → Pc args s →
      W p l e (headSpec ws rm).room s m args below meth c s.heap [] 0 0 (vx_MQ below Qc XC args s mc ms free) (entryFrame m args maxL)) : vx_Met l y ws rm Pc Qc XC mc ms free := by
  refine MetFree.of_bodyS (code := cc) (maxLocals := maxL) (ret := ret) hy ?_ ?_
  · intro args s m h hn
    obtain ⟨meth, c, h1, h2, h3, h4, h5, h6, -, -⟩ := Cond.code_spec hn (atoms_spec (ws := ws) h _ (by rw [hw]; exact List.mem_cons_self))
    exact ⟨meth, c, h1, h2, h3, h4, h5, h6⟩
  · intro p e s m args below meth c s₁ B hml hP _
    have hh0 : s₁.heap = s.heap := by rw [B.state]; rfl
    have ht : ∀ x ∈ c.exceptionTable.toList, False := by
      obtain ⟨meth9, c9, h1, h2, -, -, -, -, h7, -⟩ := Cond.code_spec B.named (atoms_spec (ws := ws) B.pre _ (by rw [hw]; exact List.mem_cons_self))
      cases Option.some.inj (h1.symm.trans B.method)
      cases Option.some.inj (h2.symm.trans (Stand.of_body B).code)
      intro x hx
      rw [Array.isEmpty_iff.mp h7] at hx
      cases hx
    obtain ⟨t, a1, o, b1, b2, b3⟩ := body p e s m args below meth c s₁ B hml ht hP s₁ hh0 (Stand.of_body B)
    exact ⟨t, o, a1, b1, b2, b3⟩
/-- the table of a body with handlers -/
theorem vx_table {p : Program} {x y : MethodName} {S : Spec} {cc bytes : ByteArray} {maxL maxL' : Nat} {ret ret' : Option FieldType} {e : Env} {s s₁ : State} {m : MethodId} {args : Array Value} {below : List Frame} {meth : Method} {c : Code} {hh : List (Nat × Nat × Nat × Nat)}
    (B : BodyLoose p l y S cc maxL ret e s m args below meth c s₁) (h : (Cond.codeWith y bytes maxL' ret' hh).before args s = true) : c.exceptionTable.toList = tableOf hh := by
  obtain ⟨m9, meth9, c9, hn9, h1, h2, -, -, h6, -⟩ := Cond.codeWith_spec h
  cases Option.some.inj (hn9.symm.trans B.named)
  cases Option.some.inj (h1.symm.trans B.method)
  cases Option.some.inj (h2.symm.trans (Stand.of_body B).code)
  rw [← h6, table_eq]
end Bodies
end VXA
/-! ===== END ===== -/
/-! ===== BEGIN a static call of a method with an exception table ===== -/
section VXS
variable {p : Program} {l : Launch} {e : Env} {R : Room} {s : State} {m : MethodId} {args : Array Value} {below : List Frame} {meth : Method} {c : Code} {T : State} {H : Heap} {locs : List Loc} {cells slots : Nat}
abbrev vx_CSW (R : Room) (s : State) (args : Array Value) (own : String) (index : Nat) (y : MethodName) (bytes : ByteArray) (maxL : Nat) (ret : Option FieldType) (hh : List (Nat × Nat × Nat × Nat)) (ws : List Cond) (rm : Room) (mc ms n : Nat) : Prop :=
  (rm.cells = mc ∧ rm.slots = ms ∧ rm.frames + 1 ≤ R.frames ∧ 8 + (maxL + 11) + rm.locals ≤ R.locals ∧ (∀ w ∈ ws, ∀ (a' : Array Value) (U : State), s.WarmedH U.vm → w.before a' U = true) ∧ Cond.codeWith y bytes maxL ret hh ∈ ws) ∧
  (Cond.codeWith y bytes maxL ret hh).before args s = true ∧ (Cond.initialized y.cls).before args s = true ∧ (y.cls ≠ "java/lang/invoke/MethodHandle" ∧ y.cls ≠ "java/lang/invoke/VarHandle") ∧
  (∀ sig, parseMethodDescriptor y.desc = some sig → n = sig.parameters.length) ∧ (Cond.methodLink own index y).before args s = true ∧ (Cond.static y).before args s = true
theorem vx_cwSW {own : String} {index maxL mc ms : Nat} {y : MethodName} {bytes : ByteArray} {ret : Option FieldType} {hh : List (Nat × Nat × Nat × Nat)} {Ts ws ws' : List Cond} {rm : Room} (n : Nat) (ht : ∀ w ∈ Ts, w.before args s = true) (hT : GoodIn Ts (va_wsS own index y ws)) (hw : ws = Cond.codeWith y bytes maxL ret hh :: ws') (hrc : rm.cells = mc) (hrs : rm.slots = ms)
    (hd : y.cls ≠ "java/lang/invoke/MethodHandle" ∧ y.cls ≠ "java/lang/invoke/VarHandle" ∧ (parseMethodDescriptor y.desc).map (fun d => d.parameters.length) = some n) (hR : rm.frames + 1 ≤ R.frames ∧ 8 + (maxL + 11) + rm.locals ≤ R.locals) :
    vx_CSW R s args own index y bytes maxL ret hh ws rm mc ms n := by
  have ok : ∀ w ∈ va_wsS own index y ws, w.before args s = true := fun w h => ht w (hT w h).1
  have hG : GoodIn Ts ws := fun w h => hT w (by unfold va_wsS; exact List.mem_append_right _ h)
  have hc : Cond.codeWith y bytes maxL ret hh ∈ ws := by rw [hw]; exact List.mem_cons_self
  refine ⟨⟨hrc, hrs, hR.1, hR.2, pay_in ht hG, hc⟩, ht _ (hG _ hc).1, ok _ (by simp [va_wsS]), ⟨hd.1, hd.2.1⟩, fun sig h => ?_, ok _ (by simp [va_wsS]), ok _ (by simp [va_wsS])⟩
  have h2 := hd.2.2
  rw [h] at h2
  exact (Option.some.inj h2).symm
theorem vx_callSW (X : Stand p l e R s m args below meth c T locs cells slots) (hexec : p.tables.exec = Jvm.exec) {own : String} {index : Nat} {y : MethodName} {bytes : ByteArray} {maxL : Nat} {ret : Option FieldType} {hh : List (Nat × Nat × Nat × Nat)}
    (hown : s.vm.findClass own = some m.cls) (hlink : (Cond.methodLink own index y).before args s = true) (hstat : (Cond.static y).before args s = true) (hinit : (Cond.initialized y.cls).before args s = true)
    (hcode : (Cond.codeWith y bytes maxL ret hh).before args s = true) (hy : y.cls ≠ "java/lang/invoke/MethodHandle" ∧ y.cls ≠ "java/lang/invoke/VarHandle")
    {W9 : Nat} {Pre : Pt → Array Value → Prop} {Post : Pt → Array Value → Option Value → Pt → Prop} (hK : Back l R p e below s args y 3 W9 Pre Post)
    {g : JFrame} (hg : g.method = m) (hsize : g.locals.size = c.maxLocals) {argsL rest : List Value} (hlen : ∀ sig, parseMethodDescriptor y.desc = some sig → argsL.length = sig.parameters.length)
    (hstack : g.stack = argsL.reverse ++ rest) (hW : 2 * g.monitorRoom + (rest.map fun v => v.category).sum ≤ W9) (hdg : decode c.code g.pc = .ok (.invokestatic index, 3))
    (hpre : ∀ vm₁, s.WarmedH vm₁ → Pre ⟨T.setVm vm₁, locs, cells, slots⟩ argsL.toArray) :
    ∃ (v : Option Value) (vm₁ : Vm) (B : Pt), s.WarmedH vm₁ ∧ Stand p l e R s m args below meth c B.U B.locs B.cells B.slots ∧ Post ⟨T.setVm vm₁, locs, cells, slots⟩ argsL.toArray v B ∧
      ∀ target, Steps p.tables e below (B.U.setTop { g with pc := g.pc + 3, stack := v.toList ++ rest }) target → Steps p.tables e below (T.setTop g) target := by
  obtain ⟨mk, methM, cM, hnamed, hmethM, -, -, -, -, -, -, hsigM⟩ := Cond.codeWith_spec hcode
  have hstatic : methM.isStatic = true := Cond.static_spec hnamed hmethM hstat
  obtain ⟨kP, hkP, -⟩ := className_of_methodNamed hnamed
  have hinitP : kP.init = .initialized := Cond.initialized_spec (findClass_of_methodNamed hnamed) hkP hinit
  obtain ⟨vm₁, X₁, hstep₁⟩ := X.invokestatic hexec hown hlink hnamed hmethM hstatic hkP hinitP hy (g := g) hg (argsL := argsL) (rest := rest) (hlen _ hsigM) hstack hdg
  obtain ⟨v, B, X', hpost, hsteps⟩ := hK m meth c ⟨T.setVm vm₁, locs, cells, slots⟩ { g with stack := rest } (.invokestatic index) mk argsL.toArray X₁ hg hsize hdg hW (X₁.named hnamed) (hpre vm₁ X₁.warmed)
  exact ⟨v, vm₁, B, X₁.warmed, X', hpost, fun target h => hstep₁ _ fun acts => by rw [doInvoke_state]; exact hsteps.trans h⟩
theorem vx_runSW {y : MethodName} {bytes cc : ByteArray} {maxL nL mc ms n index : Nat} {ret : Option FieldType} {hh : List (Nat × Nat × Nat × Nat)} {ws : List Cond} {rm : Room} {Pc : Array Value → State → Prop} {Qc : Array Value → State → Outcome → State → Prop} {free : Addr → Prop} {Ts : List Cond} {own : String} {As rest : List Value} {g : JFrame}
    (S : CallFix p m c cc nL s args Ts own) (hM : Met l y ws rm Pc Qc mc ms free) (cw : vx_CSW R s args own index y bytes maxL ret hh ws rm mc ms n) (hp : PreS s H Pc As)
    (hg : g.method = m) (hn : As.length = n) (hsize : g.locals.size = nL) (hstack : g.stack = As.reverse ++ rest) (hW : 2 * g.monitorRoom + (rest.map fun v => v.category).sum ≤ 8) (hdg : decode cc g.pc = .ok (.invokestatic index, 3)) (hf : cells + mc ≤ R.cells ∧ slots + ms ≤ R.slots) :
    va_Run p l e R s m args below meth c H locs cells slots mc ms g rest (Qc As.toArray) (free) := by
  obtain ⟨⟨hrc, hrs, hfr, hlo, hws, hcw⟩, hcode, hini, hy, hlen, hl, hstt⟩ := cw
  have hK : Back l R p e below s args y 3 8 (PreOf R mc ms Pc) (PostOf Qc mc ms free) := va_backW (hh := hh) (bytes := bytes) (maxL := maxL) (ret := ret) hM hp.1 hrc hrs hfr hlo hws hcw (fun a' U hW => word_at hW (Or.inl (by first | rfl | simp [Cond.onTables, Cond.keeps, Cond.steady])) hini)
  obtain ⟨hx, hb, hml, ho, -⟩ := S
  intro T hT X
  obtain ⟨v, vm₁, ⟨U', l2, c2, s2⟩, hW₁, X', ⟨g', mk, t, L, e1, e2, hq, h1, hL, h2, h3⟩, st⟩ := vx_callSW X hx (hh := hh) (bytes := bytes) (maxL := maxL) (ret := ret) ho hl hstt hini hcode hy hK hg (hsize.trans hml.symm) (argsL := As) (rest := rest) (fun sig h => hn.trans (hlen sig h)) hstack hW (by rw [hb]; exact hdg)
    (fun vm₁ hW₁ => ⟨hf.1, hf.2, hp.2 (T.setVm vm₁) hT hW₁⟩)
  dsimp only [Pt.U, Pt.locs, Pt.cells, Pt.slots] at X' e1 e2 h1 h2 h3 st
  subst h1; subst h2; subst h3
  exact ⟨v, (T.setVm vm₁).calling g' mk As.toArray, t, U', L, hT, X', hL, e1, e2, hq, st⟩
/-- a thing of a world lies in the heap -/
theorem vx_lt {D : va_G} {cl : List vw_C} {ws : va_W} {H1 : Heap} (h : va_P D cl ws H1) {k : Nat} {q : Nat × va_E} (hk : ws[k]? = some q) : q.1 < H1.size := (h k q hk).lt
end VXS
/-! ===== END ===== -/
/-! ===== BEGIN methods with a table of their own: called by a name, returning or throwing ===== -/
section VXH
/-! vx_backW, vx_callVX, vx_callSX, vx_callVW, vx_runVW, vx_runVX, vx_runSX, vx_ofWH follow the same proofs as their sisters above (Free/Laws.lean, Shelf42/LK1.lean); vx_outP calls Shelf42/NT130.lean (outThrough). -/
section
variable {l : Launch} {R : Room} {p : Program} {e : Env} {below : List Frame} {s : State} {sargs : Array Value} {y : MethodName} {len W9 : Nat}
theorem vx_backW {ws : List Cond} {rm : Room} {Pc : Array Value → State → Prop} {Qc : Array Value → State → Outcome → State → Prop} {XC : String → State → State → Prop} {mc ms : Nat} {free : Addr → Prop} {bytes : ByteArray} {maxL : Nat} {ret : Option FieldType} {hh : List (Nat × Nat × Nat × Nat)}
    (hM : vx_Met l y ws rm Pc Qc XC mc ms free) (hblind : FrameBlind Pc) (hrc : rm.cells = mc) (hrs : rm.slots = ms)
    (hframes : rm.frames + 1 ≤ R.frames) (hlocals : W9 + (maxL + 11) + rm.locals ≤ R.locals)
    (hws : ∀ w ∈ ws, ∀ a' U, s.WarmedH U.vm → w.before a' U = true) (hcode : Cond.codeWith y bytes maxL ret hh ∈ ws) (hinit : ∀ a' U, s.WarmedH U.vm → (Cond.initialized y.cls).before a' U = true) :
    vx_Back l R p e below s sargs y len W9 (PreOf R mc ms Pc) (PostOf Qc mc ms free) (vx_Post XC mc ms free) := by
  intro m meth c A g ig mk a X hg hsize hdg hW hn hp
  have h1 : (headSpec ws rm).pre.before a A.U = true := atoms_intro fun w hw => hws w hw _ _ X.warmed
  have h2 : (Cond.codeWith y bytes maxL ret hh).before a A.U = true := hws _ hcode _ _ X.warmed
  have h3 : (Cond.initialized y.cls).before a A.U = true := hinit _ _ X.warmed
  have h4 : A.cells + (headSpec ws rm).room.cells ≤ R.cells := by rw [show (headSpec ws rm).room.cells = mc from hrc]; exact hp.1
  have h5 : A.slots + (headSpec ws rm).room.slots ≤ R.slots := by rw [show (headSpec ws rm).room.slots = ms from hrs]; exact hp.2.1
  have hPc : Pc a (A.U.calling g mk a) := hblind _ _ _ _ hp.2.2
  obtain ⟨U, Ls, c0, s0⟩ := A
  dsimp only [Pt.U, Pt.locs, Pt.cells, Pt.slots] at h1 h2 h3 h4 h5 X hn hPc ⊢
  obtain ⟨m9, methY, cY, hn9, hmY, hcY, -, hlY, -⟩ := Cond.codeWith_spec h2
  cases Option.some.inj (hn9.symm.trans hn)
  obtain ⟨kY, hkY, -⟩ := className_of_methodNamed hn
  have hinitY : kY.init = .initialized := Cond.initialized_spec (findClass_of_methodNamed hn) hkY h3
  have h : At U g.method c below := by rw [hg]; exact X.here
  have hlocals9 : W9 + (maxL + 11) + (headSpec ws rm).room.locals ≤ R.locals := hlocals
  have happ : (headSpec ws rm).appliesLoose y e.platform (U.calling g mk a) = true :=
    Spec.appliesLoose_calling (g := g) h hdg hn hkY hinitY
      (X.room_calling (g := g) (R' := (headSpec ws rm).room) hsize hmY hcY hframes (by rw [hlY]; omega) h4 h5) h1
  obtain ⟨mid, hmid⟩ := h.above
  have hfr : (U.setTop g).frames = (.java g :: mid) ++ below := by rw [State.frames_setTop' g h.top, hmid]; rfl
  obtain ⟨o, s₂, hsteps, -, hend, hq⟩ := Steps.callFree hM p X.admits X.cas X.clock (acts := []) hfr happ hPc trivial
  have hq' : vx_Q Qc XC mc ms free a (U.calling g mk a) o s₂ := hq
  rw [State.frames_setTop' g h.top] at hend
  obtain ⟨g₀, hg0⟩ := Option.isSome_iff_exists.mp h.top
  obtain ⟨r, hr⟩ := State.topJava?_eq_some.mp hg0
  have hr' : (({ U with heap := s₂.heap, slotsUsed := s₂.slotsUsed } : State).setVm s₂.vm).frames = .java g₀ :: r := hr
  rcases hq' with ⟨hqc, L, hfe, hL⟩ | ⟨q, rfl, E, ce, L, hx, hce, hcv, hcl, hW₂, hsm, hL⟩
  · obtain ⟨⟨v, rfl⟩, hW₂, e2, q2, q3, q4, q5, q6⟩ := id hfe
    have e3 : s₂ = ({ (U.calling g mk a).setFrames s₂.frames with heap := s₂.heap, slotsUsed := s₂.slotsUsed } : State).setVm s₂.vm := by
      have : s₂ = ({ s₂ with vm := (U.calling g mk a).vm } : State).setVm s₂.vm := rfl
      rw [e2] at this
      exact this
    obtain ⟨c₂, i₂, len₂, hc₂, hd₂, hf₂⟩ := hend
    have hW' : U.WarmedH s₂.vm := hW₂
    have hcc : c₂ = c := by
      have h1 : s₂.code? g.method = U.code? g.method := by
        rw [State.code?_eq, State.code?_eq, hW'.alike.method?]
      exact Option.some.inj (hc₂.symm.trans (h1.trans h.code))
    subst hcc
    have hlen : len₂ = len := by rw [hdg] at hd₂; cases hd₂; rfl
    subst hlen
    have hs₂ : s₂ = (({ U with heap := s₂.heap, slotsUsed := s₂.slotsUsed } : State).setVm s₂.vm).setTop { g with pc := g.pc + len₂, stack := v.toList ++ g.stack } := by
      refine e3.trans ?_
      rw [hf₂, State.calling_eq h.top, State.setFrames_setFrames, State.setTop_of_frames _ hr', hr]
      rfl
    have hsame : U.sameButNew ({ U with heap := s₂.heap, slotsUsed := s₂.slotsUsed } : State) L mc ms := by
      refine ⟨?_, q2, q3, q4, q5, q6⟩
      obtain ⟨t, ht, -⟩ := State.frames_cons hr
      show ({ U with heap := s₂.heap, slotsUsed := s₂.slotsUsed } : State) = { U.setFrames U.frames with heap := s₂.heap, slotsUsed := s₂.slotsUsed }
      rw [State.setFrames_self ht]
    subst hg
    refine Or.inl ⟨v, ⟨(({ U with heap := s₂.heap, slotsUsed := s₂.slotsUsed } : State).setVm s₂.vm), Ls ++ L, c0 + mc, s0 + ms⟩,
      ⟨X.admits, X.cas, X.clock, X.frames, X.room, X.hears, X.method, X.code, (X.here.setHeapUsed s₂.heap s₂.slotsUsed).setVm hW'.alike, X.tail, State.WarmedH.trans X.warmed hW', X.limits, X.bytes, X.same.trans (hsame.setVm s.vm)⟩,
      ⟨g, mk, s₂, L, rfl, rfl, hqc, rfl, hL, rfl, rfl⟩, ?_⟩
    show Steps p.tables e below _ ((({ U with heap := s₂.heap, slotsUsed := s₂.slotsUsed } : State).setVm s₂.vm).setTop { g with pc := g.pc + len₂, stack := v.toList ++ g.stack })
    rw [← hs₂]
    exact hsteps
  · obtain ⟨e2, q2, q3, q4, q5, q6⟩ := id hsm
    have e3 : s₂ = ({ (U.calling g mk a).setFrames s₂.frames with heap := s₂.heap, slotsUsed := s₂.slotsUsed } : State).setVm s₂.vm := by
      have : s₂ = ({ s₂ with vm := (U.calling g mk a).vm } : State).setVm s₂.vm := rfl
      rw [e2] at this
      exact this
    have hf₂ : s₂.frames = .throwing q :: .java g :: U.frames.tail := hend
    have hW' : U.WarmedH s₂.vm := hW₂
    have hs₂ : s₂ = ((({ U with heap := s₂.heap, slotsUsed := s₂.slotsUsed } : State).setVm s₂.vm).setTop g).pushFrame (.throwing q) := by
      refine e3.trans ?_
      rw [hf₂, State.calling_eq h.top, State.setFrames_setFrames, State.pushFrame, State.frames_setTop _ hr', State.setTop_of_frames _ hr', State.setFrames_setFrames, hr]
      rfl
    have hsame : U.sameButNew ({ U with heap := s₂.heap, slotsUsed := s₂.slotsUsed } : State) L mc ms := by
      refine ⟨?_, q2, q3, q4, q5, q6⟩
      obtain ⟨t, ht, -⟩ := State.frames_cons hr
      show ({ U with heap := s₂.heap, slotsUsed := s₂.slotsUsed } : State) = { U.setFrames U.frames with heap := s₂.heap, slotsUsed := s₂.slotsUsed }
      rw [State.setFrames_self ht]
    subst hg
    refine Or.inr ⟨q, ⟨(({ U with heap := s₂.heap, slotsUsed := s₂.slotsUsed } : State).setVm s₂.vm), Ls ++ L, c0 + mc, s0 + ms⟩,
      ⟨X.admits, X.cas, X.clock, X.frames, X.room, X.hears, X.method, X.code, (X.here.setHeapUsed s₂.heap s₂.slotsUsed).setVm hW'.alike, X.tail, State.WarmedH.trans X.warmed hW', X.limits, X.bytes, X.same.trans (hsame.setVm s.vm)⟩,
      ⟨g, mk, s₂, L, E, ce, rfl, rfl, hx, hce, hcv, hcl, rfl, hL, rfl, rfl⟩, ?_⟩
    show Steps p.tables e below _ (((({ U with heap := s₂.heap, slotsUsed := s₂.slotsUsed } : State).setVm s₂.vm).setTop g).pushFrame (.throwing q))
    rw [← hs₂]
    exact hsteps
end
variable {p : Program} {l : Launch} {e : Env} {R : Room} {s : State} {m : MethodId} {args : Array Value} {below : List Frame} {meth : Method} {c : Code} {T : State} {H : Heap} {locs : List Loc} {cells slots : Nat}
theorem vx_callVX (X : Stand p l e R s m args below meth c T locs cells slots) (hexec : p.tables.exec = Jvm.exec) {own C : String} {index : Nat} {y : MethodName} {bytes : ByteArray} {maxL : Nat} {ret : Option FieldType} {hh : List (Nat × Nat × Nat × Nat)}
    (hown : s.vm.findClass own = some m.cls) (hlink : (Cond.methodLink own index y).before args s = true) (hinst : (Cond.instanceMethod y).before args s = true) (hsel : (Cond.selects C y y).before args s = true)
    (hcode : (Cond.codeWith y bytes maxL ret hh).before args s = true) (hy : y.cls ≠ "java/lang/invoke/MethodHandle" ∧ y.cls ≠ "java/lang/invoke/VarHandle")
    {W9 : Nat} {Pre : Pt → Array Value → Prop} {Post : Pt → Array Value → Option Value → Pt → Prop} {PostX : Pt → Array Value → Addr → Pt → Prop} (hK : vx_Back l R p e below s args y 3 W9 Pre Post PostX)
    {b : Addr} {cellB : Cell} (hcell : T.heap[b]? = some cellB) (hobj : cellB.vm.isStatics = false) (hcls : s.vm.findClass C = some cellB.cls)
    {g : JFrame} (hg : g.method = m) (hsize : g.locals.size = c.maxLocals) {argsL rest : List Value} (hlen : ∀ sig, parseMethodDescriptor y.desc = some sig → argsL.length = sig.parameters.length)
    (hstack : g.stack = argsL.reverse ++ .ref b :: rest) (hW : 2 * g.monitorRoom + (rest.map fun v => v.category).sum ≤ W9) (hdg : decode c.code g.pc = .ok (.invokevirtual index, 3))
    (hpre : ∀ vm₁, s.WarmedH vm₁ → Pre ⟨T.setVm vm₁, locs, cells, slots⟩ (Value.ref b :: argsL).toArray) :
    (∃ (v : Option Value) (vm₁ : Vm) (B : Pt), s.WarmedH vm₁ ∧ Stand p l e R s m args below meth c B.U B.locs B.cells B.slots ∧ Post ⟨T.setVm vm₁, locs, cells, slots⟩ (Value.ref b :: argsL).toArray v B ∧
      ∀ target, Steps p.tables e below (B.U.setTop { g with pc := g.pc + 3, stack := v.toList ++ rest }) target → Steps p.tables e below (T.setTop g) target) ∨
    (∃ (q : Addr) (vm₁ : Vm) (B : Pt), s.WarmedH vm₁ ∧ Stand p l e R s m args below meth c B.U B.locs B.cells B.slots ∧ PostX ⟨T.setVm vm₁, locs, cells, slots⟩ (Value.ref b :: argsL).toArray q B ∧
      Steps p.tables e below (T.setTop g) ((B.U.setTop { g with stack := rest }).pushFrame (.throwing q))) := by
  obtain ⟨mk, methM, hnamed, hmethM, hstM, habM⟩ := Cond.instanceMethod_spec hinst
  obtain ⟨m8, methM', cM, hn8, hmethM', -, -, -, -, -, -, hsigM⟩ := Cond.codeWith_spec hcode
  cases Option.some.inj (hn8.symm.trans hnamed)
  cases hmethM.symm.trans hmethM'
  obtain ⟨c2, r2, m2, q1, q2, q3, q4, kP, hkP, hkPi⟩ := Cond.selects_spec hsel
  cases hcls.symm.trans q1
  cases (State.methodFound?_of_named hnamed hy).symm.trans q2
  cases hnamed.symm.trans q3
  have hselP : selectMethod e.platform s.vm cellB.cls mk = .method mk := by rw [Launch.admits_selectMethod X.admits]; exact q4
  obtain ⟨vm₁, X₁, hstep₁⟩ := X.invokevirtual hexec hown hlink hnamed hmethM hstM hkP hkPi hy (a := b) (cell := cellB) hcell
    (fun z h => by rw [h] at hobj; cases hobj) hselP hmethM habM hkP hkPi (g := g) hg (argsL := argsL) (rest := rest) (hlen _ hsigM) hstack hdg
  rcases hK m meth c ⟨T.setVm vm₁, locs, cells, slots⟩ { g with stack := rest } (.invokevirtual index) mk (Value.ref b :: argsL).toArray X₁ hg hsize hdg hW (X₁.named hnamed) (hpre vm₁ X₁.warmed) with ⟨v, B, X', hpost, hsteps⟩ | ⟨q, B, X', hpost, hsteps⟩
  · exact Or.inl ⟨v, vm₁, B, X₁.warmed, X', hpost, fun target h => hstep₁ _ fun acts => by rw [doInvoke_state]; exact hsteps.trans h⟩
  · exact Or.inr ⟨q, vm₁, B, X₁.warmed, X', hpost, hstep₁ _ fun acts => by rw [doInvoke_state]; exact hsteps⟩
theorem vx_callSX (X : Stand p l e R s m args below meth c T locs cells slots) (hexec : p.tables.exec = Jvm.exec) {own : String} {index : Nat} {y : MethodName} {bytes : ByteArray} {maxL : Nat} {ret : Option FieldType} {hh : List (Nat × Nat × Nat × Nat)}
    (hown : s.vm.findClass own = some m.cls) (hlink : (Cond.methodLink own index y).before args s = true) (hstat : (Cond.static y).before args s = true) (hinit : (Cond.initialized y.cls).before args s = true)
    (hcode : (Cond.codeWith y bytes maxL ret hh).before args s = true) (hy : y.cls ≠ "java/lang/invoke/MethodHandle" ∧ y.cls ≠ "java/lang/invoke/VarHandle")
    {W9 : Nat} {Pre : Pt → Array Value → Prop} {Post : Pt → Array Value → Option Value → Pt → Prop} {PostX : Pt → Array Value → Addr → Pt → Prop} (hK : vx_Back l R p e below s args y 3 W9 Pre Post PostX)
    {g : JFrame} (hg : g.method = m) (hsize : g.locals.size = c.maxLocals) {argsL rest : List Value} (hlen : ∀ sig, parseMethodDescriptor y.desc = some sig → argsL.length = sig.parameters.length)
    (hstack : g.stack = argsL.reverse ++ rest) (hW : 2 * g.monitorRoom + (rest.map fun v => v.category).sum ≤ W9) (hdg : decode c.code g.pc = .ok (.invokestatic index, 3))
    (hpre : ∀ vm₁, s.WarmedH vm₁ → Pre ⟨T.setVm vm₁, locs, cells, slots⟩ argsL.toArray) :
    (∃ (v : Option Value) (vm₁ : Vm) (B : Pt), s.WarmedH vm₁ ∧ Stand p l e R s m args below meth c B.U B.locs B.cells B.slots ∧ Post ⟨T.setVm vm₁, locs, cells, slots⟩ argsL.toArray v B ∧
      ∀ target, Steps p.tables e below (B.U.setTop { g with pc := g.pc + 3, stack := v.toList ++ rest }) target → Steps p.tables e below (T.setTop g) target) ∨
    (∃ (q : Addr) (vm₁ : Vm) (B : Pt), s.WarmedH vm₁ ∧ Stand p l e R s m args below meth c B.U B.locs B.cells B.slots ∧ PostX ⟨T.setVm vm₁, locs, cells, slots⟩ argsL.toArray q B ∧
      Steps p.tables e below (T.setTop g) ((B.U.setTop { g with stack := rest }).pushFrame (.throwing q))) := by
  obtain ⟨mk, methM, cM, hnamed, hmethM, -, -, -, -, -, -, hsigM⟩ := Cond.codeWith_spec hcode
  have hstatic : methM.isStatic = true := Cond.static_spec hnamed hmethM hstat
  obtain ⟨kP, hkP, -⟩ := className_of_methodNamed hnamed
  have hinitP : kP.init = .initialized := Cond.initialized_spec (findClass_of_methodNamed hnamed) hkP hinit
  obtain ⟨vm₁, X₁, hstep₁⟩ := X.invokestatic hexec hown hlink hnamed hmethM hstatic hkP hinitP hy (g := g) hg (argsL := argsL) (rest := rest) (hlen _ hsigM) hstack hdg
  rcases hK m meth c ⟨T.setVm vm₁, locs, cells, slots⟩ { g with stack := rest } (.invokestatic index) mk argsL.toArray X₁ hg hsize hdg hW (X₁.named hnamed) (hpre vm₁ X₁.warmed) with ⟨v, B, X', hpost, hsteps⟩ | ⟨q, B, X', hpost, hsteps⟩
  · exact Or.inl ⟨v, vm₁, B, X₁.warmed, X', hpost, fun target h => hstep₁ _ fun acts => by rw [doInvoke_state]; exact hsteps.trans h⟩
  · exact Or.inr ⟨q, vm₁, B, X₁.warmed, X', hpost, hstep₁ _ fun acts => by rw [doInvoke_state]; exact hsteps⟩
theorem vx_callVW (X : Stand p l e R s m args below meth c T locs cells slots) (hexec : p.tables.exec = Jvm.exec) {own C : String} {index : Nat} {y : MethodName} {bytes : ByteArray} {maxL : Nat} {ret : Option FieldType} {hh : List (Nat × Nat × Nat × Nat)}
    (hown : s.vm.findClass own = some m.cls) (hlink : (Cond.methodLink own index y).before args s = true) (hinst : (Cond.instanceMethod y).before args s = true) (hsel : (Cond.selects C y y).before args s = true)
    (hcode : (Cond.codeWith y bytes maxL ret hh).before args s = true) (hy : y.cls ≠ "java/lang/invoke/MethodHandle" ∧ y.cls ≠ "java/lang/invoke/VarHandle")
    {W9 : Nat} {Pre : Pt → Array Value → Prop} {Post : Pt → Array Value → Option Value → Pt → Prop} (hK : Back l R p e below s args y 3 W9 Pre Post)
    {b : Addr} {cellB : Cell} (hcell : T.heap[b]? = some cellB) (hobj : cellB.vm.isStatics = false) (hcls : s.vm.findClass C = some cellB.cls)
    {g : JFrame} (hg : g.method = m) (hsize : g.locals.size = c.maxLocals) {argsL rest : List Value} (hlen : ∀ sig, parseMethodDescriptor y.desc = some sig → argsL.length = sig.parameters.length)
    (hstack : g.stack = argsL.reverse ++ .ref b :: rest) (hW : 2 * g.monitorRoom + (rest.map fun v => v.category).sum ≤ W9) (hdg : decode c.code g.pc = .ok (.invokevirtual index, 3))
    (hpre : ∀ vm₁, s.WarmedH vm₁ → Pre ⟨T.setVm vm₁, locs, cells, slots⟩ (Value.ref b :: argsL).toArray) :
    ∃ (v : Option Value) (vm₁ : Vm) (B : Pt), s.WarmedH vm₁ ∧ Stand p l e R s m args below meth c B.U B.locs B.cells B.slots ∧ Post ⟨T.setVm vm₁, locs, cells, slots⟩ (Value.ref b :: argsL).toArray v B ∧
      ∀ target, Steps p.tables e below (B.U.setTop { g with pc := g.pc + 3, stack := v.toList ++ rest }) target → Steps p.tables e below (T.setTop g) target := by
  obtain ⟨mk, methM, hnamed, hmethM, hstM, habM⟩ := Cond.instanceMethod_spec hinst
  obtain ⟨m8, methM', cM, hn8, hmethM', -, -, -, -, -, -, hsigM⟩ := Cond.codeWith_spec hcode
  cases Option.some.inj (hn8.symm.trans hnamed)
  cases hmethM.symm.trans hmethM'
  obtain ⟨c2, r2, m2, q1, q2, q3, q4, kP, hkP, hkPi⟩ := Cond.selects_spec hsel
  cases hcls.symm.trans q1
  cases (State.methodFound?_of_named hnamed hy).symm.trans q2
  cases hnamed.symm.trans q3
  have hselP : selectMethod e.platform s.vm cellB.cls mk = .method mk := by rw [Launch.admits_selectMethod X.admits]; exact q4
  obtain ⟨vm₁, X₁, hstep₁⟩ := X.invokevirtual hexec hown hlink hnamed hmethM hstM hkP hkPi hy (a := b) (cell := cellB) hcell
    (fun z h => by rw [h] at hobj; cases hobj) hselP hmethM habM hkP hkPi (g := g) hg (argsL := argsL) (rest := rest) (hlen _ hsigM) hstack hdg
  obtain ⟨v, B, X', hpost, hsteps⟩ := hK m meth c ⟨T.setVm vm₁, locs, cells, slots⟩ { g with stack := rest } (.invokevirtual index) mk (Value.ref b :: argsL).toArray X₁ hg hsize hdg hW (X₁.named hnamed) (hpre vm₁ X₁.warmed)
  exact ⟨v, vm₁, B, X₁.warmed, X', hpost, fun target h => hstep₁ _ fun acts => by rw [doInvoke_state]; exact hsteps.trans h⟩
abbrev vx_CVW (R : Room) (s : State) (args : Array Value) (own C : String) (index : Nat) (y : MethodName) (bytes : ByteArray) (maxL : Nat) (ret : Option FieldType) (hh : List (Nat × Nat × Nat × Nat)) (ws : List Cond) (rm : Room) (mc ms n : Nat) : Prop :=
  (rm.cells = mc ∧ rm.slots = ms ∧ rm.frames + 1 ≤ R.frames ∧ 8 + (maxL + 11) + rm.locals ≤ R.locals ∧ (∀ w ∈ ws, ∀ (a' : Array Value) (U : State), s.WarmedH U.vm → w.before a' U = true) ∧ Cond.codeWith y bytes maxL ret hh ∈ ws) ∧
  (Cond.codeWith y bytes maxL ret hh).before args s = true ∧ (Cond.initialized y.cls).before args s = true ∧ (y.cls ≠ "java/lang/invoke/MethodHandle" ∧ y.cls ≠ "java/lang/invoke/VarHandle") ∧
  (∀ sig, parseMethodDescriptor y.desc = some sig → n = sig.parameters.length) ∧ (Cond.methodLink own index y).before args s = true ∧ (Cond.instanceMethod y).before args s = true ∧ (Cond.selects C y y).before args s = true
theorem vx_cwVW {own C : String} {index maxL mc ms : Nat} {y : MethodName} {bytes : ByteArray} {ret : Option FieldType} {hh : List (Nat × Nat × Nat × Nat)} {Ts ws ws' : List Cond} {rm : Room} (n : Nat) (ht : ∀ w ∈ Ts, w.before args s = true) (hT : GoodIn Ts (wsV own index C y ws)) (hw : ws = Cond.codeWith y bytes maxL ret hh :: ws') (hrc : rm.cells = mc) (hrs : rm.slots = ms)
    (hd : y.cls = C ∧ y.cls ≠ "java/lang/invoke/MethodHandle" ∧ y.cls ≠ "java/lang/invoke/VarHandle" ∧ (parseMethodDescriptor y.desc).map (fun d => d.parameters.length) = some n) (hR : rm.frames + 1 ≤ R.frames ∧ 8 + (maxL + 11) + rm.locals ≤ R.locals) :
    vx_CVW R s args own C index y bytes maxL ret hh ws rm mc ms n := by
  obtain ⟨hC, hd⟩ := hd
  subst hC
  have ok : ∀ w ∈ wsV own index y.cls y ws, w.before args s = true := fun w h => ht w (hT w h).1
  have hG : GoodIn Ts ws := fun w h => hT w (by unfold wsV; exact List.mem_append_right _ h)
  have hc : Cond.codeWith y bytes maxL ret hh ∈ ws := by rw [hw]; exact List.mem_cons_self
  refine ⟨⟨hrc, hrs, hR.1, hR.2, pay_in ht hG, hc⟩, ht _ (hG _ hc).1, ok _ (by simp [wsV]), ⟨hd.1, hd.2.1⟩, fun sig h => ?_, ok _ (by simp [wsV]), ok _ (by simp [wsV]), ok _ (by simp [wsV])⟩
  have h2 := hd.2.2
  rw [h] at h2
  exact (Option.some.inj h2).symm
theorem vx_runVW {y : MethodName} {bytes cc : ByteArray} {maxL nL mc ms n index : Nat} {ret : Option FieldType} {hh : List (Nat × Nat × Nat × Nat)} {ws : List Cond} {rm : Room} {Pc : Array Value → State → Prop} {Qc : Array Value → State → Outcome → State → Prop} {free : Addr → Prop} {Ts : List Cond} {own C : String} {b : Addr} {As rest : List Value} {g : JFrame}
    (S : CallFix p m c cc nL s args Ts own) (hM : Met l y ws rm Pc Qc mc ms free) (cw : vx_CVW R s args own C index y bytes maxL ret hh ws rm mc ms n) (hp : PreV s H C b Pc As)
    (hg : g.method = m) (hn : As.length = n) (hsize : g.locals.size = nL) (hstack : g.stack = As.reverse ++ .ref b :: rest) (hW : 2 * g.monitorRoom + (rest.map fun v => v.category).sum ≤ 8) (hdg : decode cc g.pc = .ok (.invokevirtual index, 3)) (hf : cells + mc ≤ R.cells ∧ slots + ms ≤ R.slots) :
    va_Run p l e R s m args below meth c H locs cells slots mc ms g rest (Qc (Value.ref b :: As).toArray) free := by
  obtain ⟨⟨hrc, hrs, hfr, hlo, hws, hcw⟩, hcode, hini, hy, hlen, hl, hin, hse⟩ := cw
  have hK : Back l R p e below s args y 3 8 (PreOf R mc ms Pc) (PostOf Qc mc ms free) := va_backW (hh := hh) (bytes := bytes) (maxL := maxL) (ret := ret) hM hp.1 hrc hrs hfr hlo hws hcw (fun a' U hW => word_at hW (Or.inl (by first | rfl | simp [Cond.onTables, Cond.keeps, Cond.steady])) hini)
  obtain ⟨hx, hb, hml, ho, -⟩ := S
  obtain ⟨-, ⟨cellB, hcB, hoB, hclB⟩, hPc⟩ := hp
  intro T hT X
  obtain ⟨v, vm₁, ⟨U', l2, c2, s2⟩, hW₁, X', ⟨g', mk, t, L, e1, e2, hq, h1, hL, h2, h3⟩, st⟩ := vx_callVW X hx (C := C) (hh := hh) (bytes := bytes) (maxL := maxL) (ret := ret) ho hl hin hse hcode hy hK (by rw [hT]; exact hcB) hoB hclB hg (hsize.trans hml.symm) (argsL := As) (rest := rest) (fun sig h => hn.trans (hlen sig h)) hstack hW (by rw [hb]; exact hdg)
    (fun vm₁ hW₁ => ⟨hf.1, hf.2, hPc (T.setVm vm₁) hT hW₁⟩)
  dsimp only [Pt.U, Pt.locs, Pt.cells, Pt.slots] at X' e1 e2 h1 h2 h3 st
  subst h1; subst h2; subst h3
  exact ⟨v, (T.setVm vm₁).calling g' mk (Value.ref b :: As).toArray, t, U', L, hT, X', hL, e1, e2, hq, st⟩
section
variable {y : MethodName} {bytes cc : ByteArray} {maxL nL mc ms n index : Nat} {ret : Option FieldType} {ws : List Cond} {rm : Room} {Pc : Array Value → State → Prop} {Qc : Array Value → State → Outcome → State → Prop} {XC : String → State → State → Prop} {free : Addr → Prop} {Ts : List Cond} {own C : String} {b : Addr} {As rest : List Value} {g : JFrame}
theorem vx_runVX {hh : List (Nat × Nat × Nat × Nat)} (S : CallFix p m c cc nL s args Ts own) (hM : vx_Met l y ws rm Pc Qc XC mc ms free) (cw : vx_CVW R s args own C index y bytes maxL ret hh ws rm mc ms n) (hp : PreV s H C b Pc As)
    (hg : g.method = m) (hn : As.length = n) (hsize : g.locals.size = nL) (hstack : g.stack = As.reverse ++ .ref b :: rest) (hW : 2 * g.monitorRoom + (rest.map fun v => v.category).sum ≤ 8) (hdg : decode cc g.pc = .ok (.invokevirtual index, 3)) (hf : cells + mc ≤ R.cells ∧ slots + ms ≤ R.slots) :
    vx_Run p l e R s m args below meth c H locs cells slots mc ms g rest (Qc (Value.ref b :: As).toArray) XC free := by
  obtain ⟨⟨hrc, hrs, hfr, hlo, hws, hcw⟩, hcode, hini, hy, hlen, hl, hin, hse⟩ := cw
  have hK : vx_Back l R p e below s args y 3 8 (PreOf R mc ms Pc) (PostOf Qc mc ms free) (vx_Post XC mc ms free) := vx_backW (hh := hh) (bytes := bytes) (maxL := maxL) (ret := ret) hM hp.1 hrc hrs hfr hlo hws hcw (fun a' U hW => word_at hW (Or.inl (by first | rfl | simp [Cond.onTables, Cond.keeps, Cond.steady])) hini)
  obtain ⟨hx, hb, hml, ho, -⟩ := S
  obtain ⟨-, ⟨cellB, hcB, hoB, hclB⟩, hPc⟩ := hp
  intro T hT X
  rcases vx_callVX X hx (C := C) (hh := hh) (bytes := bytes) (maxL := maxL) (ret := ret) ho hl hin hse hcode hy hK (by rw [hT]; exact hcB) hoB hclB hg (hsize.trans hml.symm) (argsL := As) (rest := rest) (fun sig h => hn.trans (hlen sig h)) hstack hW (by rw [hb]; exact hdg)
    (fun vm₁ hW₁ => ⟨hf.1, hf.2, hPc (T.setVm vm₁) hT hW₁⟩) with ⟨v, vm₁, ⟨U', l2, c2, s2⟩, hW₁, X', ⟨g', mk, t, L, e1, e2, hq, h1, hL, h2, h3⟩, st⟩ | ⟨q, vm₁, ⟨U', l2, c2, s2⟩, hW₁, X', ⟨g', mk, t, L, E, ce, e1, e2, hq, hce, hcv, hcl, h1, hL, h2, h3⟩, st⟩
  · dsimp only [Pt.U, Pt.locs, Pt.cells, Pt.slots] at X' e1 e2 h1 h2 h3 st
    subst h1; subst h2; subst h3
    exact Or.inl ⟨v, (T.setVm vm₁).calling g' mk (Value.ref b :: As).toArray, t, U', L, hT, X', hL, e1, e2, hq, st⟩
  · dsimp only [Pt.U, Pt.locs, Pt.cells, Pt.slots] at X' e1 e2 h1 h2 h3 st hcl
    subst h1; subst h2; subst h3
    exact Or.inr ⟨q, (T.setVm vm₁).calling g' mk (Value.ref b :: As).toArray, t, U', L, E, ce, hT, X', hL, e1, e2, hq, hce, hcv, vx_cls hW₁ hcl, st⟩
theorem vx_runSX {hh : List (Nat × Nat × Nat × Nat)} (S : CallFix p m c cc nL s args Ts own) (hM : vx_Met l y ws rm Pc Qc XC mc ms free) (cw : vx_CSW R s args own index y bytes maxL ret hh ws rm mc ms n) (hp : PreS s H Pc As)
    (hg : g.method = m) (hn : As.length = n) (hsize : g.locals.size = nL) (hstack : g.stack = As.reverse ++ rest) (hW : 2 * g.monitorRoom + (rest.map fun v => v.category).sum ≤ 8) (hdg : decode cc g.pc = .ok (.invokestatic index, 3)) (hf : cells + mc ≤ R.cells ∧ slots + ms ≤ R.slots) :
    vx_Run p l e R s m args below meth c H locs cells slots mc ms g rest (Qc As.toArray) XC free := by
  obtain ⟨⟨hrc, hrs, hfr, hlo, hws, hcw⟩, hcode, hini, hy, hlen, hl, hstt⟩ := cw
  have hK : vx_Back l R p e below s args y 3 8 (PreOf R mc ms Pc) (PostOf Qc mc ms free) (vx_Post XC mc ms free) := vx_backW (hh := hh) (bytes := bytes) (maxL := maxL) (ret := ret) hM hp.1 hrc hrs hfr hlo hws hcw (fun a' U hW => word_at hW (Or.inl (by first | rfl | simp [Cond.onTables, Cond.keeps, Cond.steady])) hini)
  obtain ⟨hx, hb, hml, ho, -⟩ := S
  intro T hT X
  rcases vx_callSX X hx (hh := hh) (bytes := bytes) (maxL := maxL) (ret := ret) ho hl hstt hini hcode hy hK hg (hsize.trans hml.symm) (argsL := As) (rest := rest) (fun sig h => hn.trans (hlen sig h)) hstack hW (by rw [hb]; exact hdg)
    (fun vm₁ hW₁ => ⟨hf.1, hf.2, hp.2 (T.setVm vm₁) hT hW₁⟩) with ⟨v, vm₁, ⟨U', l2, c2, s2⟩, hW₁, X', ⟨g', mk, t, L, e1, e2, hq, h1, hL, h2, h3⟩, st⟩ | ⟨q, vm₁, ⟨U', l2, c2, s2⟩, hW₁, X', ⟨g', mk, t, L, E, ce, e1, e2, hq, hce, hcv, hcl, h1, hL, h2, h3⟩, st⟩
  · dsimp only [Pt.U, Pt.locs, Pt.cells, Pt.slots] at X' e1 e2 h1 h2 h3 st
    subst h1; subst h2; subst h3
    exact Or.inl ⟨v, (T.setVm vm₁).calling g' mk As.toArray, t, U', L, hT, X', hL, e1, e2, hq, st⟩
  · dsimp only [Pt.U, Pt.locs, Pt.cells, Pt.slots] at X' e1 e2 h1 h2 h3 st hcl
    subst h1; subst h2; subst h3
    exact Or.inr ⟨q, (T.setVm vm₁).calling g' mk As.toArray, t, U', L, E, ce, hT, X', hL, e1, e2, hq, hce, hcv, vx_cls hW₁ hcl, st⟩
end
end VXH
theorem vx_ofWH {l : Launch} {y : MethodName} {ws ws' : List Cond} {rm : Room} {Pc : Array Value → State → Prop} {Qc : Array Value → State → Outcome → State → Prop} {XC : String → State → State → Prop} {mc ms : Nat} {free : Addr → Prop} {cc : ByteArray} {maxL : Nat} {ret : Option FieldType} {hh : List (Nat × Nat × Nat × Nat)}
    (hy : plainName y.cls = true) (hw : ws = Cond.codeWith y cc maxL ret hh :: ws')
    (body : ∀ p e s m args below meth c s₁, BodyLoose p l y (headSpec ws rm) cc maxL ret e s m args below meth c s₁ → c.maxLocals = maxL → Pc args s →
      W p l e (headSpec ws rm).room s m args below meth c s.heap [] 0 0 (vx_MQ below Qc XC args s mc ms free) (entryFrame m args maxL)) : vx_Met l y ws rm Pc Qc XC mc ms free := by
  refine MetFree.of_bodyS (code := cc) (maxLocals := maxL) (ret := ret) hy ?_ ?_
  · intro args s m h hn
    obtain ⟨m9, meth, c, hn9, h1, h2, h3, h4, -, h5, h6, -⟩ := Cond.codeWith_spec (atoms_spec (ws := ws) h _ (by rw [hw]; exact List.mem_cons_self))
    cases hn.symm.trans hn9
    exact ⟨meth, c, h1, h2, h3, h4, h5, h6⟩
  · intro p e s m args below meth c s₁ B hml hP _
    have hh0 : s₁.heap = s.heap := by rw [B.state]; rfl
    obtain ⟨t, a1, o, b1, b2, b3⟩ := body p e s m args below meth c s₁ B hml hP s₁ hh0 (Stand.of_body B)
    exact ⟨t, o, a1, b1, b2, b3⟩
/-! ===== END ===== -/
end
section
def RX0 : String := "PolicyDesk$1"
def TX0 : u_T := fun k => match k with
  | _ => ("", "", "", false)
def tyX0 : Nat → FieldType := fun k => match k with
  | _ => .int
abbrev wsX00 : List Cond := u_ws RX0 TX0 0
theorem nmX0 : ∀ a, a < 0 → ∀ b, b < 0 → a ≠ b → (TX0 a).2.1 ≠ (TX0 b).2.1 := by decide +kernel
theorem tyX0_ok : ∀ k, k < 0 → parseFieldDescriptor (TX0 k).2.2.1 = some (tyX0 k) := by decide +kernel
def RX1 : String := "PolicyDesk$ByteRow"
def TX1 : u_T := fun k => match k with
  | 0 => ("PolicyDesk$ByteRow", "bytes", "[I", true)
  | 1 => ("PolicyDesk$ByteRow", "length", "I", false)
  | 2 => ("PolicyDesk$ByteRow", "taken", "I", false)
  | _ => ("PolicyDesk$ByteRow", "broken", "Z", false)
def tyX1 : Nat → FieldType := fun k => match k with
  | 0 => .array .int
  | 1 => .int
  | 2 => .int
  | _ => .boolean
abbrev wsX10 : List Cond := u_ws RX1 TX1 4
theorem nmX1 : ∀ a, a < 4 → ∀ b, b < 4 → a ≠ b → (TX1 a).2.1 ≠ (TX1 b).2.1 := by decide +kernel
theorem tyX1_ok : ∀ k, k < 4 → parseFieldDescriptor (TX1 k).2.2.1 = some (tyX1 k) := by decide +kernel
abbrev cX1_init : ByteArray := prog_3_method_1_code
def yX1_init : MethodName := ⟨RX1, "<init>", "()V"⟩
abbrev cX1_length : ByteArray := prog_3_method_2_code
def yX1_length : MethodName := ⟨RX1, "length", "()I"⟩
abbrev cX1_room : ByteArray := prog_3_method_3_code
def yX1_room : MethodName := ⟨RX1, "room", "()I"⟩
abbrev cX1_clear : ByteArray := prog_3_method_4_code
def yX1_clear : MethodName := ⟨RX1, "clear", "()V"⟩
abbrev cX1_push : ByteArray := prog_3_method_5_code
def yX1_push : MethodName := ⟨RX1, "push", "(I)V"⟩
abbrev cX1_byteAt : ByteArray := prog_3_method_6_code
def yX1_byteAt : MethodName := ⟨RX1, "byteAt", "(I)I"⟩
abbrev cX1_rewind : ByteArray := prog_3_method_7_code
def yX1_rewind : MethodName := ⟨RX1, "rewind", "()V"⟩
abbrev cX1_take : ByteArray := prog_3_method_8_code
def yX1_take : MethodName := ⟨RX1, "take", "(II)I"⟩
abbrev cX1_isTakenWhole : ByteArray := prog_3_method_9_code
def yX1_isTakenWhole : MethodName := ⟨RX1, "isTakenWhole", "()Z"⟩
def RX2 : String := "PolicyDesk$Composer"
def TX2 : u_T := fun k => match k with
  | _ => ("", "", "", false)
def tyX2 : Nat → FieldType := fun k => match k with
  | _ => .int
abbrev wsX20 : List Cond := u_ws RX2 TX2 0
theorem nmX2 : ∀ a, a < 0 → ∀ b, b < 0 → a ≠ b → (TX2 a).2.1 ≠ (TX2 b).2.1 := by decide +kernel
theorem tyX2_ok : ∀ k, k < 0 → parseFieldDescriptor (TX2 k).2.2.1 = some (tyX2 k) := by decide +kernel
abbrev cX2_compose : ByteArray := prog_4_method_2_code
def yX2_compose : MethodName := ⟨RX2, "compose", "(LPolicyDesk$Draft;LPolicyDesk$Policy;)V"⟩
abbrev cX2_declare : ByteArray := prog_4_method_3_code
def yX2_declare : MethodName := ⟨RX2, "declare", "(LPolicyDesk$Statement;LPolicyDesk$Policy;)V"⟩
abbrev cX2_apply : ByteArray := prog_4_method_4_code
def yX2_apply : MethodName := ⟨RX2, "apply", "(LPolicyDesk$Draft;LPolicyDesk$Statement;LPolicyDesk$Policy;)V"⟩
abbrev cX2_widen : ByteArray := prog_4_method_5_code
def yX2_widen : MethodName := ⟨RX2, "widen", "(LPolicyDesk$Draft;LPolicyDesk$Statement;LPolicyDesk$Policy;I)V"⟩
abbrev cX2_allow : ByteArray := prog_4_method_6_code
def yX2_allow : MethodName := ⟨RX2, "allow", "(LPolicyDesk$Draft;LPolicyDesk$Statement;LPolicyDesk$Policy;)V"⟩
abbrev cX2_firstAgainst : ByteArray := prog_4_method_7_code
def yX2_firstAgainst : MethodName := ⟨RX2, "firstAgainst", "(LPolicyDesk$Draft;LPolicyDesk$Policy;)I"⟩
abbrev cX2_isAgainst : ByteArray := prog_4_method_8_code
def yX2_isAgainst : MethodName := ⟨RX2, "isAgainst", "(LPolicyDesk$Draft;LPolicyDesk$Statement;LPolicyDesk$Policy;)Z"⟩
abbrev cX2_othersFor : ByteArray := prog_4_method_9_code
def yX2_othersFor : MethodName := ⟨RX2, "othersFor", "(LPolicyDesk$Statement;II)I"⟩
def RX3 : String := "PolicyDesk$Draft"
def TX3 : u_T := fun k => match k with
  | 0 => ("PolicyDesk$Draft", "rows", "[LPolicyDesk$Statement;", true)
  | _ => ("PolicyDesk$Draft", "size", "I", false)
def tyX3 : Nat → FieldType := fun k => match k with
  | 0 => .array (.object "PolicyDesk$Statement")
  | _ => .int
abbrev wsX30 : List Cond := u_ws RX3 TX3 2
theorem nmX3 : ∀ a, a < 2 → ∀ b, b < 2 → a ≠ b → (TX3 a).2.1 ≠ (TX3 b).2.1 := by decide +kernel
theorem tyX3_ok : ∀ k, k < 2 → parseFieldDescriptor (TX3 k).2.2.1 = some (tyX3 k) := by decide +kernel
abbrev cX3_init : ByteArray := prog_5_method_1_code
def yX3_init : MethodName := ⟨RX3, "<init>", "()V"⟩
abbrev cX3_size : ByteArray := prog_5_method_2_code
def yX3_size : MethodName := ⟨RX3, "size", "()I"⟩
abbrev cX3_row : ByteArray := prog_5_method_3_code
def yX3_row : MethodName := ⟨RX3, "row", "(I)LPolicyDesk$Statement;"⟩
abbrev cX3_spare : ByteArray := prog_5_method_4_code
def yX3_spare : MethodName := ⟨RX3, "spare", "()LPolicyDesk$Statement;"⟩
abbrev cX3_hasRoom : ByteArray := prog_5_method_5_code
def yX3_hasRoom : MethodName := ⟨RX3, "hasRoom", "()Z"⟩
abbrev cX3_keepSpare : ByteArray := prog_5_method_6_code
def yX3_keepSpare : MethodName := ⟨RX3, "keepSpare", "()I"⟩
abbrev cX3_shorten : ByteArray := prog_5_method_7_code
def yX3_shorten : MethodName := ⟨RX3, "shorten", "(I)Z"⟩
abbrev cX3_firstWrong : ByteArray := prog_5_method_8_code
def yX3_firstWrong : MethodName := ⟨RX3, "firstWrong", "()I"⟩
abbrev cX3_isWrong : ByteArray := prog_5_method_9_code
def yX3_isWrong : MethodName := ⟨RX3, "isWrong", "(I)Z"⟩
abbrev cX3_repeats : ByteArray := prog_5_method_10_code
def yX3_repeats : MethodName := ⟨RX3, "repeats", "(II)Z"⟩
abbrev cX3_howMany : ByteArray := prog_5_method_11_code
def yX3_howMany : MethodName := ⟨RX3, "howMany", "(LPolicyDesk$Kind;I)I"⟩
abbrev cX3_isType : ByteArray := prog_5_method_12_code
def yX3_isType : MethodName := ⟨RX3, "isType", "(I)Z"⟩
abbrev cX3_isAttribute : ByteArray := prog_5_method_13_code
def yX3_isAttribute : MethodName := ⟨RX3, "isAttribute", "(I)Z"⟩
abbrev cX3_isDoer : ByteArray := prog_5_method_14_code
def yX3_isDoer : MethodName := ⟨RX3, "isDoer", "(I)Z"⟩
abbrev cX3_declaresPermissions : ByteArray := prog_5_method_15_code
def yX3_declaresPermissions : MethodName := ⟨RX3, "declaresPermissions", "(LPolicyDesk$Statement;I)Z"⟩
abbrev cX3_declaresPermission : ByteArray := prog_5_method_16_code
def yX3_declaresPermission : MethodName := ⟨RX3, "declaresPermission", "(II)Z"⟩
abbrev cX3_numberOf : ByteArray := prog_5_method_17_code
def yX3_numberOf : MethodName := ⟨RX3, "numberOf", "(LPolicyDesk$Kind;I)I"⟩
abbrev cX3_typesNamed : ByteArray := prog_5_method_18_code
def yX3_typesNamed : MethodName := ⟨RX3, "typesNamed", "(I)I"⟩
abbrev cX3_maskOf : ByteArray := prog_5_method_19_code
def yX3_maskOf : MethodName := ⟨RX3, "maskOf", "(LPolicyDesk$Statement;I)I"⟩
def RX4 : String := "PolicyDesk$ImageCodec"
def TX4 : u_T := fun k => match k with
  | _ => ("", "", "", false)
def tyX4 : Nat → FieldType := fun k => match k with
  | _ => .int
abbrev wsX40 : List Cond := u_ws RX4 TX4 0
theorem nmX4 : ∀ a, a < 0 → ∀ b, b < 0 → a ≠ b → (TX4 a).2.1 ≠ (TX4 b).2.1 := by decide +kernel
theorem tyX4_ok : ∀ k, k < 0 → parseFieldDescriptor (TX4 k).2.2.1 = some (tyX4 k) := by decide +kernel
abbrev cX4_encode : ByteArray := prog_6_method_2_code
def yX4_encode : MethodName := ⟨RX4, "encode", "(LPolicyDesk$Policy;LPolicyDesk$ByteRow;)V"⟩
abbrev cX4_encodeClass : ByteArray := prog_6_method_3_code
def yX4_encodeClass : MethodName := ⟨RX4, "encodeClass", "(LPolicyDesk$Policy;ILPolicyDesk$ByteRow;)V"⟩
abbrev cX4_decode : ByteArray := prog_6_method_4_code
def yX4_decode : MethodName := ⟨RX4, "decode", "(LPolicyDesk$ByteRow;LPolicyDesk$Policy;)Z"⟩
abbrev cX4_decodeClass : ByteArray := prog_6_method_5_code
def yX4_decodeClass : MethodName := ⟨RX4, "decodeClass", "(LPolicyDesk$ByteRow;ILPolicyDesk$Policy;)V"⟩
def RX5 : String := "PolicyDesk$Kind"
def TX5 : u_T := fun k => match k with
  | _ => ("", "", "", false)
def tyX5 : Nat → FieldType := fun k => match k with
  | _ => .int
abbrev wsX50 : List Cond := u_ws RX5 TX5 0
theorem nmX5 : ∀ a, a < 0 → ∀ b, b < 0 → a ≠ b → (TX5 a).2.1 ≠ (TX5 b).2.1 := by decide +kernel
theorem tyX5_ok : ∀ k, k < 0 → parseFieldDescriptor (TX5 k).2.2.1 = some (tyX5 k) := by decide +kernel
def RX6 : String := "PolicyDesk$Memory"
def TX6 : u_T := fun k => match k with
  | 0 => ("PolicyDesk$Memory", "questions", "[I", true)
  | 1 => ("PolicyDesk$Memory", "answers", "[I", true)
  | 2 => ("PolicyDesk$Memory", "size", "I", false)
  | 3 => ("PolicyDesk$Memory", "hits", "I", false)
  | _ => ("PolicyDesk$Memory", "misses", "I", false)
def tyX6 : Nat → FieldType := fun k => match k with
  | 0 => .array .int
  | 1 => .array .int
  | 2 => .int
  | 3 => .int
  | _ => .int
abbrev wsX60 : List Cond := u_ws RX6 TX6 5
theorem nmX6 : ∀ a, a < 5 → ∀ b, b < 5 → a ≠ b → (TX6 a).2.1 ≠ (TX6 b).2.1 := by decide +kernel
theorem tyX6_ok : ∀ k, k < 5 → parseFieldDescriptor (TX6 k).2.2.1 = some (tyX6 k) := by decide +kernel
abbrev cX6_init : ByteArray := prog_8_method_1_code
def yX6_init : MethodName := ⟨RX6, "<init>", "(I)V"⟩
abbrev cX6_size : ByteArray := prog_8_method_2_code
def yX6_size : MethodName := ⟨RX6, "size", "()I"⟩
abbrev cX6_hits : ByteArray := prog_8_method_3_code
def yX6_hits : MethodName := ⟨RX6, "hits", "()I"⟩
abbrev cX6_misses : ByteArray := prog_8_method_4_code
def yX6_misses : MethodName := ⟨RX6, "misses", "()I"⟩
abbrev cX6_forget : ByteArray := prog_8_method_5_code
def yX6_forget : MethodName := ⟨RX6, "forget", "()V"⟩
abbrev cX6_recall : ByteArray := prog_8_method_6_code
def yX6_recall : MethodName := ⟨RX6, "recall", "(I)I"⟩
abbrev cX6_keep : ByteArray := prog_8_method_7_code
def yX6_keep : MethodName := ⟨RX6, "keep", "(II)V"⟩
abbrev cX6_drop : ByteArray := prog_8_method_8_code
def yX6_drop : MethodName := ⟨RX6, "drop", "(I)V"⟩
abbrev cX6_append : ByteArray := prog_8_method_9_code
def yX6_append : MethodName := ⟨RX6, "append", "(II)V"⟩
def RX7 : String := "PolicyDesk$Policy"
def TX7 : u_T := fun k => match k with
  | 0 => ("PolicyDesk$Policy", "permissions", "[I", true)
  | 1 => ("PolicyDesk$Policy", "ranks", "[I", true)
  | 2 => ("PolicyDesk$Policy", "allowed", "[I", true)
  | 3 => ("PolicyDesk$Policy", "products", "[I", true)
  | 4 => ("PolicyDesk$Policy", "masks", "[I", true)
  | 5 => ("PolicyDesk$Policy", "types", "I", false)
  | _ => ("PolicyDesk$Policy", "classes", "I", false)
def tyX7 : Nat → FieldType := fun k => match k with
  | 0 => .array .int
  | 1 => .array .int
  | 2 => .array .int
  | 3 => .array .int
  | 4 => .array .int
  | 5 => .int
  | _ => .int
abbrev wsX70 : List Cond := u_ws RX7 TX7 7
theorem nmX7 : ∀ a, a < 7 → ∀ b, b < 7 → a ≠ b → (TX7 a).2.1 ≠ (TX7 b).2.1 := by decide +kernel
theorem tyX7_ok : ∀ k, k < 7 → parseFieldDescriptor (TX7 k).2.2.1 = some (tyX7 k) := by decide +kernel
abbrev cX7_init : ByteArray := prog_9_method_1_code
def yX7_init : MethodName := ⟨RX7, "<init>", "()V"⟩
abbrev cX7_clear : ByteArray := prog_9_method_2_code
def yX7_clear : MethodName := ⟨RX7, "clear", "()V"⟩
abbrev cX7_declareType : ByteArray := prog_9_method_3_code
def yX7_declareType : MethodName := ⟨RX7, "declareType", "()V"⟩
abbrev cX7_declareClass : ByteArray := prog_9_method_4_code
def yX7_declareClass : MethodName := ⟨RX7, "declareClass", "(I)V"⟩
abbrev cX7_types : ByteArray := prog_9_method_5_code
def yX7_types : MethodName := ⟨RX7, "types", "()I"⟩
abbrev cX7_classes : ByteArray := prog_9_method_6_code
def yX7_classes : MethodName := ⟨RX7, "classes", "()I"⟩
abbrev cX7_hasType : ByteArray := prog_9_method_7_code
def yX7_hasType : MethodName := ⟨RX7, "hasType", "(I)Z"⟩
abbrev cX7_has : ByteArray := prog_9_method_8_code
def yX7_has : MethodName := ⟨RX7, "has", "(III)Z"⟩
abbrev cX7_permissionsOf : ByteArray := prog_9_method_9_code
def yX7_permissionsOf : MethodName := ⟨RX7, "permissionsOf", "(I)I"⟩
abbrev cX7_rankOf : ByteArray := prog_9_method_10_code
def yX7_rankOf : MethodName := ⟨RX7, "rankOf", "(I)I"⟩
abbrev cX7_setRank : ByteArray := prog_9_method_11_code
def yX7_setRank : MethodName := ⟨RX7, "setRank", "(II)V"⟩
abbrev cX7_allowedAt : ByteArray := prog_9_method_12_code
def yX7_allowedAt : MethodName := ⟨RX7, "allowedAt", "(III)I"⟩
abbrev cX7_setAllowed : ByteArray := prog_9_method_13_code
def yX7_setAllowed : MethodName := ⟨RX7, "setAllowed", "(IIII)V"⟩
abbrev cX7_addAllowed : ByteArray := prog_9_method_14_code
def yX7_addAllowed : MethodName := ⟨RX7, "addAllowed", "(IIII)V"⟩
abbrev cX7_allowsSome : ByteArray := prog_9_method_15_code
def yX7_allowsSome : MethodName := ⟨RX7, "allowsSome", "(IIII)Z"⟩
abbrev cX7_productAt : ByteArray := prog_9_method_16_code
def yX7_productAt : MethodName := ⟨RX7, "productAt", "(III)I"⟩
abbrev cX7_setProduct : ByteArray := prog_9_method_17_code
def yX7_setProduct : MethodName := ⟨RX7, "setProduct", "(IIII)V"⟩
abbrev cX7_maskAt : ByteArray := prog_9_method_18_code
def yX7_maskAt : MethodName := ⟨RX7, "maskAt", "(II)I"⟩
abbrev cX7_addToMask : ByteArray := prog_9_method_19_code
def yX7_addToMask : MethodName := ⟨RX7, "addToMask", "(III)V"⟩
abbrev cX7_hasMask : ByteArray := prog_9_method_20_code
def yX7_hasMask : MethodName := ⟨RX7, "hasMask", "(II)Z"⟩
abbrev cX7_permitted : ByteArray := prog_9_method_21_code
def yX7_permitted : MethodName := ⟨RX7, "permitted", "(III)I"⟩
abbrev cX7_stepsBetween : ByteArray := prog_9_method_22_code
def yX7_stepsBetween : MethodName := ⟨RX7, "stepsBetween", "(II)I"⟩
abbrev cX7_spread : ByteArray := prog_9_method_23_code
def yX7_spread : MethodName := ⟨RX7, "spread", "(I)I"⟩
abbrev cX7_flowsInOneStep : ByteArray := prog_9_method_24_code
def yX7_flowsInOneStep : MethodName := ⟨RX7, "flowsInOneStep", "(II)Z"⟩
def RX8 : String := "PolicyDesk$Reader"
def TX8 : u_T := fun k => match k with
  | 0 => ("PolicyDesk$Reader", "text", "LPolicyDesk$Text;", true)
  | _ => ("PolicyDesk$Reader", "at", "I", false)
def tyX8 : Nat → FieldType := fun k => match k with
  | 0 => .object "PolicyDesk$Text"
  | _ => .int
abbrev wsX80 : List Cond := u_ws RX8 TX8 2
theorem nmX8 : ∀ a, a < 2 → ∀ b, b < 2 → a ≠ b → (TX8 a).2.1 ≠ (TX8 b).2.1 := by decide +kernel
theorem tyX8_ok : ∀ k, k < 2 → parseFieldDescriptor (TX8 k).2.2.1 = some (tyX8 k) := by decide +kernel
abbrev cX8_init : ByteArray := prog_10_method_1_code
def yX8_init : MethodName := ⟨RX8, "<init>", "(LPolicyDesk$Text;)V"⟩
abbrev cX8_stoppedAt : ByteArray := prog_10_method_2_code
def yX8_stoppedAt : MethodName := ⟨RX8, "stoppedAt", "()I"⟩
abbrev cX8_parse : ByteArray := prog_10_method_3_code
def yX8_parse : MethodName := ⟨RX8, "parse", "(LPolicyDesk$Statement;)Z"⟩
abbrev cX8_keyword : ByteArray := prog_10_method_4_code
def yX8_keyword : MethodName := ⟨RX8, "keyword", "(LPolicyDesk$Statement;)Z"⟩
abbrev cX8_lettersShared : ByteArray := prog_10_method_5_code
def yX8_lettersShared : MethodName := ⟨RX8, "lettersShared", "(Ljava/lang/String;)I"⟩
abbrev cX8_names : ByteArray := prog_10_method_6_code
def yX8_names : MethodName := ⟨RX8, "names", "(LPolicyDesk$Statement;I)Z"⟩
abbrev cX8_mark : ByteArray := prog_10_method_7_code
def yX8_mark : MethodName := ⟨RX8, "mark", "(LPolicyDesk$Statement;Ljava/lang/String;)Z"⟩
abbrev cX8_list : ByteArray := prog_10_method_8_code
def yX8_list : MethodName := ⟨RX8, "list", "(LPolicyDesk$Statement;II)Z"⟩
abbrev cX8_blank : ByteArray := prog_10_method_9_code
def yX8_blank : MethodName := ⟨RX8, "blank", "()Z"⟩
abbrev cX8_name : ByteArray := prog_10_method_10_code
def yX8_name : MethodName := ⟨RX8, "name", "(LPolicyDesk$Statement;)Z"⟩
abbrev cX8_atEnd : ByteArray := prog_10_method_11_code
def yX8_atEnd : MethodName := ⟨RX8, "atEnd", "()Z"⟩
abbrev cX8_isLetter : ByteArray := prog_10_method_12_code
def yX8_isLetter : MethodName := ⟨RX8, "isLetter", "(I)Z"⟩
def RX9 : String := "PolicyDesk$Statement"
def TX9 : u_T := fun k => match k with
  | 0 => ("PolicyDesk$Statement", "words", "[I", true)
  | 1 => ("PolicyDesk$Statement", "kind", "LPolicyDesk$Kind;", false)
  | 2 => ("PolicyDesk$Statement", "size", "I", false)
  | _ => ("PolicyDesk$Statement", "mark", "I", false)
def tyX9 : Nat → FieldType := fun k => match k with
  | 0 => .array .int
  | 1 => .object "PolicyDesk$Kind"
  | 2 => .int
  | _ => .int
abbrev wsX90 : List Cond := u_ws RX9 TX9 4
theorem nmX9 : ∀ a, a < 4 → ∀ b, b < 4 → a ≠ b → (TX9 a).2.1 ≠ (TX9 b).2.1 := by decide +kernel
theorem tyX9_ok : ∀ k, k < 4 → parseFieldDescriptor (TX9 k).2.2.1 = some (tyX9 k) := by decide +kernel
abbrev cX9_init : ByteArray := prog_11_method_1_code
def yX9_init : MethodName := ⟨RX9, "<init>", "()V"⟩
abbrev cX9_begin : ByteArray := prog_11_method_2_code
def yX9_begin : MethodName := ⟨RX9, "begin", "(LPolicyDesk$Kind;)V"⟩
abbrev cX9_push : ByteArray := prog_11_method_3_code
def yX9_push : MethodName := ⟨RX9, "push", "(I)V"⟩
abbrev cX9_setMark : ByteArray := prog_11_method_4_code
def yX9_setMark : MethodName := ⟨RX9, "setMark", "(I)V"⟩
abbrev cX9_kind : ByteArray := prog_11_method_5_code
def yX9_kind : MethodName := ⟨RX9, "kind", "()LPolicyDesk$Kind;"⟩
abbrev cX9_mark : ByteArray := prog_11_method_6_code
def yX9_mark : MethodName := ⟨RX9, "mark", "()I"⟩
abbrev cX9_size : ByteArray := prog_11_method_7_code
def yX9_size : MethodName := ⟨RX9, "size", "()I"⟩
abbrev cX9_word : ByteArray := prog_11_method_8_code
def yX9_word : MethodName := ⟨RX9, "word", "(I)I"⟩
abbrev cX9_find : ByteArray := prog_11_method_9_code
def yX9_find : MethodName := ⟨RX9, "find", "(II)I"⟩
abbrev cX9_allDifferFrom : ByteArray := prog_11_method_10_code
def yX9_allDifferFrom : MethodName := ⟨RX9, "allDifferFrom", "(I)Z"⟩
abbrev cX9_beginsAs : ByteArray := prog_11_method_11_code
def yX9_beginsAs : MethodName := ⟨RX9, "beginsAs", "(LPolicyDesk$Statement;I)Z"⟩
def RX10 : String := "PolicyDesk$Text"
def TX10 : u_T := fun k => match k with
  | 0 => ("PolicyDesk$Text", "codes", "[I", true)
  | _ => ("PolicyDesk$Text", "length", "I", false)
def tyX10 : Nat → FieldType := fun k => match k with
  | 0 => .array .int
  | _ => .int
abbrev wsX100 : List Cond := u_ws RX10 TX10 2
theorem nmX10 : ∀ a, a < 2 → ∀ b, b < 2 → a ≠ b → (TX10 a).2.1 ≠ (TX10 b).2.1 := by decide +kernel
theorem tyX10_ok : ∀ k, k < 2 → parseFieldDescriptor (TX10 k).2.2.1 = some (tyX10 k) := by decide +kernel
abbrev cX10_init : ByteArray := prog_12_method_1_code
def yX10_init : MethodName := ⟨RX10, "<init>", "()V"⟩
abbrev cX10_append : ByteArray := prog_12_method_2_code
def yX10_append : MethodName := ⟨RX10, "append", "(J)Z"⟩
abbrev cX10_appendCode : ByteArray := prog_12_method_3_code
def yX10_appendCode : MethodName := ⟨RX10, "appendCode", "(I)V"⟩
abbrev cX10_codeAt : ByteArray := prog_12_method_4_code
def yX10_codeAt : MethodName := ⟨RX10, "codeAt", "(I)I"⟩
abbrev cX10_length : ByteArray := prog_12_method_5_code
def yX10_length : MethodName := ⟨RX10, "length", "()I"⟩
abbrev cX10_clear : ByteArray := prog_12_method_6_code
def yX10_clear : MethodName := ⟨RX10, "clear", "()V"⟩
def RX11 : String := "PolicyDesk"
def TX11 : u_T := fun k => match k with
  | 0 => ("PolicyDesk", "text", "LPolicyDesk$Text;", true)
  | 1 => ("PolicyDesk", "reader", "LPolicyDesk$Reader;", true)
  | 2 => ("PolicyDesk", "draft", "LPolicyDesk$Draft;", true)
  | 3 => ("PolicyDesk", "memory", "LPolicyDesk$Memory;", true)
  | 4 => ("PolicyDesk", "written", "LPolicyDesk$ByteRow;", true)
  | 5 => ("PolicyDesk", "fed", "LPolicyDesk$ByteRow;", true)
  | 6 => ("PolicyDesk", "policy", "LPolicyDesk$Policy;", false)
  | 7 => ("PolicyDesk", "coming", "LPolicyDesk$Policy;", false)
  | 8 => ("PolicyDesk", "errorAt", "I", false)
  | _ => ("PolicyDesk", "faultAt", "I", false)
def tyX11 : Nat → FieldType := fun k => match k with
  | 0 => .object "PolicyDesk$Text"
  | 1 => .object "PolicyDesk$Reader"
  | 2 => .object "PolicyDesk$Draft"
  | 3 => .object "PolicyDesk$Memory"
  | 4 => .object "PolicyDesk$ByteRow"
  | 5 => .object "PolicyDesk$ByteRow"
  | 6 => .object "PolicyDesk$Policy"
  | 7 => .object "PolicyDesk$Policy"
  | 8 => .int
  | _ => .int
abbrev wsX110 : List Cond := u_ws RX11 TX11 10
theorem nmX11 : ∀ a, a < 10 → ∀ b, b < 10 → a ≠ b → (TX11 a).2.1 ≠ (TX11 b).2.1 := by decide +kernel
theorem tyX11_ok : ∀ k, k < 10 → parseFieldDescriptor (TX11 k).2.2.1 = some (tyX11 k) := by decide +kernel
abbrev cX11_init : ByteArray := prog_1_method_1_code
def yX11_init : MethodName := ⟨RX11, "<init>", "(I)V"⟩
abbrev cX11_write : ByteArray := prog_1_method_2_code
def yX11_write : MethodName := ⟨RX11, "write", "(J)Z"⟩
abbrev cX11_add : ByteArray := prog_1_method_3_code
def yX11_add : MethodName := ⟨RX11, "add", "()I"⟩
abbrev cX11_position : ByteArray := prog_1_method_4_code
def yX11_position : MethodName := ⟨RX11, "position", "()I"⟩
abbrev cX11_cut : ByteArray := prog_1_method_5_code
def yX11_cut : MethodName := ⟨RX11, "cut", "(I)Z"⟩
abbrev cX11_accept : ByteArray := prog_1_method_6_code
def yX11_accept : MethodName := ⟨RX11, "accept", "()I"⟩
abbrev cX11_fault : ByteArray := prog_1_method_7_code
def yX11_fault : MethodName := ⟨RX11, "fault", "()I"⟩
abbrev cX11_may : ByteArray := prog_1_method_8_code
def yX11_may : MethodName := ⟨RX11, "may", "(III)I"⟩
abbrev cX11_made : ByteArray := prog_1_method_9_code
def yX11_made : MethodName := ⟨RX11, "made", "(III)I"⟩
abbrev cX11_flow : ByteArray := prog_1_method_10_code
def yX11_flow : MethodName := ⟨RX11, "flow", "(II)I"⟩
abbrev cX11_count : ByteArray := prog_1_method_11_code
def yX11_count : MethodName := ⟨RX11, "count", "(I)I"⟩
abbrev cX11_image : ByteArray := prog_1_method_12_code
def yX11_image : MethodName := ⟨RX11, "image", "()I"⟩
abbrev cX11_imageAt : ByteArray := prog_1_method_13_code
def yX11_imageAt : MethodName := ⟨RX11, "imageAt", "(I)I"⟩
abbrev cX11_feed : ByteArray := prog_1_method_14_code
def yX11_feed : MethodName := ⟨RX11, "feed", "(JI)I"⟩
abbrev cX11_read : ByteArray := prog_1_method_15_code
def yX11_read : MethodName := ⟨RX11, "read", "()I"⟩
abbrev cX11_putInForce : ByteArray := prog_1_method_16_code
def yX11_putInForce : MethodName := ⟨RX11, "putInForce", "()I"⟩
abbrev cX11_byteOf : ByteArray := prog_1_method_17_code
def yX11_byteOf : MethodName := ⟨RX11, "byteOf", "(JI)I"⟩
abbrev cX11_cellOf : ByteArray := prog_1_method_18_code
def yX11_cellOf : MethodName := ⟨RX11, "cellOf", "(III)I"⟩
abbrev cX11_hasBit : ByteArray := prog_1_method_19_code
def yX11_hasBit : MethodName := ⟨RX11, "hasBit", "(II)Z"⟩
def RX12 : String := "PolicyDeskModel"
def TX12 : u_T := fun k => match k with
  | 0 => ("PolicyDeskModel", "size", "I", true)
  | 1 => ("PolicyDeskModel", "thrown", "I", false)
  | 2 => ("PolicyDeskModel", "typed", "I", false)
  | 3 => ("PolicyDeskModel", "text", "[C", true)
  | 4 => ("PolicyDeskModel", "p", "I", false)
  | 5 => ("PolicyDeskModel", "position", "I", false)
  | 6 => ("PolicyDeskModel", "statements", "I", false)
  | 7 => ("PolicyDeskModel", "kind", "[I", true)
  | 8 => ("PolicyDeskModel", "many", "[I", true)
  | 9 => ("PolicyDeskModel", "name", "[I", true)
  | 10 => ("PolicyDeskModel", "extra", "[I", true)
  | 11 => ("PolicyDeskModel", "fault", "I", false)
  | 12 => ("PolicyDeskModel", "types", "I", false)
  | 13 => ("PolicyDeskModel", "classes", "I", false)
  | 14 => ("PolicyDeskModel", "permissions", "[I", true)
  | 15 => ("PolicyDeskModel", "rank", "[I", true)
  | 16 => ("PolicyDeskModel", "allowed", "[I", true)
  | 17 => ("PolicyDeskModel", "makes", "[I", true)
  | 18 => ("PolicyDeskModel", "masks", "[I", true)
  | 19 => ("PolicyDeskModel", "typeName", "[I", true)
  | 20 => ("PolicyDeskModel", "className", "[I", true)
  | 21 => ("PolicyDeskModel", "answers", "I", false)
  | 22 => ("PolicyDeskModel", "question", "[I", true)
  | 23 => ("PolicyDeskModel", "answer", "[I", true)
  | 24 => ("PolicyDeskModel", "hits", "I", false)
  | 25 => ("PolicyDeskModel", "misses", "I", false)
  | 26 => ("PolicyDeskModel", "written", "I", false)
  | 27 => ("PolicyDeskModel", "image", "[I", true)
  | 28 => ("PolicyDeskModel", "fed", "I", false)
  | 29 => ("PolicyDeskModel", "food", "[I", true)
  | 30 => ("PolicyDeskModel", "reached", "[Z", true)
  | _ => ("PolicyDeskModel", "next", "[Z", true)
def tyX12 : Nat → FieldType := fun k => match k with
  | 0 => .int
  | 1 => .int
  | 2 => .int
  | 3 => .array .char
  | 4 => .int
  | 5 => .int
  | 6 => .int
  | 7 => .array .int
  | 8 => .array .int
  | 9 => .array .int
  | 10 => .array .int
  | 11 => .int
  | 12 => .int
  | 13 => .int
  | 14 => .array .int
  | 15 => .array .int
  | 16 => .array .int
  | 17 => .array .int
  | 18 => .array .int
  | 19 => .array .int
  | 20 => .array .int
  | 21 => .int
  | 22 => .array .int
  | 23 => .array .int
  | 24 => .int
  | 25 => .int
  | 26 => .int
  | 27 => .array .int
  | 28 => .int
  | 29 => .array .int
  | 30 => .array .boolean
  | _ => .array .boolean
abbrev wsX120 : List Cond := u_ws RX12 TX12 32
theorem nmX12 : ∀ a, a < 32 → ∀ b, b < 32 → a ≠ b → (TX12 a).2.1 ≠ (TX12 b).2.1 := by decide +kernel
theorem tyX12_ok : ∀ k, k < 32 → parseFieldDescriptor (TX12 k).2.2.1 = some (tyX12 k) := by decide +kernel
abbrev cX12_init : ByteArray := prog_14_method_1_code
def yX12_init : MethodName := ⟨RX12, "<init>", "(I)V"⟩
abbrev cX12_thrown : ByteArray := prog_14_method_2_code
def yX12_thrown : MethodName := ⟨RX12, "thrown", "()I"⟩
abbrev cX12_write : ByteArray := prog_14_method_3_code
def yX12_write : MethodName := ⟨RX12, "write", "(J)Z"⟩
abbrev cX12_here : ByteArray := prog_14_method_4_code
def yX12_here : MethodName := ⟨RX12, "here", "()C"⟩
abbrev cX12_isLetter : ByteArray := prog_14_method_5_code
def yX12_isLetter : MethodName := ⟨RX12, "isLetter", "()Z"⟩
abbrev cX12_word : ByteArray := prog_14_method_6_code
def yX12_word : MethodName := ⟨RX12, "word", "(IIIII)I"⟩
abbrev cX12_keyword : ByteArray := prog_14_method_7_code
def yX12_keyword : MethodName := ⟨RX12, "keyword", "(I)I"⟩
abbrev cX12_readKind : ByteArray := prog_14_method_8_code
def yX12_readKind : MethodName := ⟨RX12, "readKind", "()I"⟩
abbrev cX12_readName : ByteArray := prog_14_method_9_code
def yX12_readName : MethodName := ⟨RX12, "readName", "()I"⟩
abbrev cX12_readNames : ByteArray := prog_14_method_10_code
def yX12_readNames : MethodName := ⟨RX12, "readNames", "(III)Z"⟩
abbrev cX12_readStatement : ByteArray := prog_14_method_11_code
def yX12_readStatement : MethodName := ⟨RX12, "readStatement", "()Z"⟩
abbrev cX12_readExtra : ByteArray := prog_14_method_12_code
def yX12_readExtra : MethodName := ⟨RX12, "readExtra", "(II)Z"⟩
abbrev cX12_add : ByteArray := prog_14_method_13_code
def yX12_add : MethodName := ⟨RX12, "add", "()I"⟩
abbrev cX12_position : ByteArray := prog_14_method_14_code
def yX12_position : MethodName := ⟨RX12, "position", "()I"⟩
abbrev cX12_cut : ByteArray := prog_14_method_15_code
def yX12_cut : MethodName := ⟨RX12, "cut", "(I)Z"⟩
abbrev cX12_nameAt : ByteArray := prog_14_method_16_code
def yX12_nameAt : MethodName := ⟨RX12, "nameAt", "(II)I"⟩
abbrev cX12_before : ByteArray := prog_14_method_17_code
def yX12_before : MethodName := ⟨RX12, "before", "(III)I"⟩
abbrev cX12_isType : ByteArray := prog_14_method_18_code
def yX12_isType : MethodName := ⟨RX12, "isType", "(I)Z"⟩
abbrev cX12_isClass : ByteArray := prog_14_method_19_code
def yX12_isClass : MethodName := ⟨RX12, "isClass", "(I)Z"⟩
abbrev cX12_isAttribute : ByteArray := prog_14_method_20_code
def yX12_isAttribute : MethodName := ⟨RX12, "isAttribute", "(I)Z"⟩
abbrev cX12_isPermission : ByteArray := prog_14_method_21_code
def yX12_isPermission : MethodName := ⟨RX12, "isPermission", "(II)Z"⟩
abbrev cX12_isSelf : ByteArray := prog_14_method_22_code
def yX12_isSelf : MethodName := ⟨RX12, "isSelf", "(I)Z"⟩
abbrev cX12_allDifferent : ByteArray := prog_14_method_23_code
def yX12_allDifferent : MethodName := ⟨RX12, "allDifferent", "(I)Z"⟩
abbrev cX12_arePermissions : ByteArray := prog_14_method_24_code
def yX12_arePermissions : MethodName := ⟨RX12, "arePermissions", "(III)Z"⟩
abbrev cX12_twice : ByteArray := prog_14_method_25_code
def yX12_twice : MethodName := ⟨RX12, "twice", "(I)Z"⟩
abbrev cX12_isWrong : ByteArray := prog_14_method_26_code
def yX12_isWrong : MethodName := ⟨RX12, "isWrong", "(I)Z"⟩
abbrev cX12_firstWrong : ByteArray := prog_14_method_27_code
def yX12_firstWrong : MethodName := ⟨RX12, "firstWrong", "()I"⟩
abbrev cX12_typeStatement : ByteArray := prog_14_method_28_code
def yX12_typeStatement : MethodName := ⟨RX12, "typeStatement", "(I)I"⟩
abbrev cX12_standsFor : ByteArray := prog_14_method_29_code
def yX12_standsFor : MethodName := ⟨RX12, "standsFor", "(II)Z"⟩
abbrev cX12_isAbout : ByteArray := prog_14_method_30_code
def yX12_isAbout : MethodName := ⟨RX12, "isAbout", "(III)Z"⟩
abbrev cX12_firstAgainst : ByteArray := prog_14_method_31_code
def yX12_firstAgainst : MethodName := ⟨RX12, "firstAgainst", "()I"⟩
abbrev cX12_shared : ByteArray := prog_14_method_32_code
def yX12_shared : MethodName := ⟨RX12, "shared", "(II)Z"⟩
abbrev cX12_classNumber : ByteArray := prog_14_method_33_code
def yX12_classNumber : MethodName := ⟨RX12, "classNumber", "(I)I"⟩
abbrev cX12_typeNumber : ByteArray := prog_14_method_34_code
def yX12_typeNumber : MethodName := ⟨RX12, "typeNumber", "(I)I"⟩
abbrev cX12_maskOf : ByteArray := prog_14_method_35_code
def yX12_maskOf : MethodName := ⟨RX12, "maskOf", "(III)I"⟩
abbrev cX12_begin : ByteArray := prog_14_method_36_code
def yX12_begin : MethodName := ⟨RX12, "begin", "()V"⟩
abbrev cX12_put : ByteArray := prog_14_method_37_code
def yX12_put : MethodName := ⟨RX12, "put", "(I)V"⟩
abbrev cX12_accept : ByteArray := prog_14_method_38_code
def yX12_accept : MethodName := ⟨RX12, "accept", "()I"⟩
abbrev cX12_fault : ByteArray := prog_14_method_39_code
def yX12_fault : MethodName := ⟨RX12, "fault", "()I"⟩
abbrev cX12_worked : ByteArray := prog_14_method_40_code
def yX12_worked : MethodName := ⟨RX12, "worked", "(III)I"⟩
abbrev cX12_isThere : ByteArray := prog_14_method_41_code
def yX12_isThere : MethodName := ⟨RX12, "isThere", "(III)Z"⟩
abbrev cX12_may : ByteArray := prog_14_method_42_code
def yX12_may : MethodName := ⟨RX12, "may", "(III)I"⟩
abbrev cX12_made : ByteArray := prog_14_method_43_code
def yX12_made : MethodName := ⟨RX12, "made", "(III)I"⟩
abbrev cX12_flows : ByteArray := prog_14_method_44_code
def yX12_flows : MethodName := ⟨RX12, "flows", "(II)Z"⟩
abbrev cX12_flow : ByteArray := prog_14_method_45_code
def yX12_flow : MethodName := ⟨RX12, "flow", "(II)I"⟩
abbrev cX12_count : ByteArray := prog_14_method_46_code
def yX12_count : MethodName := ⟨RX12, "count", "(I)I"⟩
abbrev cX12_say : ByteArray := prog_14_method_47_code
def yX12_say : MethodName := ⟨RX12, "say", "(I)V"⟩
abbrev cX12_image : ByteArray := prog_14_method_48_code
def yX12_image : MethodName := ⟨RX12, "image", "()I"⟩
abbrev cX12_imageAt : ByteArray := prog_14_method_49_code
def yX12_imageAt : MethodName := ⟨RX12, "imageAt", "(I)I"⟩
abbrev cX12_feed : ByteArray := prog_14_method_50_code
def yX12_feed : MethodName := ⟨RX12, "feed", "(JI)I"⟩
abbrev cX12_in : ByteArray := prog_14_method_51_code
def yX12_in : MethodName := ⟨RX12, "in", "(III)Z"⟩
abbrev cX12_wellFormed : ByteArray := prog_14_method_52_code
def yX12_wellFormed : MethodName := ⟨RX12, "wellFormed", "()Z"⟩
abbrev cX12_read : ByteArray := prog_14_method_53_code
def yX12_read : MethodName := ⟨RX12, "read", "()I"⟩
def RJ11 : String := "java/lang/Character"
def TJ11 : u_T := fun k => match k with
  | _ => ("", "", "", false)
def tyJ11 : Nat → FieldType := fun k => match k with
  | _ => .int
abbrev wsJ110 : List Cond := u_ws RJ11 TJ11 0
theorem nmJ11 : ∀ a, a < 0 → ∀ b, b < 0 → a ≠ b → (TJ11 a).2.1 ≠ (TJ11 b).2.1 := by decide +kernel
theorem tyJ11_ok : ∀ k, k < 0 → parseFieldDescriptor (TJ11 k).2.2.1 = some (tyJ11 k) := by decide +kernel
abbrev cJ11_isValidCodePoint_9a6ad : ByteArray := prog_15_method_11_code
def yJ11_isValidCodePoint_9a6ad : MethodName := ⟨RJ11, "isValidCodePoint", "(I)Z"⟩
abbrev cJ11_highSurrogate_5068e : ByteArray := prog_15_method_28_code
def yJ11_highSurrogate_5068e : MethodName := ⟨RJ11, "highSurrogate", "(I)C"⟩
abbrev cJ11_lowSurrogate_5068e : ByteArray := prog_15_method_29_code
def yJ11_lowSurrogate_5068e : MethodName := ⟨RJ11, "lowSurrogate", "(I)C"⟩
def RJx29ce0 : String := "java/lang/Enum"
def TJx29ce0 : u_T := fun k => match k with
  | _ => ("", "", "", false)
def tyJx29ce0 : Nat → FieldType := fun k => match k with
  | _ => .int
theorem nmJx29ce0 : ∀ a, a < 0 → ∀ b, b < 0 → a ≠ b → (TJx29ce0 a).2.1 ≠ (TJx29ce0 b).2.1 := by decide +kernel
theorem tyJx29ce0_ok : ∀ k, k < 0 → parseFieldDescriptor (TJx29ce0 k).2.2.1 = some (tyJx29ce0 k) := by decide +kernel
abbrev cJx29ce0_ordinal_8abf5 : ByteArray := prog_16_method_2_code
def yJx29ce0_ordinal_8abf5 : MethodName := ⟨RJx29ce0, "ordinal", "()I"⟩
def RJ9 : String := "java/lang/Math"
def TJ9 : u_T := fun k => match k with
  | _ => ("", "", "", false)
def tyJ9 : Nat → FieldType := fun k => match k with
  | _ => .int
abbrev wsJ90 : List Cond := u_ws RJ9 TJ9 0
theorem nmJ9 : ∀ a, a < 0 → ∀ b, b < 0 → a ≠ b → (TJ9 a).2.1 ≠ (TJ9 b).2.1 := by decide +kernel
theorem tyJ9_ok : ∀ k, k < 0 → parseFieldDescriptor (TJ9 k).2.2.1 = some (tyJ9 k) := by decide +kernel
abbrev cJ9_max_7cf53 : ByteArray := prog_20_method_65_code
def yJ9_max_7cf53 : MethodName := ⟨RJ9, "max", "(II)I"⟩
abbrev cJ9_min_7cf53 : ByteArray := prog_20_method_69_code
def yJ9_min_7cf53 : MethodName := ⟨RJ9, "min", "(II)I"⟩
def RJ0 : String := "java/lang/String"
def TJ0 : u_T := fun k => match k with
  | _ => ("", "", "", false)
def tyJ0 : Nat → FieldType := fun k => match k with
  | _ => .int
abbrev wsJ00 : List Cond := u_ws RJ0 TJ0 0
theorem nmJ0 : ∀ a, a < 0 → ∀ b, b < 0 → a ≠ b → (TJ0 a).2.1 ≠ (TJ0 b).2.1 := by decide +kernel
theorem tyJ0_ok : ∀ k, k < 0 → parseFieldDescriptor (TJ0 k).2.2.1 = some (tyJ0 k) := by decide +kernel
abbrev cJ0_length_8abf5 : ByteArray := prog_22_method_54_code
def yJ0_length_8abf5 : MethodName := ⟨RJ0, "length", "()I"⟩
abbrev cJ0_isEmpty_aae02 : ByteArray := prog_22_method_55_code
def yJ0_isEmpty_aae02 : MethodName := ⟨RJ0, "isEmpty", "()Z"⟩
abbrev cJ0_charAt_5068e : ByteArray := prog_22_method_56_code
def yJ0_charAt_5068e : MethodName := ⟨RJ0, "charAt", "(I)C"⟩
abbrev cJ0_indexOf_0f7a4 : ByteArray := prog_22_method_79_code
def yJ0_indexOf_0f7a4 : MethodName := ⟨RJ0, "indexOf", "(I)I"⟩
abbrev cJ0_indexOf_7cf53 : ByteArray := prog_22_method_80_code
def yJ0_indexOf_7cf53 : MethodName := ⟨RJ0, "indexOf", "(II)I"⟩
abbrev cJ0_coder_7d493 : ByteArray := prog_22_method_152_code
def yJ0_coder_7d493 : MethodName := ⟨RJ0, "coder", "()B"⟩
abbrev cJ0_isLatin1_aae02 : ByteArray := prog_22_method_154_code
def yJ0_isLatin1_aae02 : MethodName := ⟨RJ0, "isLatin1", "()Z"⟩
abbrev cJ0_checkIndex_df160 : ByteArray := prog_22_method_155_code
def yJ0_checkIndex_df160 : MethodName := ⟨RJ0, "checkIndex", "(II)V"⟩
abbrev cJ0_checkBoundsBeginEnd_23922 : ByteArray := prog_22_method_158_code
def yJ0_checkBoundsBeginEnd_23922 : MethodName := ⟨RJ0, "checkBoundsBeginEnd", "(III)V"⟩
def RJ1 : String := "java/lang/StringLatin1"
def TJ1 : u_T := fun k => match k with
  | _ => ("", "", "", false)
def tyJ1 : Nat → FieldType := fun k => match k with
  | _ => .int
abbrev wsJ10 : List Cond := u_ws RJ1 TJ1 0
theorem nmJ1 : ∀ a, a < 0 → ∀ b, b < 0 → a ≠ b → (TJ1 a).2.1 ≠ (TJ1 b).2.1 := by decide +kernel
theorem tyJ1_ok : ∀ k, k < 0 → parseFieldDescriptor (TJ1 k).2.2.1 = some (tyJ1 k) := by decide +kernel
abbrev cJ1_charAt_3b067 : ByteArray := prog_23_method_2_code
def yJ1_charAt_3b067 : MethodName := ⟨RJ1, "charAt", "([BI)C"⟩
abbrev cJ1_canEncode_9a6ad : ByteArray := prog_23_method_4_code
def yJ1_canEncode_9a6ad : MethodName := ⟨RJ1, "canEncode", "(I)Z"⟩
abbrev cJ1_indexOf_4cfef : ByteArray := prog_23_method_22_code
def yJ1_indexOf_4cfef : MethodName := ⟨RJ1, "indexOf", "([BIII)I"⟩
abbrev cJ1_indexOfChar_4cfef : ByteArray := prog_23_method_23_code
def yJ1_indexOfChar_4cfef : MethodName := ⟨RJ1, "indexOfChar", "([BIII)I"⟩
def RJ2 : String := "java/lang/StringUTF16"
def TJ2 : u_T := fun k => match k with
  | _ => ("", "", "", false)
def tyJ2 : Nat → FieldType := fun k => match k with
  | _ => .int
abbrev wsJ20 : List Cond := u_ws RJ2 TJ2 0
theorem nmJ2 : ∀ a, a < 0 → ∀ b, b < 0 → a ≠ b → (TJ2 a).2.1 ≠ (TJ2 b).2.1 := by decide +kernel
theorem tyJ2_ok : ∀ k, k < 0 → parseFieldDescriptor (TJ2 k).2.2.1 = some (tyJ2 k) := by decide +kernel
abbrev cJ2_getChar_3b067 : ByteArray := prog_24_method_5_code
def yJ2_getChar_3b067 : MethodName := ⟨RJ2, "getChar", "([BI)C"⟩
abbrev cJ2_length_9d52b : ByteArray := prog_24_method_6_code
def yJ2_length_9d52b : MethodName := ⟨RJ2, "length", "([B)I"⟩
abbrev cJ2_indexOf_4cfef : ByteArray := prog_24_method_40_code
def yJ2_indexOf_4cfef : MethodName := ⟨RJ2, "indexOf", "([BIII)I"⟩
abbrev cJ2_indexOfChar_4cfef : ByteArray := prog_24_method_47_code
def yJ2_indexOfChar_4cfef : MethodName := ⟨RJ2, "indexOfChar", "([BIII)I"⟩
abbrev cJ2_indexOfCharUnsafe_4cfef : ByteArray := prog_24_method_48_code
def yJ2_indexOfCharUnsafe_4cfef : MethodName := ⟨RJ2, "indexOfCharUnsafe", "([BIII)I"⟩
abbrev cJ2_indexOfSupplementary_4cfef : ByteArray := prog_24_method_49_code
def yJ2_indexOfSupplementary_4cfef : MethodName := ⟨RJ2, "indexOfSupplementary", "([BIII)I"⟩
abbrev cJ2_charAt_3b067 : ByteArray := prog_24_method_83_code
def yJ2_charAt_3b067 : MethodName := ⟨RJ2, "charAt", "([BI)C"⟩
abbrev cJ2_checkIndex_2214a : ByteArray := prog_24_method_91_code
def yJ2_checkIndex_2214a : MethodName := ⟨RJ2, "checkIndex", "(I[B)V"⟩
abbrev cJ2_checkBoundsBeginEnd_d044e : ByteArray := prog_24_method_93_code
def yJ2_checkBoundsBeginEnd_d044e : MethodName := ⟨RJ2, "checkBoundsBeginEnd", "(II[B)V"⟩
def RJ7 : String := "java/util/Arrays"
def TJ7 : u_T := fun k => match k with
  | _ => ("", "", "", false)
def tyJ7 : Nat → FieldType := fun k => match k with
  | _ => .int
abbrev wsJ70 : List Cond := u_ws RJ7 TJ7 0
theorem nmJ7 : ∀ a, a < 0 → ∀ b, b < 0 → a ≠ b → (TJ7 a).2.1 ≠ (TJ7 b).2.1 := by decide +kernel
theorem tyJ7_ok : ∀ k, k < 0 → parseFieldDescriptor (TJ7 k).2.2.1 = some (tyJ7 k) := by decide +kernel
abbrev cJ7_fill_53178 : ByteArray := prog_26_method_103_code
def yJ7_fill_53178 : MethodName := ⟨RJ7, "fill", "([II)V"⟩
def RJ3 : String := "jdk/internal/util/Preconditions"
def TJ3 : u_T := fun k => match k with
  | _ => ("", "", "", false)
def tyJ3 : Nat → FieldType := fun k => match k with
  | _ => .int
abbrev wsJ30 : List Cond := u_ws RJ3 TJ3 0
theorem nmJ3 : ∀ a, a < 0 → ∀ b, b < 0 → a ≠ b → (TJ3 a).2.1 ≠ (TJ3 b).2.1 := by decide +kernel
theorem tyJ3_ok : ∀ k, k < 0 → parseFieldDescriptor (TJ3 k).2.2.1 = some (tyJ3 k) := by decide +kernel
abbrev cJ3_checkIndex_8e157 : ByteArray := prog_28_method_11_code
def yJ3_checkIndex_8e157 : MethodName := ⟨RJ3, "checkIndex", "(IILjava/util/function/BiFunction;)I"⟩
abbrev cJ3_checkFromToIndex_8c36e : ByteArray := prog_28_method_12_code
def yJ3_checkFromToIndex_8c36e : MethodName := ⟨RJ3, "checkFromToIndex", "(IIILjava/util/function/BiFunction;)I"⟩
def RL : String := "PolicyDeskLaw"
abbrev cL_cell : ByteArray := method_2_code
def yL_cell : MethodName := ⟨RL, "cell", "([II)I"⟩
abbrev cL_add : ByteArray := method_3_code
def yL_add : MethodName := ⟨RL, "add", "(LPolicyDesk;[J)I"⟩
abbrev cL_accept : ByteArray := method_4_code
def yL_accept : MethodName := ⟨RL, "accept", "(LPolicyDesk;[J)I"⟩
abbrev cL_may : ByteArray := method_5_code
def yL_may : MethodName := ⟨RL, "may", "(LPolicyDesk;III[J)I"⟩
abbrev cL_read : ByteArray := method_6_code
def yL_read : MethodName := ⟨RL, "read", "(LPolicyDesk;[J)I"⟩
abbrev cL_law : ByteArray := code
def yL_law : MethodName := ⟨RL, "law", "([I)Z"⟩
abbrev vwCl : List vw_C := [(RX1, TX1, 4), (RX3, TX3, 2), (RX6, TX6, 5), (RX7, TX7, 7), (RX8, TX8, 2), (RX9, TX9, 4), (RX10, TX10, 2), (RX11, TX11, 10), (RX12, TX12, 32)]
end
section
/-! THE LOGIC: Ex, a walk over an abstract heap (size, cells by address); ES, a method's contract in its words. -/
def egood : List Cond := lw_tbl.filter goodWord
theorem eg (i : Nat) {w : Cond} (h : lw_tbl[i]? = some w) (g : goodWord w = true) : w ∈ egood := List.mem_filter.mpr ⟨List.mem_of_getElem? h, g⟩
theorem egood_all : GoodIn egood egood := fun w h => ⟨h, good_of_word (List.mem_filter.mp h).2⟩
abbrev EM : Type := MethodName × ByteArray × Nat × Option FieldType × List (Nat × Nat × Nat × Nat)
abbrev eY (M : EM) : MethodName := M.1
abbrev eC (M : EM) : ByteArray := M.2.1
abbrev eL (M : EM) : Nat := M.2.2.1
abbrev eR (M : EM) : Option FieldType := M.2.2.2.1
abbrev eTb (M : EM) : List (Nat × Nat × Nat × Nat) := M.2.2.2.2
/-- class numbers and slots, array classes, addresses of constants, the heap's size at the law's start, the script, Preconditions' formatter -/
abbrev EG : Type := va_G × (Nat → ClassId) × (Nat → Nat) × Nat × (Nat × Nat × (Nat → Int32)) × Option Nat
def eD (G : EG) : va_G := G.1
def eA (G : EG) : Nat → ClassId := G.2.1
def ead (G : EG) : Nat → Nat := G.2.2.1
def eb (G : EG) : Nat := G.2.2.2.1
def esc (G : EG) : Nat × Nat × (Nat → Int32) := G.2.2.2.2.1
def efm (G : EG) : Option Nat := G.2.2.2.2.2
def eF (G : EG) : Nat → Prop := fun q => eb G ≤ q
def etys (G : EG) : List (ClassId × FieldType) := [(eA G 0, .int), (eA G 1, .long), (eA G 2, .char), (eA G 3, .boolean), (eA G 4, .object "PolicyDesk$Statement")]
abbrev EH : Type := Nat × (Nat → Option va_E)
def eRel (G : EG) (h : EH) (H : Heap) : Prop := H.size = h.1 ∧ eb G ≤ h.1 ∧ ∀ (a : Nat) (e : va_E), h.2 a = some e → va_at (eD G) vwCl (a, e) H ∧ eb G ≤ a
def hup (h : EH) (a : Nat) (e : va_E) : EH := (h.1, fun b => if b = a then some e else h.2 b)
def hnew (h : EH) (e : va_E) : EH := (h.1 + 1, fun b => if b = h.1 then some e else h.2 b)
-- what the constants hold
def kNames : List Int32 := [1, 1, 3, 3, 4, 1, 1, 1, 1]
def kFewest : List Int32 := [1, 0, 1, 1, 0, 0, 1, 1, 1]
def kMost : List Int32 := [6, 4, 6, 6, 0, 0, 6, 6, 6]
def kMarks : List Nat := [9, 9, 9, 9, 9, 10, 11, 9, 9]
def kStr : List (List Int32) := [[99, 108, 97, 115, 115], [116, 121, 112, 101], [97, 108, 108, 111, 119], [110, 101, 118, 101, 114], [109, 97, 107, 101], [114, 97, 110, 107], [110, 101, 101, 100], [115, 101, 101, 115], [112, 117, 116, 115], [], [48, 49, 50, 51, 52, 53, 54, 55], [62, 61, 60]]
def kCon : List String := ["CLASS", "TYPE", "ALLOW", "NEVER", "MAKE", "RANK", "NEED", "SEES", "PUTS"]
def kMsg : List (Nat × String) := [(98, "the text is no statement"), (109, "the draft is full"), (122, "the draft is wrong"), (134, "the draft is against itself"), (145, "no such type or class"), (215, "what was fed is no image")]
def eZ (G : EG) : List (String × String × String × Value) := (List.range 9).map (fun i => ("PolicyDesk$Kind", kCon.getD i "", "LPolicyDesk$Kind;", Value.ref (ead G i))) ++ [("PolicyDesk", "KINDS", "[LPolicyDesk$Kind;", .ref (ead G 9)), ("PolicyDesk$1", "$SwitchMap$PolicyDesk$Kind", "[I", .ref (ead G 10)), ("java/lang/String", "COMPACT_STRINGS", "Z", .int 1), ("jdk/internal/util/Preconditions", "SIOOBE_FORMATTER", "Ljava/util/function/BiFunction;", va_rf (efm G))]
def eO (G : EG) : List (String × Nat) := (List.range 9).map (fun i => ("PolicyDesk$Kind", ead G i)) ++ (List.range 12).map (fun i => ("java/lang/String", ead G (16 + i)))
def eO1 (G : EG) (i : Nat) : List (String × String × String × Value × Nat) := [("PolicyDesk$Kind", "word", "Ljava/lang/String;", .ref (ead G (16 + i)), ead G i), ("PolicyDesk$Kind", "names", "I", .int (kNames.getD i 0), ead G i), ("PolicyDesk$Kind", "marks", "Ljava/lang/String;", .ref (ead G (16 + kMarks.getD i 0)), ead G i), ("PolicyDesk$Kind", "fewest", "I", .int (kFewest.getD i 0), ead G i), ("PolicyDesk$Kind", "most", "I", .int (kMost.getD i 0), ead G i), ("java/lang/Enum", "ordinal", "I", .int (nI i), ead G i)]
def eO2 (G : EG) (i : Nat) : List (String × String × String × Value × Nat) := [("java/lang/String", "value", "[B", .ref (ead G (32 + i)), ead G (16 + i)), ("java/lang/String", "coder", "B", .int 0, ead G (16 + i))]
def eOF (G : EG) (z : String × String × String × Value × Nat) : Prop := (∃ i, i < 9 ∧ z ∈ eO1 G i) ∨ ∃ i, i < 12 ∧ z ∈ eO2 G i
def eT (G : EG) (z : FieldType × Nat × Nat × (Nat → Value)) : Prop := z = (.int, (esc G).1, (esc G).2.1, fun j => .int ((esc G).2.2 j)) ∨ z = (.int, ead G 10, 9, fun j => .int (nI (j + 1))) ∨ z = (.object "PolicyDesk$Kind", ead G 9, 9, fun j => .ref (ead G j)) ∨ ∃ i, i < 12 ∧ z = (.byte, ead G (32 + i), (kStr.getD i []).length, fun j => .int ((kStr.getD i []).getD j 0))
def eStat (G : EG) (U : State) (H : Heap) : Prop := (∀ z ∈ eZ G, va_Z z.1 z.2.1 z.2.2.1 z.2.2.2 (eF G) U H) ∧ (∀ z ∈ eO G, va_O z.1 z.2 (eF G) U H) ∧ (∀ z, eOF G z → va_OF z.1 z.2.1 z.2.2.1 z.2.2.2.1 z.2.2.2.2 (eF G) U H) ∧ (∀ z, eT G z → va_T z.1 z.2.1 z.2.2.1 z.2.2.2 (eF G) U H) ∧ vx_Zq Bundle.tN "UNASSIGNED_STACK" Bundle.steD (eF G) U H ∧ vx_Zq Bundle.tN "SUPPRESSED_SENTINEL" Bundle.listD (eF G) U H
theorem eStat.moved {G : EG} {u U : State} {H : Heap} (hvm : u.vm.Alike U.vm) (h : eStat G u H) : eStat G U H := ⟨fun z hz => va_Z.moved hvm (h.1 z hz), fun z hz => va_O.moved hvm (h.2.1 z hz), fun z hz => va_OF.moved hvm (h.2.2.1 z hz), fun z hz => va_T.moved hvm (h.2.2.2.1 z hz), vx_Zq.moved hvm h.2.2.2.2.1, vx_Zq.moved hvm h.2.2.2.2.2⟩
theorem eStat.kept {G : EG} {U : State} {H H1 : Heap} (h : eStat G U H) (hq : ∀ a : Nat, a < H.size → ¬ eF G a → H1[a]? = H[a]?) : eStat G U H1 := ⟨fun z hz => (h.1 z hz).kept hq, fun z hz => (h.2.1 z hz).kept hq, fun z hz => (h.2.2.1 z hz).kept hq, fun z hz => (h.2.2.2.1 z hz).kept hq, vx_Zq.kept h.2.2.2.2.1 hq, vx_Zq.kept h.2.2.2.2.2 hq⟩
def eMsg (G : EG) (U : State) : Prop := ∀ i, i < 6 → vk_R "PolicyDesk" (kMsg.getD i (0, "")).1 (kMsg.getD i (0, "")).2 (ead G (48 + i)) U
/-- what is kept of a state beside its heap's cells -/
def eNst (U : State) : Prop := (∀ (a : String) (i : Nat) (x : MethodName) (h : String), Cond.methodLinkNest a i x h ∈ lw_tbl → va_Nw (.methodLinkNest a i x h) U) ∧ (∀ (a : String) (i : Nat) (b n d h : String), Cond.fieldLinkNest a i b n d h ∈ lw_tbl → va_Nw (.fieldLinkNest a i b n d h) U) ∧ (∀ C T : String, Cond.castable C T ∈ lw_tbl → va_Nw (.castable C T) U) ∧ va_Nc "java/lang/IllegalStateException" "java/lang/IllegalArgumentException" U
theorem eNst.warm {s U : State} (hW : s.WarmedH U.vm) (h : eNst s) : eNst U := ⟨fun a i x o hh => va_Nw.warmM hW (h.1 a i x o hh), fun a i b n d o hh => va_Nw.warmF hW (h.2.1 a i b n d o hh), fun C T hh => va_Nw.warmC hW (h.2.2.1 C T hh), h.2.2.2.moved hW.alike⟩
theorem eNst.same {s U : State} (hv : s.vm = U.vm) (h : eNst s) : eNst U := ⟨fun a i x o hh => va_Nw.same rfl hv (h.1 a i x o hh), fun a i b n d o hh => va_Nw.same rfl hv (h.2.1 a i b n d o hh), fun C T hh => va_Nw.same rfl hv (h.2.2.1 C T hh), h.2.2.2.moved (by rw [hv]; exact Vm.Alike.refl _)⟩
def eW (G : EG) (U : State) : Prop := va_K (eD G) vwCl (etys G) U ∧ eStat G U U.heap ∧ eMsg G U ∧ (Cond.arrayOver (.object "PolicyDesk$Statement")).before #[] U = true ∧ eb G ≤ U.heap.size ∧ eNst U
def erm (d mc ms : Nat) : Room := { frames := d, cells := mc, slots := ms, locals := 38 * d }
def eQ (G : EG) (Q : Option Value → EH → Prop) : Array Value → State → Outcome → State → Prop := fun _ st o t => ∃ (v : Option Value) (h : EH), o = .returned v ∧ Q v h ∧ eRel G h t.heap ∧ va_F (eF G) st t
def eX (G : EG) (X : String → EH → Prop) : String → State → State → Prop := fun E st t => ∃ h : EH, X E h ∧ eRel G h t.heap ∧ va_F (eF G) st t
def eCtx (G : EG) (M : EM) (p : Program) (s : State) (m : MethodId) (args : Array Value) (meth : Method) (c : Code) : Prop :=
  p.tables.exec = Jvm.exec ∧ c.code = eC M ∧ c.maxLocals = eL M ∧ s.vm.findClass (eY M).cls = some m.cls ∧ (∀ w ∈ egood, w.before args s = true) ∧ meth.sig.returnType = eR M ∧ meth.locks = false ∧ (meth.name = (eY M).name ∧ c.exceptionTable.toList = tableOf (eTb M)) ∧ eW G s
/-- the walk from pc, with locals lv, stack st, abstract heap h, k cells and n slots still to be made: it returns with Q or throws with X -/
def Ex (G : EG) (l : Launch) (d : Nat) (M : EM) (Q : Option Value → EH → Prop) (X : String → EH → Prop) (k n pc : Nat) (lv : List (Nat × Value)) (st : List Value) (h : EH) : Prop :=
  ∀ (p : Program) (e : Env) (s : State) (m : MethodId) (args : Array Value) (below : List Frame) (meth : Method) (c : Code) (H : Heap) (locs : List Loc) (ls : Array Slot) (cells slots mc ms : Nat),
    eCtx G M p s m args meth c → eRel G h H → va_S (eF G) s.heap H locs → lv_has ls (eL M) lv → cells + k = mc → slots + n = ms →
    W p l e (erm d mc ms) s m args below meth c H locs cells slots (vx_MQ below (eQ G Q) (eX G X) args s mc ms (eF G)) (F0 m pc ls st)
def ews (M : EM) : List Cond := (match eTb M with
  | [] => Cond.code (eY M) (eC M) (eL M) (eR M)
  | hh => Cond.codeWith (eY M) (eC M) (eL M) (eR M) hh) :: egood
/-- a method's contract -/
def ES (G : EG) (l : Launch) (d : Nat) (M : EM) (As : List Value) (h : EH) (mc ms : Nat) (Q : Option Value → EH → Prop) (X : String → EH → Prop) : Prop :=
  vx_Met l (eY M) (ews M) (erm d mc ms) (va_Pc As (fun U => eRel G h U.heap ∧ eW G U)) (eQ G Q) (eX G X) mc ms (eF G)
def eNoX : String → EH → Prop := fun _ _ => False
-- locals
def lget : List (Nat × Value) → Nat → Option Value
  | [], _ => none
  | (i, v) :: t, k => match Nat.beq i k with
    | true => some v
    | false => lget t k
theorem lget_mem {l : List (Nat × Value)} {k : Nat} {v : Value} (h : lget l k = some v) : (k, v) ∈ l := by
  induction l with
  | nil => cases h
  | cons q t ih =>
    obtain ⟨i, w⟩ := q
    unfold lget at h
    cases hb : Nat.beq i k with
    | true =>
      rw [hb] at h
      have hi : i = k := Nat.eq_of_beq_eq_true hb
      cases h
      subst hi
      exact List.mem_cons_self
    | false =>
      rw [hb] at h
      exact List.mem_cons_of_mem _ (ih h)
def lset : List (Nat × Value) → Nat → Value → List (Nat × Value)
  | [], i, v => [(i, v)]
  | (j, w) :: t, i, v => match Nat.beq j i with
    | true => (i, v) :: t.filter (fun q => !(Nat.beq q.1 i))
    | false => (j, w) :: lset t i v
/-- none holds a wide value just ahead of i -/
def lfree : List (Nat × Value) → Nat → Bool
  | [], _ => true
  | (j, w) :: t, i => match Nat.beq (j + 1) i with
    | true => (match w.category with
      | 1 => lfree t i
      | _ => false)
    | false => lfree t i
theorem lset_mem {l : List (Nat × Value)} {i : Nat} {v : Value} {q : Nat × Value} (h : q ∈ lset l i v) : q = (i, v) ∨ (q ∈ l ∧ q.1 ≠ i) := by
  induction l with
  | nil => exact Or.inl (List.mem_singleton.mp h)
  | cons r t ih =>
    obtain ⟨j, w⟩ := r
    unfold lset at h
    cases hb : Nat.beq j i with
    | true =>
      rw [hb] at h
      rcases List.mem_cons.mp h with h | h
      · exact Or.inl h
      · obtain ⟨h1, h2⟩ := List.mem_filter.mp h
        refine Or.inr ⟨List.mem_cons_of_mem _ h1, fun hq => ?_⟩
        rw [hq] at h2
        simp at h2
    | false =>
      rw [hb] at h
      rcases List.mem_cons.mp h with h | h
      · refine Or.inr ⟨by rw [h]; exact List.mem_cons_self, fun hq => ?_⟩
        rw [h] at hq
        rw [show j = i from hq] at hb
        simp at hb
      · rcases ih h with h | h
        · exact Or.inl h
        · exact Or.inr ⟨List.mem_cons_of_mem _ h.1, h.2⟩
theorem lfree_spec {l : List (Nat × Value)} {i : Nat} (h : lfree l i = true) {q : Nat × Value} (hq : q ∈ l) : ¬ (q.1 + 1 = i ∧ q.2.category = 2) := by
  induction l with
  | nil => cases hq
  | cons r t ih =>
    obtain ⟨j, w⟩ := r
    unfold lfree at h
    rcases List.mem_cons.mp hq with e | e
    · subst e
      rintro ⟨e1, e2⟩
      rw [show Nat.beq (j + 1) i = true from by rw [show j + 1 = i from e1]; simp] at h
      rw [show w.category = 2 from e2] at h
      cases h
    · refine ih ?_ e
      cases hb : Nat.beq (j + 1) i with
      | true =>
        rw [hb] at h
        rcases lv_cat w with e1 | e1
        · rw [e1] at h; exact h
        · rw [e1] at h; cases h
      | false => rw [hb] at h; exact h
theorem lset_has {ls : Array Slot} {nL i : Nat} {v : Value} {l : List (Nat × Value)} (hf : lfree l i = true) (h : lv_has ls nL ((i, v) :: l.filter (fun q => !(q.1 == i) && !(q.1 + 1 == i && q.2.category == 2)))) : lv_has ls nL (lset l i v) := by
  refine ⟨h.1, h.2.1, fun q hq => h.2.2 q ?_⟩
  rcases lset_mem hq with e | ⟨e1, e2⟩
  · rw [e]; exact List.mem_cons_self
  · refine List.mem_cons_of_mem _ (List.mem_filter.mpr ⟨e1, ?_⟩)
    have := lfree_spec hf e1
    simp [e2]
    omega
theorem lv_of {ls : Array Slot} {nL i : Nat} {v : Value} {l : List (Nat × Value)} (h : lv_has ls nL l) (hg : lget l i = some v) : ls[i]? = some (.val v) := h.2.2 (i, v) (lget_mem hg)
/-- the locals in another order, or fewer of them -/
def lall (l : List (Nat × Value)) : List (Nat × Value) → Prop
  | [] => True
  | (i, v) :: t => lget l i = some v ∧ lall l t
theorem lall_mem {l l' : List (Nat × Value)} (h : lall l l') {q : Nat × Value} (hq : q ∈ l') : q ∈ l := by
  induction l' with
  | nil => cases hq
  | cons r t ih =>
    obtain ⟨i, v⟩ := r
    rcases List.mem_cons.mp hq with e | e
    · rw [e]; exact lget_mem h.1
    · exact ih h.2 e

section EXR
variable {G : EG} {l : Launch} {d : Nat} {M : EM} {Q : Option Value → EH → Prop} {X : String → EH → Prop} {k n pc : Nat} {lv : List (Nat × Value)} {rest st : List Value} {h : EH}
theorem ex_iconst {z : Int} {v : Int32} (hv : Int32.ofInt z = v) (hd : decode (eC M) pc = .ok (.iconst z, 1)) (kk : Ex G l d M Q X k n (pc + 1) lv (.int v :: rest) h) : Ex G l d M Q X k n pc lv (rest) h := by
  intro p e s m args below meth c H locs ls cells slots mc ms C R S L e1 e2
  exact lv_iconst C.1 C.2.1 hd hv (kk p e s m args below meth c H locs ls cells slots mc ms C R S L e1 e2)
theorem ex_bipush {z : Int} {v : Int32} (hv : (Int8.ofInt z).toInt32 = v) (hd : decode (eC M) pc = .ok (.bipush z, 2)) (kk : Ex G l d M Q X k n (pc + 2) lv (.int v :: rest) h) : Ex G l d M Q X k n pc lv (rest) h := by
  intro p e s m args below meth c H locs ls cells slots mc ms C R S L e1 e2
  exact lv_bipush C.1 C.2.1 hd hv (kk p e s m args below meth c H locs ls cells slots mc ms C R S L e1 e2)
theorem ex_sipush {z : Int} {v : Int32} (hv : (Int16.ofInt z).toInt32 = v) (hd : decode (eC M) pc = .ok (.sipush z, 3)) (kk : Ex G l d M Q X k n (pc + 3) lv (.int v :: rest) h) : Ex G l d M Q X k n pc lv (rest) h := by
  intro p e s m args below meth c H locs ls cells slots mc ms C R S L e1 e2
  exact lv_sipush C.1 C.2.1 hd hv (kk p e s m args below meth c H locs ls cells slots mc ms C R S L e1 e2)
theorem ex_ldc {i : Nat} {v : Int32} (hc : Cond.constant (eY M).cls i v ∈ egood) (hd : decode (eC M) pc = .ok (.ldc i, 2)) (kk : Ex G l d M Q X k n (pc + 2) lv (.int v :: rest) h) : Ex G l d M Q X k n pc lv (rest) h := by
  intro p e s m args below meth c H locs ls cells slots mc ms C R S L e1 e2
  exact lv_ldc C.1 C.2.1 C.2.2.2.1 (C.2.2.2.2.1 _ hc) hd (kk p e s m args below meth c H locs ls cells slots mc ms C R S L e1 e2)
theorem ex_ldc2 {i : Nat} {v : Int64} (hc : Cond.constantLong (eY M).cls i v ∈ egood) (hd : decode (eC M) pc = .ok (.ldc2_w i, 3)) (kk : Ex G l d M Q X k n (pc + 3) lv (.long v :: rest) h) : Ex G l d M Q X k n pc lv (rest) h := by
  intro p e s m args below meth c H locs ls cells slots mc ms C R S L e1 e2
  exact lv_ldc2 C.1 C.2.1 C.2.2.2.1 (C.2.2.2.2.1 _ hc) hd (kk p e s m args below meth c H locs ls cells slots mc ms C R S L e1 e2)
theorem ex_iload_n {i : Fin 4} {x : Int32} (hl : lget lv i = some (.int x)) (hd : decode (eC M) pc = .ok (.iload_n i, 1)) (kk : Ex G l d M Q X k n (pc + 1) lv (.int x :: rest) h) : Ex G l d M Q X k n pc lv (rest) h := by
  intro p e s m args below meth c H locs ls cells slots mc ms C R S L e1 e2
  exact lv_iload_n C.1 C.2.1 hd rfl (lv_of L hl) (kk p e s m args below meth c H locs ls cells slots mc ms C R S L e1 e2)
theorem ex_iload {i : Nat} {x : Int32} (hl : lget lv i = some (.int x)) (hd : decode (eC M) pc = .ok (.iload i, 2)) (kk : Ex G l d M Q X k n (pc + 2) lv (.int x :: rest) h) : Ex G l d M Q X k n pc lv (rest) h := by
  intro p e s m args below meth c H locs ls cells slots mc ms C R S L e1 e2
  exact lv_iload C.1 C.2.1 hd (lv_of L hl) (kk p e s m args below meth c H locs ls cells slots mc ms C R S L e1 e2)
theorem ex_lload_n {i : Fin 4} {x : Int64} (hl : lget lv i = some (.long x)) (hd : decode (eC M) pc = .ok (.lload_n i, 1)) (kk : Ex G l d M Q X k n (pc + 1) lv (.long x :: rest) h) : Ex G l d M Q X k n pc lv (rest) h := by
  intro p e s m args below meth c H locs ls cells slots mc ms C R S L e1 e2
  exact lv_lload_n C.1 C.2.1 hd rfl (lv_of L hl) (kk p e s m args below meth c H locs ls cells slots mc ms C R S L e1 e2)
theorem ex_lload {i : Nat} {x : Int64} (hl : lget lv i = some (.long x)) (hd : decode (eC M) pc = .ok (.lload i, 2)) (kk : Ex G l d M Q X k n (pc + 2) lv (.long x :: rest) h) : Ex G l d M Q X k n pc lv (rest) h := by
  intro p e s m args below meth c H locs ls cells slots mc ms C R S L e1 e2
  exact lv_lload C.1 C.2.1 hd (lv_of L hl) (kk p e s m args below meth c H locs ls cells slots mc ms C R S L e1 e2)
theorem ex_aload_n {i : Fin 4} {x : Nat} (hl : lget lv i = some (.ref x)) (hd : decode (eC M) pc = .ok (.aload_n i, 1)) (kk : Ex G l d M Q X k n (pc + 1) lv (.ref x :: rest) h) : Ex G l d M Q X k n pc lv (rest) h := by
  intro p e s m args below meth c H locs ls cells slots mc ms C R S L e1 e2
  exact lv_aload_n C.1 C.2.1 hd rfl (lv_of L hl) (kk p e s m args below meth c H locs ls cells slots mc ms C R S L e1 e2)
theorem ex_aload {i : Nat} {x : Nat} (hl : lget lv i = some (.ref x)) (hd : decode (eC M) pc = .ok (.aload i, 2)) (kk : Ex G l d M Q X k n (pc + 2) lv (.ref x :: rest) h) : Ex G l d M Q X k n pc lv (rest) h := by
  intro p e s m args below meth c H locs ls cells slots mc ms C R S L e1 e2
  exact lv_aload C.1 C.2.1 hd (lv_of L hl) (kk p e s m args below meth c H locs ls cells slots mc ms C R S L e1 e2)
theorem ex_istore_n {i : Fin 4} {x : Int32} (hi : (i : Nat) < eL M) (hf : lfree lv i = true) (hd : decode (eC M) pc = .ok (.istore_n i, 1)) (kk : Ex G l d M Q X k n (pc + 1) (lset lv i (.int x)) rest h) : Ex G l d M Q X k n pc lv (.int x :: rest) h := by
  intro p e s m args below meth c H locs ls cells slots mc ms C R S L e1 e2
  exact lv_istore_n C.1 C.2.1 hd rfl L hi rfl (fun ls' L' => kk p e s m args below meth c H locs ls' cells slots mc ms C R S (lset_has hf L') e1 e2)
theorem ex_istore {i : Nat} {x : Int32} (hi : (i : Nat) < eL M) (hf : lfree lv i = true) (hd : decode (eC M) pc = .ok (.istore i, 2)) (kk : Ex G l d M Q X k n (pc + 2) (lset lv i (.int x)) rest h) : Ex G l d M Q X k n pc lv (.int x :: rest) h := by
  intro p e s m args below meth c H locs ls cells slots mc ms C R S L e1 e2
  exact lv_istore C.1 C.2.1 hd L hi rfl (fun ls' L' => kk p e s m args below meth c H locs ls' cells slots mc ms C R S (lset_has hf L') e1 e2)
theorem ex_astore_n {i : Fin 4} {x : Nat} (hi : (i : Nat) < eL M) (hf : lfree lv i = true) (hd : decode (eC M) pc = .ok (.astore_n i, 1)) (kk : Ex G l d M Q X k n (pc + 1) (lset lv i (.ref x)) rest h) : Ex G l d M Q X k n pc lv (.ref x :: rest) h := by
  intro p e s m args below meth c H locs ls cells slots mc ms C R S L e1 e2
  exact lv_astore_n C.1 C.2.1 hd rfl L hi rfl (fun ls' L' => kk p e s m args below meth c H locs ls' cells slots mc ms C R S (lset_has hf L') e1 e2)
theorem ex_astore {i : Nat} {x : Nat} (hi : (i : Nat) < eL M) (hf : lfree lv i = true) (hd : decode (eC M) pc = .ok (.astore i, 2)) (kk : Ex G l d M Q X k n (pc + 2) (lset lv i (.ref x)) rest h) : Ex G l d M Q X k n pc lv (.ref x :: rest) h := by
  intro p e s m args below meth c H locs ls cells slots mc ms C R S L e1 e2
  exact lv_astore C.1 C.2.1 hd L hi rfl (fun ls' L' => kk p e s m args below meth c H locs ls' cells slots mc ms C R S (lset_has hf L') e1 e2)
theorem lget_at {l : List (Nat × Value)} {k : Nat} {v : Value} (h : lget l k = some v) : ∃ j : Nat, l[j]? = some (k, v) := List.getElem?_of_mem (lget_mem h)
theorem ex_iinc {i : Nat} {z : Int} {x v : Int32} (hl : lget lv i = some (.int x)) (hv : x + Int32.ofInt z = v) (hi : i < eL M) (hf : lfree lv i = true) (hd : decode (eC M) pc = .ok (.iinc i z, 3)) (kk : Ex G l d M Q X k n (pc + 3) (lset lv i (.int v)) st h) : Ex G l d M Q X k n pc lv st h := by
  intro p e s m args below meth c H locs ls cells slots mc ms C R S L e1 e2
  obtain ⟨j, hj⟩ := lget_at hl
  exact lv_iinc C.1 C.2.1 hd L hj hv hi rfl (fun ls' L' => kk p e s m args below meth c H locs ls' cells slots mc ms C R S (lset_has hf L') e1 e2)
theorem ex_iadd {x y : Int32} (hd : decode (eC M) pc = .ok (.iadd, 1)) (kk : Ex G l d M Q X k n (pc + 1) lv (.int (x + y) :: rest) h) : Ex G l d M Q X k n pc lv (.int y :: .int x :: rest) h := by
  intro p e s m args below meth c H locs ls cells slots mc ms C R S L e1 e2
  exact lv_iadd C.1 C.2.1 hd (kk p e s m args below meth c H locs ls cells slots mc ms C R S L e1 e2)
theorem ex_isub {x y : Int32} (hd : decode (eC M) pc = .ok (.isub, 1)) (kk : Ex G l d M Q X k n (pc + 1) lv (.int (x - y) :: rest) h) : Ex G l d M Q X k n pc lv (.int y :: .int x :: rest) h := by
  intro p e s m args below meth c H locs ls cells slots mc ms C R S L e1 e2
  exact lv_isub C.1 C.2.1 hd (kk p e s m args below meth c H locs ls cells slots mc ms C R S L e1 e2)
theorem ex_imul {x y : Int32} (hd : decode (eC M) pc = .ok (.imul, 1)) (kk : Ex G l d M Q X k n (pc + 1) lv (.int (x * y) :: rest) h) : Ex G l d M Q X k n pc lv (.int y :: .int x :: rest) h := by
  intro p e s m args below meth c H locs ls cells slots mc ms C R S L e1 e2
  exact lv_imul C.1 C.2.1 hd (kk p e s m args below meth c H locs ls cells slots mc ms C R S L e1 e2)
theorem ex_iand {x y : Int32} (hd : decode (eC M) pc = .ok (.iand, 1)) (kk : Ex G l d M Q X k n (pc + 1) lv (.int (x &&& y) :: rest) h) : Ex G l d M Q X k n pc lv (.int y :: .int x :: rest) h := by
  intro p e s m args below meth c H locs ls cells slots mc ms C R S L e1 e2
  exact lv_iand C.1 C.2.1 hd (kk p e s m args below meth c H locs ls cells slots mc ms C R S L e1 e2)
theorem ex_ior {x y : Int32} (hd : decode (eC M) pc = .ok (.ior, 1)) (kk : Ex G l d M Q X k n (pc + 1) lv (.int (x ||| y) :: rest) h) : Ex G l d M Q X k n pc lv (.int y :: .int x :: rest) h := by
  intro p e s m args below meth c H locs ls cells slots mc ms C R S L e1 e2
  exact lv_ior C.1 C.2.1 hd (kk p e s m args below meth c H locs ls cells slots mc ms C R S L e1 e2)
theorem ex_ixor {x y : Int32} (hd : decode (eC M) pc = .ok (.ixor, 1)) (kk : Ex G l d M Q X k n (pc + 1) lv (.int (x ^^^ y) :: rest) h) : Ex G l d M Q X k n pc lv (.int y :: .int x :: rest) h := by
  intro p e s m args below meth c H locs ls cells slots mc ms C R S L e1 e2
  exact lv_ixor C.1 C.2.1 hd (kk p e s m args below meth c H locs ls cells slots mc ms C R S L e1 e2)
theorem ex_ishl {x y : Int32} (hd : decode (eC M) pc = .ok (.ishl, 1)) (kk : Ex G l d M Q X k n (pc + 1) lv (.int (x <<< (y &&& 31)) :: rest) h) : Ex G l d M Q X k n pc lv (.int y :: .int x :: rest) h := by
  intro p e s m args below meth c H locs ls cells slots mc ms C R S L e1 e2
  exact lv_ishl C.1 C.2.1 hd (kk p e s m args below meth c H locs ls cells slots mc ms C R S L e1 e2)
theorem ex_ishr {x y : Int32} (hd : decode (eC M) pc = .ok (.ishr, 1)) (kk : Ex G l d M Q X k n (pc + 1) lv (.int (x >>> (y &&& 31)) :: rest) h) : Ex G l d M Q X k n pc lv (.int y :: .int x :: rest) h := by
  intro p e s m args below meth c H locs ls cells slots mc ms C R S L e1 e2
  exact lv_ishr C.1 C.2.1 hd (kk p e s m args below meth c H locs ls cells slots mc ms C R S L e1 e2)
theorem ex_idiv {x y : Int32} (hne : ¬ y = 0) (hd : decode (eC M) pc = .ok (.idiv, 1)) (kk : Ex G l d M Q X k n (pc + 1) lv (.int (x / y) :: rest) h) : Ex G l d M Q X k n pc lv (.int y :: .int x :: rest) h := by
  intro p e s m args below meth c H locs ls cells slots mc ms C R S L e1 e2
  exact lv_idiv C.1 C.2.1 hd hne (kk p e s m args below meth c H locs ls cells slots mc ms C R S L e1 e2)
theorem ex_irem {x y : Int32} (hne : ¬ y = 0) (hd : decode (eC M) pc = .ok (.irem, 1)) (kk : Ex G l d M Q X k n (pc + 1) lv (.int (x - x / y * y) :: rest) h) : Ex G l d M Q X k n pc lv (.int y :: .int x :: rest) h := by
  intro p e s m args below meth c H locs ls cells slots mc ms C R S L e1 e2
  exact lv_irem C.1 C.2.1 hd hne (kk p e s m args below meth c H locs ls cells slots mc ms C R S L e1 e2)
theorem ex_land {x y : Int64} (hd : decode (eC M) pc = .ok (.land, 1)) (kk : Ex G l d M Q X k n (pc + 1) lv (.long (x &&& y) :: rest) h) : Ex G l d M Q X k n pc lv (.long y :: .long x :: rest) h := by
  intro p e s m args below meth c H locs ls cells slots mc ms C R S L e1 e2
  exact lv_land C.1 C.2.1 hd (kk p e s m args below meth c H locs ls cells slots mc ms C R S L e1 e2)
theorem ex_lor {x y : Int64} (hd : decode (eC M) pc = .ok (.lor, 1)) (kk : Ex G l d M Q X k n (pc + 1) lv (.long (x ||| y) :: rest) h) : Ex G l d M Q X k n pc lv (.long y :: .long x :: rest) h := by
  intro p e s m args below meth c H locs ls cells slots mc ms C R S L e1 e2
  exact lv_lor C.1 C.2.1 hd (kk p e s m args below meth c H locs ls cells slots mc ms C R S L e1 e2)
theorem ex_lushr {x : Int64} {y : Int32} (hd : decode (eC M) pc = .ok (.lushr, 1)) (kk : Ex G l d M Q X k n (pc + 1) lv (.long ((x.toUInt64 >>> (y.toInt64.toUInt64 &&& Int64.toUInt64 63)).toInt64) :: rest) h) : Ex G l d M Q X k n pc lv (.int y :: .long x :: rest) h := by
  intro p e s m args below meth c H locs ls cells slots mc ms C R S L e1 e2
  exact lv_lushr C.1 C.2.1 hd rfl (kk p e s m args below meth c H locs ls cells slots mc ms C R S L e1 e2)
theorem ex_lshl {x : Int64} {y : Int32} (hd : decode (eC M) pc = .ok (.lshl, 1)) (kk : Ex G l d M Q X k n (pc + 1) lv (.long (x <<< (y.toInt64 &&& 63)) :: rest) h) : Ex G l d M Q X k n pc lv (.int y :: .long x :: rest) h := by
  intro p e s m args below meth c H locs ls cells slots mc ms C R S L e1 e2
  exact lv_lshl C.1 C.2.1 hd rfl (kk p e s m args below meth c H locs ls cells slots mc ms C R S L e1 e2)
theorem ex_iushr {x y : Int32} (hd : decode (eC M) pc = .ok (.iushr, 1)) (kk : Ex G l d M Q X k n (pc + 1) lv (.int ((x.toUInt32 >>> (y.toUInt32 &&& Int32.toUInt32 31)).toInt32) :: rest) h) : Ex G l d M Q X k n pc lv (.int y :: .int x :: rest) h := by
  intro p e s m args below meth c H locs ls cells slots mc ms C R S L e1 e2
  exact lv_iushr C.1 C.2.1 hd rfl (kk p e s m args below meth c H locs ls cells slots mc ms C R S L e1 e2)
theorem ex_lcmp {x y : Int64} (hd : decode (eC M) pc = .ok (.lcmp, 1)) (kk : Ex G l d M Q X k n (pc + 1) lv (.int (lg_cmp x y) :: rest) h) : Ex G l d M Q X k n pc lv (.long y :: .long x :: rest) h := by
  intro p e s m args below meth c H locs ls cells slots mc ms C R S L e1 e2
  exact W.lcmp C.1 C.2.1 hd (kk p e s m args below meth c H locs ls cells slots mc ms C R S L e1 e2)
theorem ex_i2l {x : Int32} (hd : decode (eC M) pc = .ok (.i2l, 1)) (kk : Ex G l d M Q X k n (pc + 1) lv (.long x.toInt64 :: rest) h) : Ex G l d M Q X k n pc lv (.int x :: rest) h := by
  intro p e s m args below meth c H locs ls cells slots mc ms C R S L e1 e2
  exact lv_i2l C.1 C.2.1 hd rfl (kk p e s m args below meth c H locs ls cells slots mc ms C R S L e1 e2)
theorem ex_l2i {x : Int64} (hd : decode (eC M) pc = .ok (.l2i, 1)) (kk : Ex G l d M Q X k n (pc + 1) lv (.int x.toInt32 :: rest) h) : Ex G l d M Q X k n pc lv (.long x :: rest) h := by
  intro p e s m args below meth c H locs ls cells slots mc ms C R S L e1 e2
  exact lv_l2i C.1 C.2.1 hd rfl (kk p e s m args below meth c H locs ls cells slots mc ms C R S L e1 e2)
theorem ex_i2c {x : Int32} (hd : decode (eC M) pc = .ok (.i2c, 1)) (kk : Ex G l d M Q X k n (pc + 1) lv (.int (x.toUInt32 % 65536).toInt32 :: rest) h) : Ex G l d M Q X k n pc lv (.int x :: rest) h := by
  intro p e s m args below meth c H locs ls cells slots mc ms C R S L e1 e2
  exact lv_i2c C.1 C.2.1 hd rfl (kk p e s m args below meth c H locs ls cells slots mc ms C R S L e1 e2)
theorem ex_i2b {x : Int32} (hd : decode (eC M) pc = .ok (.i2b, 1)) (kk : Ex G l d M Q X k n (pc + 1) lv (.int x.toInt8.toInt32 :: rest) h) : Ex G l d M Q X k n pc lv (.int x :: rest) h := by
  intro p e s m args below meth c H locs ls cells slots mc ms C R S L e1 e2
  exact lv_i2b C.1 C.2.1 hd rfl (kk p e s m args below meth c H locs ls cells slots mc ms C R S L e1 e2)
theorem ex_dup {v : Value} (hc : v.category = 1) (hd : decode (eC M) pc = .ok (.dup, 1)) (kk : Ex G l d M Q X k n (pc + 1) lv (v :: v :: rest) h) : Ex G l d M Q X k n pc lv (v :: rest) h := by
  intro p e s m args below meth c H locs ls cells slots mc ms C R S L e1 e2
  exact lv_dup C.1 C.2.1 hd hc (kk p e s m args below meth c H locs ls cells slots mc ms C R S L e1 e2)
theorem ex_pop {v : Value} (hc : v.category = 1) (hd : decode (eC M) pc = .ok (.pop, 1)) (kk : Ex G l d M Q X k n (pc + 1) lv (rest) h) : Ex G l d M Q X k n pc lv (v :: rest) h := by
  intro p e s m args below meth c H locs ls cells slots mc ms C R S L e1 e2
  exact lv_pop C.1 C.2.1 hd hc (kk p e s m args below meth c H locs ls cells slots mc ms C R S L e1 e2)
theorem ex_dup2 {v w : Value} (hc : v.category = 1) (hc2 : w.category = 1) (hd : decode (eC M) pc = .ok (.dup2, 1)) (kk : Ex G l d M Q X k n (pc + 1) lv (v :: w :: v :: w :: rest) h) : Ex G l d M Q X k n pc lv (v :: w :: rest) h := by
  intro p e s m args below meth c H locs ls cells slots mc ms C R S L e1 e2
  exact lv_dup2_11 C.1 C.2.1 hd hc hc2 (kk p e s m args below meth c H locs ls cells slots mc ms C R S L e1 e2)
theorem ex_goto {off : Int} {tgt : Nat} (ht : (pc : Int) + off = (tgt : Int)) (hd : decode (eC M) pc = .ok (.goto off, 3)) (kk : Ex G l d M Q X k n tgt lv st h) : Ex G l d M Q X k n pc lv st h := by
  intro p e s m args below meth c H locs ls cells slots mc ms C R S L e1 e2
  exact lv_goto C.1 C.2.1 hd ht (kk p e s m args below meth c H locs ls cells slots mc ms C R S L e1 e2)
theorem ex_if_eq {x : Int32} {off : Int} {tgt : Nat} (ht : (pc : Int) + off = (tgt : Int)) (hd : decode (eC M) pc = .ok (.ifCond .eq off, 3)) (kt : x = 0 → Ex G l d M Q X k n tgt lv rest h) (kf : ¬ x = 0 → Ex G l d M Q X k n (pc + 3) lv rest h) : Ex G l d M Q X k n pc lv (.int x :: rest) h := by
  intro p e s m args below meth c H locs ls cells slots mc ms C R S L e1 e2
  exact lv_if_eq C.1 C.2.1 hd ht (fun q => kt q p e s m args below meth c H locs ls cells slots mc ms C R S L e1 e2) (fun q => kf q p e s m args below meth c H locs ls cells slots mc ms C R S L e1 e2)
theorem ex_if_ne {x : Int32} {off : Int} {tgt : Nat} (ht : (pc : Int) + off = (tgt : Int)) (hd : decode (eC M) pc = .ok (.ifCond .ne off, 3)) (kt : ¬ x = 0 → Ex G l d M Q X k n tgt lv rest h) (kf : x = 0 → Ex G l d M Q X k n (pc + 3) lv rest h) : Ex G l d M Q X k n pc lv (.int x :: rest) h := by
  intro p e s m args below meth c H locs ls cells slots mc ms C R S L e1 e2
  exact lv_if_ne C.1 C.2.1 hd ht (fun q => kt q p e s m args below meth c H locs ls cells slots mc ms C R S L e1 e2) (fun q => kf q p e s m args below meth c H locs ls cells slots mc ms C R S L e1 e2)
theorem ex_if_lt {x : Int32} {off : Int} {tgt : Nat} (ht : (pc : Int) + off = (tgt : Int)) (hd : decode (eC M) pc = .ok (.ifCond .lt off, 3)) (kt : x < 0 → Ex G l d M Q X k n tgt lv rest h) (kf : ¬ x < 0 → Ex G l d M Q X k n (pc + 3) lv rest h) : Ex G l d M Q X k n pc lv (.int x :: rest) h := by
  intro p e s m args below meth c H locs ls cells slots mc ms C R S L e1 e2
  exact lv_if_lt C.1 C.2.1 hd ht (fun q => kt q p e s m args below meth c H locs ls cells slots mc ms C R S L e1 e2) (fun q => kf q p e s m args below meth c H locs ls cells slots mc ms C R S L e1 e2)
theorem ex_if_ge {x : Int32} {off : Int} {tgt : Nat} (ht : (pc : Int) + off = (tgt : Int)) (hd : decode (eC M) pc = .ok (.ifCond .ge off, 3)) (kt : 0 ≤ x → Ex G l d M Q X k n tgt lv rest h) (kf : ¬ 0 ≤ x → Ex G l d M Q X k n (pc + 3) lv rest h) : Ex G l d M Q X k n pc lv (.int x :: rest) h := by
  intro p e s m args below meth c H locs ls cells slots mc ms C R S L e1 e2
  exact lv_if_ge C.1 C.2.1 hd ht (fun q => kt q p e s m args below meth c H locs ls cells slots mc ms C R S L e1 e2) (fun q => kf q p e s m args below meth c H locs ls cells slots mc ms C R S L e1 e2)
theorem ex_if_gt {x : Int32} {off : Int} {tgt : Nat} (ht : (pc : Int) + off = (tgt : Int)) (hd : decode (eC M) pc = .ok (.ifCond .gt off, 3)) (kt : 0 < x → Ex G l d M Q X k n tgt lv rest h) (kf : ¬ 0 < x → Ex G l d M Q X k n (pc + 3) lv rest h) : Ex G l d M Q X k n pc lv (.int x :: rest) h := by
  intro p e s m args below meth c H locs ls cells slots mc ms C R S L e1 e2
  exact lv_if_gt C.1 C.2.1 hd ht (fun q => kt q p e s m args below meth c H locs ls cells slots mc ms C R S L e1 e2) (fun q => kf q p e s m args below meth c H locs ls cells slots mc ms C R S L e1 e2)
theorem ex_if_le {x : Int32} {off : Int} {tgt : Nat} (ht : (pc : Int) + off = (tgt : Int)) (hd : decode (eC M) pc = .ok (.ifCond .le off, 3)) (kt : x ≤ 0 → Ex G l d M Q X k n tgt lv rest h) (kf : ¬ x ≤ 0 → Ex G l d M Q X k n (pc + 3) lv rest h) : Ex G l d M Q X k n pc lv (.int x :: rest) h := by
  intro p e s m args below meth c H locs ls cells slots mc ms C R S L e1 e2
  exact lv_if_le C.1 C.2.1 hd ht (fun q => kt q p e s m args below meth c H locs ls cells slots mc ms C R S L e1 e2) (fun q => kf q p e s m args below meth c H locs ls cells slots mc ms C R S L e1 e2)
theorem ex_icmp_eq {x y : Int32} {off : Int} {tgt : Nat} (ht : (pc : Int) + off = (tgt : Int)) (hd : decode (eC M) pc = .ok (.if_icmp .eq off, 3)) (kt : x = y → Ex G l d M Q X k n tgt lv rest h) (kf : ¬ x = y → Ex G l d M Q X k n (pc + 3) lv rest h) : Ex G l d M Q X k n pc lv (.int y :: .int x :: rest) h := by
  intro p e s m args below meth c H locs ls cells slots mc ms C R S L e1 e2
  exact lv_icmp_eq C.1 C.2.1 hd ht (fun q => kt q p e s m args below meth c H locs ls cells slots mc ms C R S L e1 e2) (fun q => kf q p e s m args below meth c H locs ls cells slots mc ms C R S L e1 e2)
theorem ex_icmp_ne {x y : Int32} {off : Int} {tgt : Nat} (ht : (pc : Int) + off = (tgt : Int)) (hd : decode (eC M) pc = .ok (.if_icmp .ne off, 3)) (kt : ¬ x = y → Ex G l d M Q X k n tgt lv rest h) (kf : x = y → Ex G l d M Q X k n (pc + 3) lv rest h) : Ex G l d M Q X k n pc lv (.int y :: .int x :: rest) h := by
  intro p e s m args below meth c H locs ls cells slots mc ms C R S L e1 e2
  exact lv_icmp_ne C.1 C.2.1 hd ht (fun q => kt q p e s m args below meth c H locs ls cells slots mc ms C R S L e1 e2) (fun q => kf q p e s m args below meth c H locs ls cells slots mc ms C R S L e1 e2)
theorem ex_icmp_lt {x y : Int32} {off : Int} {tgt : Nat} (ht : (pc : Int) + off = (tgt : Int)) (hd : decode (eC M) pc = .ok (.if_icmp .lt off, 3)) (kt : x < y → Ex G l d M Q X k n tgt lv rest h) (kf : ¬ x < y → Ex G l d M Q X k n (pc + 3) lv rest h) : Ex G l d M Q X k n pc lv (.int y :: .int x :: rest) h := by
  intro p e s m args below meth c H locs ls cells slots mc ms C R S L e1 e2
  exact lv_icmp_lt C.1 C.2.1 hd ht (fun q => kt q p e s m args below meth c H locs ls cells slots mc ms C R S L e1 e2) (fun q => kf q p e s m args below meth c H locs ls cells slots mc ms C R S L e1 e2)
theorem ex_icmp_ge {x y : Int32} {off : Int} {tgt : Nat} (ht : (pc : Int) + off = (tgt : Int)) (hd : decode (eC M) pc = .ok (.if_icmp .ge off, 3)) (kt : y ≤ x → Ex G l d M Q X k n tgt lv rest h) (kf : ¬ y ≤ x → Ex G l d M Q X k n (pc + 3) lv rest h) : Ex G l d M Q X k n pc lv (.int y :: .int x :: rest) h := by
  intro p e s m args below meth c H locs ls cells slots mc ms C R S L e1 e2
  exact lv_icmp_ge C.1 C.2.1 hd ht (fun q => kt q p e s m args below meth c H locs ls cells slots mc ms C R S L e1 e2) (fun q => kf q p e s m args below meth c H locs ls cells slots mc ms C R S L e1 e2)
theorem ex_icmp_gt {x y : Int32} {off : Int} {tgt : Nat} (ht : (pc : Int) + off = (tgt : Int)) (hd : decode (eC M) pc = .ok (.if_icmp .gt off, 3)) (kt : y < x → Ex G l d M Q X k n tgt lv rest h) (kf : ¬ y < x → Ex G l d M Q X k n (pc + 3) lv rest h) : Ex G l d M Q X k n pc lv (.int y :: .int x :: rest) h := by
  intro p e s m args below meth c H locs ls cells slots mc ms C R S L e1 e2
  exact lv_icmp_gt C.1 C.2.1 hd ht (fun q => kt q p e s m args below meth c H locs ls cells slots mc ms C R S L e1 e2) (fun q => kf q p e s m args below meth c H locs ls cells slots mc ms C R S L e1 e2)
theorem ex_icmp_le {x y : Int32} {off : Int} {tgt : Nat} (ht : (pc : Int) + off = (tgt : Int)) (hd : decode (eC M) pc = .ok (.if_icmp .le off, 3)) (kt : x ≤ y → Ex G l d M Q X k n tgt lv rest h) (kf : ¬ x ≤ y → Ex G l d M Q X k n (pc + 3) lv rest h) : Ex G l d M Q X k n pc lv (.int y :: .int x :: rest) h := by
  intro p e s m args below meth c H locs ls cells slots mc ms C R S L e1 e2
  exact lv_icmp_le C.1 C.2.1 hd ht (fun q => kt q p e s m args below meth c H locs ls cells slots mc ms C R S L e1 e2) (fun q => kf q p e s m args below meth c H locs ls cells slots mc ms C R S L e1 e2)
theorem ex_acmp_eq {x y : Nat} {off : Int} {tgt : Nat} (ht : (pc : Int) + off = (tgt : Int)) (hd : decode (eC M) pc = .ok (.if_acmp .eq off, 3)) (kt : x = y → Ex G l d M Q X k n tgt lv rest h) (kf : ¬ x = y → Ex G l d M Q X k n (pc + 3) lv rest h) : Ex G l d M Q X k n pc lv (.ref y :: .ref x :: rest) h := by
  intro p e s m args below meth c H locs ls cells slots mc ms C R S L e1 e2
  exact lv_acmp_eq (rx := some x) (ry := some y) C.1 C.2.1 hd ht (fun q => kt (Option.some.inj q) p e s m args below meth c H locs ls cells slots mc ms C R S L e1 e2) (fun q => kf (fun z => q (congrArg some z)) p e s m args below meth c H locs ls cells slots mc ms C R S L e1 e2)
theorem ex_acmp_ne {x y : Nat} {off : Int} {tgt : Nat} (ht : (pc : Int) + off = (tgt : Int)) (hd : decode (eC M) pc = .ok (.if_acmp .ne off, 3)) (kt : ¬ x = y → Ex G l d M Q X k n tgt lv rest h) (kf : x = y → Ex G l d M Q X k n (pc + 3) lv rest h) : Ex G l d M Q X k n pc lv (.ref y :: .ref x :: rest) h := by
  intro p e s m args below meth c H locs ls cells slots mc ms C R S L e1 e2
  exact lv_acmp_ne (rx := some x) (ry := some y) C.1 C.2.1 hd ht (fun q => kt (fun z => q (congrArg some z)) p e s m args below meth c H locs ls cells slots mc ms C R S L e1 e2) (fun q => kf (Option.some.inj q) p e s m args below meth c H locs ls cells slots mc ms C R S L e1 e2)
theorem ex_tblO {dflt lo hi : Int} {offs : Array Int} {len : Nat} {x : Int32} {tgt : Nat} (hd : decode (eC M) pc = .ok (.tableswitch dflt lo hi offs, len)) (hx : x.toInt < lo ∨ hi < x.toInt) (ht : (pc : Int) + dflt = (tgt : Int)) (kk : Ex G l d M Q X k n tgt lv rest h) : Ex G l d M Q X k n pc lv (.int x :: rest) h := by
  intro p e s m args below meth c H locs ls cells slots mc ms C R S L e1 e2
  exact lv_tableOut C.1 C.2.1 hd hx ht (kk p e s m args below meth c H locs ls cells slots mc ms C R S L e1 e2)
theorem ex_tblI {dflt lo hi : Int} {offs : Array Int} {len : Nat} {x : Int32} {off : Int} {tgt : Nat} (hd : decode (eC M) pc = .ok (.tableswitch dflt lo hi offs, len)) (h1 : ¬ x.toInt < lo) (h2 : ¬ hi < x.toInt) (ho : offs[(x.toInt - lo).toNat]? = some off) (ht : (pc : Int) + off = (tgt : Int)) (kk : Ex G l d M Q X k n tgt lv rest h) : Ex G l d M Q X k n pc lv (.int x :: rest) h := by
  intro p e s m args below meth c H locs ls cells slots mc ms C R S L e1 e2
  exact lv_tableIn C.1 C.2.1 hd h1 h2 ho ht (kk p e s m args below meth c H locs ls cells slots mc ms C R S L e1 e2)
theorem ex_lv (lv' : List (Nat × Value)) (hs : lall lv lv') (kk : Ex G l d M Q X k n pc lv' st h) : Ex G l d M Q X k n pc lv st h := by
  intro p e s m args below meth c H locs ls cells slots mc ms C R S L e1 e2
  exact kk p e s m args below meth c H locs ls cells slots mc ms C R S ⟨L.1, L.2.1, fun q hq => L.2.2 q (lall_mem hs hq)⟩ e1 e2
theorem ex_mono {Q' : Option Value → EH → Prop} {X' : String → EH → Prop} (hq : ∀ v h, Q' v h → Q v h) (hx : ∀ E h, X' E h → X E h) (kk : Ex G l d M Q' X' k n pc lv st h) : Ex G l d M Q X k n pc lv st h := by
  intro p e s m args below meth c H locs ls cells slots mc ms C R S L e1 e2
  intro T hT Y
  obtain ⟨t, a, o, b1, b2, b3⟩ := kk p e s m args below meth c H locs ls cells slots mc ms C R S L e1 e2 T hT Y
  refine ⟨t, a, o, b1, b2, ?_⟩
  rcases b3 with ⟨⟨v, h', x1, x2, x3⟩, x4⟩ | ⟨q, x1, E, ce, L2, ⟨h', y1, y2⟩, x3⟩
  · exact Or.inl ⟨⟨v, h', x1, hq _ _ x2, x3⟩, x4⟩
  · exact Or.inr ⟨q, x1, E, ce, L2, ⟨h', hx _ _ y1, y2⟩, x3⟩
end EXR
end
section
/-! THE LOGIC, 2: the heap, calls, returns -/
theorem eRel.one {G : EG} {h : EH} {H : Heap} (R : eRel G h H) {a : Nat} {e : va_E} (ha : h.2 a = some e) : va_P (eD G) vwCl [(a, e)] H := by
  intro k q hk
  have hz : k < 1 := (List.getElem?_eq_some_iff.mp hk).1
  rw [show k = 0 by omega] at hk
  cases hk
  exact (R.2.2 a e ha).1
theorem eRel.up {G : EG} {h : EH} {H H1 : Heap} (R : eRel G h H) {a : Nat} {e0 e : va_E} (ha : h.2 a = some e0) (he : va_at (eD G) vwCl (a, e) H1) (hz : H1.size = H.size) (ho : ∀ q : Nat, q ≠ a → H1[q]? = H[q]?) : eRel G (hup h a e) H1 := by
  refine ⟨hz.trans R.1, R.2.1, fun b x hx => ?_⟩
  by_cases hb : b = a
  · subst hb
    have : x = e := by
      have h9 : (if b = b then some e else h.2 b) = some x := hx
      rw [if_pos rfl] at h9
      exact (Option.some.inj h9).symm
    subst this
    exact ⟨he, (R.2.2 b e0 ha).2⟩
  · have h9 : (if b = a then some e else h.2 b) = some x := hx
    rw [if_neg hb] at h9
    exact ⟨(R.2.2 b x h9).1.kept (ho b hb), (R.2.2 b x h9).2⟩
theorem eRel.born {G : EG} {h : EH} {H H1 : Heap} (R : eRel G h H) {e : va_E} (he : va_at (eD G) vwCl (H.size, e) H1) (hz : H1.size = H.size + 1) (ho : ∀ q : Nat, q < H.size → H1[q]? = H[q]?) : eRel G (hnew h e) H1 := by
  refine ⟨by rw [hz, R.1]; rfl, Nat.le_trans R.2.1 (Nat.le_succ _), fun b x hx => ?_⟩
  by_cases hb : b = h.1
  · subst hb
    have : x = e := by
      have h9 : (if h.1 = h.1 then some e else h.2 h.1) = some x := hx
      rw [if_pos rfl] at h9
      exact (Option.some.inj h9).symm
    subst this
    rw [← R.1]
    exact ⟨he, by rw [R.1]; exact R.2.1⟩
  · have h9 : (if b = h.1 then some e else h.2 b) = some x := hx
    rw [if_neg hb] at h9
    have h8 := R.2.2 b x h9
    exact ⟨h8.1.kept (ho b h8.1.lt), h8.2⟩
theorem eS_put {G : EG} {s : State} {H H1 : Heap} {locs : List Loc} {a i : Nat} (S : va_S (eF G) s.heap H locs) (hz : H1.size = H.size) (ho : ∀ q : Nat, q ≠ a → H1[q]? = H[q]?) (ha : eb G ≤ a) : va_S (eF G) s.heap H1 (locs ++ [⟨a, i⟩]) := S.put hz ho ha
theorem eS_new {G : EG} {s : State} {H H1 : Heap} {locs : List Loc} (S : va_S (eF G) s.heap H locs) (hz : H1.size = H.size + 1) (ho : ∀ q : Nat, q < H.size → H1[q]? = H[q]?) : va_S (eF G) s.heap H1 locs :=
  ⟨Nat.le_trans S.1 (by omega), fun x h1 h2 => (ho x (Nat.lt_of_lt_of_le h1 S.1)).trans (S.2.1 x h1 h2), S.2.2⟩
/-- a field's link, by class number and place -/
def EGF (own : String) (idx ci j : Nat) : Prop := ∃ (C : String) (T : u_T) (N : Nat), vwCl[ci]? = some (C, T, N) ∧ (∀ w ∈ u_ws C T N, w ∈ egood) ∧ j < N ∧ Cond.fieldLink own idx (T j).1 (T j).2.1 (T j).2.2.1 ∈ egood
/-- beside it what a store asks: the field's type, and whether it is final -/
def EPF (own : String) (idx ci j : Nat) (ty : FieldType) (fin : Bool) : Prop := ∃ (C : String) (T : u_T) (N : Nat) (ty0 : Nat → FieldType), vwCl[ci]? = some (C, T, N) ∧ (∀ w ∈ u_ws C T N, w ∈ egood) ∧ j < N ∧ Cond.fieldLink own idx (T j).1 (T j).2.1 (T j).2.2.1 ∈ egood ∧
  (∀ k, k < N → parseFieldDescriptor (T k).2.2.1 = some (ty0 k)) ∧ (∀ a, a < N → ∀ b, b < N → a ≠ b → (T a).2.1 ≠ (T b).2.1) ∧ ty0 j = ty ∧ (T j).2.2.2 = fin ∧ (fin = true → (T j).1 = own)
/-- a class that is made -/
def ENW (own : String) (idx ci N : Nat) (fs : List Value) : Prop := ∃ (C : String) (T : u_T) (ty0 : Nat → FieldType), vwCl[ci]? = some (C, T, N) ∧ (∀ w ∈ u_ws C T N, w ∈ egood) ∧ (∀ k, k < N → parseFieldDescriptor (T k).2.2.1 = some (ty0 k)) ∧ Cond.classLink own idx C ∈ egood ∧ Cond.instantiable C N ∈ egood ∧ Cond.initialized C ∈ egood ∧ ∀ j, j < N → defaultValue (ty0 j) = vp_V fs j
section EXH
variable {G : EG} {l : Launch} {d : Nat} {M : EM} {Q : Option Value → EH → Prop} {X : String → EH → Prop} {k n pc : Nat} {lv : List (Nat × Value)} {rest st : List Value} {h : EH}
theorem ex_get {a ci idx j : Nat} {fs : List Value} {v : Value} (hd : decode (eC M) pc = .ok (.getfield idx, 3)) (hf : EGF (eY M).cls idx ci j) (hh : h.2 a = some (.inr (ci, fs))) (hv : fs[j]? = some v) (kk : Ex G l d M Q X k n (pc + 3) lv (v :: rest) h) : Ex G l d M Q X k n pc lv (.ref a :: rest) h := by
  intro p e s m args below meth c H locs ls cells slots mc ms C R S L e1 e2
  obtain ⟨C9, T9, N9, f1, f2, f3, f4⟩ := hf
  exact va_get (D := eD G) (cl := vwCl) (tys := etys G) (ws := [(a, .inr (ci, fs))]) C.1 C.2.1 C.2.2.2.2.1 f2 C.2.2.2.1 C.2.2.2.2.2.2.2.2.1 (R.one hh) 0 rfl f1 j f3 (C.2.2.2.2.1 _ f4) (fun _ h9 => h9) hv hd (kk p e s m args below meth c H locs ls cells slots mc ms C R S L e1 e2)
theorem ex_put {a ci idx j : Nat} {fs : List Value} {v : Value} {ty : FieldType} (hd : decode (eC M) pc = .ok (.putfield idx, 3)) (hf : EPF (eY M).cls idx ci j ty false) (hh : h.2 a = some (.inr (ci, fs))) (hl : j < fs.length) (hn : narrow ty v = v) (hfit : fits ty v = true) (kk : Ex G l d M Q X k n (pc + 3) lv rest (hup h a (.inr (ci, fs.set j v)))) : Ex G l d M Q X k n pc lv (v :: .ref a :: rest) h := by
  intro p e s m args below meth c H locs ls cells slots mc ms C R S L e1 e2
  obtain ⟨C9, T9, N9, ty0, hc, hin, hk, hlink, hty, hnm, ety, hfin, -⟩ := hf
  have hK := C.2.2.2.2.2.2.2.2.1
  have hts := C.2.2.2.2.1
  have hap := va_apart (own := (eY M).cls) hts hin ty0 hty hnm hK hc
  obtain ⟨⟨r, h1, cell, q1, q2, q3, q4⟩, hba⟩ := R.2.2 a _ hh
  have hr : r = (C9, T9, N9) := Option.some.inj (h1.symm.trans hc)
  subst hr
  obtain ⟨hS, hfc, kC, hkC, hkind⟩ := hK.1 ci _ hc
  obtain ⟨cf, kf, fi, f, hi, hsl⟩ := hS j hk
  have hlay := hts _ (hin _ (u_in_lay hk))
  unfold u_lay at hlay
  rw [if_neg (by rw [hfin]; decide)] at hlay
  have hst := (u_facts hfc hkC (u_lays hts hin hk) hi).1
  have h6 := u_store hfc hkC hkind hlay hi (by rw [← ety]; exact hty j hk) hn hfit
  refine W.putK C.1 C.2.1 (f := f) ⟨C.2.2.2.1, hts _ hlink, ⟨_, _, _, hi⟩, hst⟩ (by rw [q2]; exact h6) q1 q3 (by rw [hsl]; exact k2_hasslot (q4 j hk)) rfl rfl hd fun H' e1' e2' e3' => ?_
  rw [hsl] at e1' ⊢
  exact kk p e s m args below meth c H' _ ls cells slots mc ms C (R.up hh ⟨_, hc, t_OB.to (V := updV (vp_V fs) j v) ⟨_, e1', q2, q3, t_set q4 hap hk v⟩ (fun i _ => vp_updV_set hl v i)⟩ e2' e3') (S.put e2' e3' hba) L e1 e2
theorem ex_putF {a ci idx j : Nat} {fs : List Value} {v : Value} {ty : FieldType} (hd : decode (eC M) pc = .ok (.putfield idx, 3)) (hf : EPF (eY M).cls idx ci j ty true) (hini : (eY M).name = "<init>") (hh : h.2 a = some (.inr (ci, fs))) (hl : j < fs.length) (hn : narrow ty v = v) (hfit : fits ty v = true) (kk : Ex G l d M Q X k n (pc + 3) lv rest (hup h a (.inr (ci, fs.set j v)))) : Ex G l d M Q X k n pc lv (v :: .ref a :: rest) h := by
  intro p e s m args below meth c H locs ls cells slots mc ms C R S L e1 e2
  obtain ⟨C9, T9, N9, ty0, hc, hin, hk, hlink, hty, hnm, ety, hfin, hdecl⟩ := hf
  have hK := C.2.2.2.2.2.2.2.2.1
  have hts := C.2.2.2.2.1
  have hap := va_apart (own := (eY M).cls) hts hin ty0 hty hnm hK hc
  obtain ⟨⟨r, h1, cell, q1, q2, q3, q4⟩, hba⟩ := R.2.2 a _ hh
  have hr : r = (C9, T9, N9) := Option.some.inj (h1.symm.trans hc)
  subst hr
  obtain ⟨hS, hfc, kC, hkC, hkind⟩ := hK.1 ci _ hc
  obtain ⟨cf, kf, fi, f, hi, hsl⟩ := hS j hk
  have hlay := hts _ (hin _ (u_in_lay hk))
  unfold u_lay at hlay
  rw [if_pos hfin] at hlay
  have hst := (u_facts hfc hkC (u_lays hts hin hk) hi).1
  have hcf : m.cls = cf := by
    obtain ⟨_, _, c', _, _, _, -, -, hf', -, -, -, hown2, -⟩ := Cond.laysFinal_spec hlay
    have z1 : c' = cf := by have := hi.symm.trans hf'; simp at this; exact this.1.symm
    rw [hdecl rfl] at hown2
    rw [← z1]; exact Option.some.inj (C.2.2.2.1.symm.trans hown2)
  have h6 := u_fits hfc hkC hkind (Or.inr hlay) hi (by rw [← ety]; exact hty j hk) hn hfit
  refine W.putFinK C.1 C.2.1 C.2.2.2.1 (hts _ hlink) hi hst hcf (C.2.2.2.2.2.2.2.1.1.trans hini) (by rw [q2]; exact h6) q1 q3 (by rw [hsl]; exact k2_hasslot (q4 j hk)) rfl rfl hd fun H' e1' e2' e3' => ?_
  rw [hsl] at e1' ⊢
  exact kk p e s m args below meth c H' _ ls cells slots mc ms C (R.up hh ⟨_, hc, t_OB.to (V := updV (vp_V fs) j v) ⟨_, e1', q2, q3, t_set q4 hap hk v⟩ (fun i _ => vp_updV_set hl v i)⟩ e2' e3') (S.put e2' e3' hba) L e1 e2
theorem ex_gets {idx : Nat} {z : String × String × String × Value} (hd : decode (eC M) pc = .ok (.getstatic idx, 3)) (hz : z ∈ eZ G) (hl : Cond.fieldLink (eY M).cls idx z.1 z.2.1 z.2.2.1 ∈ egood) (kk : Ex G l d M Q X k n (pc + 3) lv (z.2.2.2 :: rest) h) : Ex G l d M Q X k n pc lv rest h := by
  intro p e s m args below meth c H locs ls cells slots mc ms C R S L e1 e2
  exact va_gets C.1 C.2.1 (C.2.2.2.2.2.2.2.2.2.1.1 z hz) S C.2.2.2.1 (C.2.2.2.2.1 _ hl) (fun _ h9 => h9) hd (kk p e s m args below meth c H locs ls cells slots mc ms C R S L e1 e2)
theorem ex_getsN {idx : Nat} {z : String × String × String × Value} {host : String} (hd : decode (eC M) pc = .ok (.getstatic idx, 3)) (hz : z ∈ eZ G) (hl : Cond.fieldLinkNest (eY M).cls idx z.1 z.2.1 z.2.2.1 host ∈ lw_tbl) (kk : Ex G l d M Q X k n (pc + 3) lv (z.2.2.2 :: rest) h) : Ex G l d M Q X k n pc lv rest h := by
  intro p e s m args below meth c H locs ls cells slots mc ms C R S L e1 e2
  exact va_getsN C.1 C.2.1 (C.2.2.2.2.2.2.2.2.2.1.1 z hz) S C.2.2.2.1 (va_Nw.use rfl (C.2.2.2.2.2.2.2.2.2.2.2.2.2.2.1 _ _ _ _ _ _ hl)) (fun _ h9 => h9) hd (kk p e s m args below meth c H locs ls cells slots mc ms C R S L e1 e2)
theorem ex_getc {idx : Nat} {z : String × String × String × Value × Nat} (hd : decode (eC M) pc = .ok (.getfield idx, 3)) (hz : eOF G z) (hl : Cond.fieldLink (eY M).cls idx z.1 z.2.1 z.2.2.1 ∈ egood) (kk : Ex G l d M Q X k n (pc + 3) lv (z.2.2.2.1 :: rest) h) : Ex G l d M Q X k n pc lv (.ref z.2.2.2.2 :: rest) h := by
  intro p e s m args below meth c H locs ls cells slots mc ms C R S L e1 e2
  exact vk_getf C.1 C.2.1 (C.2.2.2.2.2.2.2.2.2.1.2.2.1 z hz) S C.2.2.2.1 (C.2.2.2.2.1 _ hl) (fun _ h9 => h9) hd (kk p e s m args below meth c H locs ls cells slots mc ms C R S L e1 e2)
theorem ex_getcN {idx : Nat} {z : String × String × String × Value × Nat} {host : String} (hd : decode (eC M) pc = .ok (.getfield idx, 3)) (hz : eOF G z) (hl : Cond.fieldLinkNest (eY M).cls idx z.1 z.2.1 z.2.2.1 host ∈ lw_tbl) (kk : Ex G l d M Q X k n (pc + 3) lv (z.2.2.2.1 :: rest) h) : Ex G l d M Q X k n pc lv (.ref z.2.2.2.2 :: rest) h := by
  intro p e s m args below meth c H locs ls cells slots mc ms C R S L e1 e2
  obtain ⟨cf, kf, i, f, cell, o1, o2, o3, o4, o5, o6⟩ := (C.2.2.2.2.2.2.2.2.2.1.2.2.1 z hz).kept S.2.1
  exact va_Wgetf C.1 C.2.1 C.2.2.2.1 (va_Nw.use rfl (C.2.2.2.2.2.2.2.2.2.2.2.2.2.2.1 _ _ _ _ _ _ hl)) o1 o2 o3 o4 o5 rfl rfl hd (kk p e s m args below meth c H locs ls cells slots mc ms C R S L e1 e2)
theorem ex_iald {a N : Nat} {f : Nat → Int32} {i : Int32} (hd : decode (eC M) pc = .ok (.iaload, 1)) (hh : h.2 a = some (.inl (eA G 0, N, .inl f))) (hin : vp_in i N) (kk : Ex G l d M Q X k n (pc + 1) lv (.int (f i.toNatClampNeg) :: rest) h) : Ex G l d M Q X k n pc lv (.int i :: .ref a :: rest) h := by
  intro p e s m args below meth c H locs ls cells slots mc ms C R S L e1 e2
  exact va_iald (D := eD G) (cl := vwCl) (tys := etys G) (ws := [(a, .inl (eA G 0, N, .inl f))]) C.1 C.2.1 C.2.2.2.2.2.2.2.2.1 (R.one hh) 0 0 rfl rfl hin hd (kk p e s m args below meth c H locs ls cells slots mc ms C R S L e1 e2)
theorem ex_lald {a N : Nat} {f : Nat → Int64} {i : Int32} (hd : decode (eC M) pc = .ok (.laload, 1)) (hh : h.2 a = some (.inl (eA G 1, N, .inr (.inl f)))) (hin : vp_in i N) (kk : Ex G l d M Q X k n (pc + 1) lv (.long (f i.toNatClampNeg) :: rest) h) : Ex G l d M Q X k n pc lv (.int i :: .ref a :: rest) h := by
  intro p e s m args below meth c H locs ls cells slots mc ms C R S L e1 e2
  exact va_lald (D := eD G) (cl := vwCl) (tys := etys G) (ws := [(a, .inl (eA G 1, N, .inr (.inl f)))]) C.1 C.2.1 C.2.2.2.2.2.2.2.2.1 (R.one hh) 0 1 rfl rfl hin hd (kk p e s m args below meth c H locs ls cells slots mc ms C R S L e1 e2)
theorem ex_cald {a N : Nat} {f : Nat → Int32} {i : Int32} (hd : decode (eC M) pc = .ok (.caload, 1)) (hh : h.2 a = some (.inl (eA G 2, N, .inl f))) (hin : vp_in i N) (kk : Ex G l d M Q X k n (pc + 1) lv (.int (f i.toNatClampNeg) :: rest) h) : Ex G l d M Q X k n pc lv (.int i :: .ref a :: rest) h := by
  intro p e s m args below meth c H locs ls cells slots mc ms C R S L e1 e2
  exact va_cald (D := eD G) (cl := vwCl) (tys := etys G) (ws := [(a, .inl (eA G 2, N, .inl f))]) C.1 C.2.1 C.2.2.2.2.2.2.2.2.1 (R.one hh) 0 2 rfl rfl hin hd (kk p e s m args below meth c H locs ls cells slots mc ms C R S L e1 e2)
theorem ex_zald {a N : Nat} {f : Nat → Int32} {i : Int32} (hd : decode (eC M) pc = .ok (.baload, 1)) (hh : h.2 a = some (.inl (eA G 3, N, .inl f))) (hin : vp_in i N) (kk : Ex G l d M Q X k n (pc + 1) lv (.int (f i.toNatClampNeg) :: rest) h) : Ex G l d M Q X k n pc lv (.int i :: .ref a :: rest) h := by
  intro p e s m args below meth c H locs ls cells slots mc ms C R S L e1 e2
  exact va_zald (D := eD G) (cl := vwCl) (tys := etys G) (ws := [(a, .inl (eA G 3, N, .inl f))]) C.1 C.2.1 C.2.2.2.2.2.2.2.2.1 (R.one hh) 0 3 rfl rfl hin hd (kk p e s m args below meth c H locs ls cells slots mc ms C R S L e1 e2)
theorem ex_aldq {a N : Nat} {f : Nat → Option Nat} {i : Int32} (hd : decode (eC M) pc = .ok (.aaload, 1)) (hh : h.2 a = some (.inl (eA G 4, N, .inr (.inr (.inr (.inr f)))))) (hin : vp_in i N) (kk : Ex G l d M Q X k n (pc + 1) lv (va_rf (f i.toNatClampNeg) :: rest) h) : Ex G l d M Q X k n pc lv (.int i :: .ref a :: rest) h := by
  intro p e s m args below meth c H locs ls cells slots mc ms C R S L e1 e2
  exact va_aldq (D := eD G) (cl := vwCl) (tys := etys G) (ws := [(a, .inl (eA G 4, N, .inr (.inr (.inr (.inr f)))))]) C.1 C.2.1 C.2.2.2.2.2.2.2.2.1 (R.one hh) 0 4 rfl rfl hin hd (kk p e s m args below meth c H locs ls cells slots mc ms C R S L e1 e2)
theorem ex_alen {a N t : Nat} {x : vp_A} {ty : FieldType} {v : Int32} (hd : decode (eC M) pc = .ok (.arraylength, 1)) (hh : h.2 a = some (.inl (eA G t, x))) (ht : (etys G)[t]? = some (eA G t, ty)) (hv : Int32.ofNat x.1 = v) (kk : Ex G l d M Q X k n (pc + 1) lv (.int v :: rest) h) : Ex G l d M Q X k n pc lv (.ref a :: rest) h := by
  intro p e s m args below meth c H locs ls cells slots mc ms C R S L e1 e2
  exact va_alen (D := eD G) (cl := vwCl) (tys := etys G) (ws := [(a, .inl (eA G t, x))]) C.1 C.2.1 C.2.2.2.2.2.2.2.2.1 (R.one hh) 0 t rfl ht hv hd (kk p e s m args below meth c H locs ls cells slots mc ms C R S L e1 e2)
theorem ex_iast {a N : Nat} {f : Nat → Int32} {i : Int32} {x : Int32} (hd : decode (eC M) pc = .ok (.iastore, 1)) (hh : h.2 a = some (.inl (eA G 0, N, .inl f))) (hin : vp_in i N) (kk : Ex G l d M Q X k n (pc + 1) lv rest (hup h a (.inl (eA G 0, N, .inl (upd f i.toNatClampNeg x))))) : Ex G l d M Q X k n pc lv (.int x :: .int i :: .ref a :: rest) h := by
  intro p e s m args below meth c H locs ls cells slots mc ms C R S L e1 e2
  have hat : H[a]? = some (vp_cell (eA G 0) (N, .inl f)) := (R.2.2 a _ hh).1
  refine W.iast C.1 C.2.1 hat ((C.2.2.2.2.2.2.2.2.1.2 0 _ rfl).1 N (fun j => .int (f j))) (fun q => by cases q) (by show ¬ (i < 0 ∨ (arrV _ _ _).slots.size ≤ _); rw [arrV_size]; exact hin) rfl rfl hd fun H1 ee z oq => ?_
  refine kk p e s m args below meth c H1 _ ls cells slots mc ms C (R.up hh ?_ z oq) (S.put z oq (R.2.2 a _ hh).2) L e1 e2
  show H1[a]? = some (vp_cell _ _)
  rw [ee]
  rw [vp_cell_i, vp_cell_i, arrV_store]
  congr 2
  funext q
  by_cases hq : q = i.toNatClampNeg
  · subst hq
    simp [updV, upd]
    try rfl
  · simp [updV, upd, hq]
theorem ex_last {a N : Nat} {f : Nat → Int64} {i : Int32} {x : Int64} (hd : decode (eC M) pc = .ok (.lastore, 1)) (hh : h.2 a = some (.inl (eA G 1, N, .inr (.inl f)))) (hin : vp_in i N) (kk : Ex G l d M Q X k n (pc + 1) lv rest (hup h a (.inl (eA G 1, N, .inr (.inl (vp_updL f i.toNatClampNeg x)))))) : Ex G l d M Q X k n pc lv (.long x :: .int i :: .ref a :: rest) h := by
  intro p e s m args below meth c H locs ls cells slots mc ms C R S L e1 e2
  have hat : H[a]? = some (vp_cell (eA G 1) (N, .inr (.inl f))) := (R.2.2 a _ hh).1
  refine W.last C.1 C.2.1 hat ((C.2.2.2.2.2.2.2.2.1.2 1 _ rfl).1 N (fun j => .long (f j))) (fun q => by cases q) (by show ¬ (i < 0 ∨ (arrV _ _ _).slots.size ≤ _); rw [arrV_size]; exact hin) rfl rfl hd fun H1 ee z oq => ?_
  refine kk p e s m args below meth c H1 _ ls cells slots mc ms C (R.up hh ?_ z oq) (S.put z oq (R.2.2 a _ hh).2) L e1 e2
  show H1[a]? = some (vp_cell _ _)
  rw [ee]
  rw [vp_cell_l, vp_cell_l, arrV_store]
  congr 2
  funext q
  by_cases hq : q = i.toNatClampNeg
  · subst hq
    simp [updV, vp_updL]
    try rfl
  · simp [updV, vp_updL, hq]
theorem ex_cast {a N : Nat} {f : Nat → Int32} {i : Int32} {x : Int32} (hd : decode (eC M) pc = .ok (.castore, 1)) (hh : h.2 a = some (.inl (eA G 2, N, .inl f))) (hin : vp_in i N) (kk : Ex G l d M Q X k n (pc + 1) lv rest (hup h a (.inl (eA G 2, N, .inl (upd f i.toNatClampNeg (vp_nar .char x)))))) : Ex G l d M Q X k n pc lv (.int x :: .int i :: .ref a :: rest) h := by
  intro p e s m args below meth c H locs ls cells slots mc ms C R S L e1 e2
  have hat : H[a]? = some (vp_cell (eA G 2) (N, .inl f)) := (R.2.2 a _ hh).1
  refine W.cast C.1 C.2.1 hat ((C.2.2.2.2.2.2.2.2.1.2 2 _ rfl).1 N (fun j => .int (f j))) (fun q => by cases q) (by show ¬ (i < 0 ∨ (arrV _ _ _).slots.size ≤ _); rw [arrV_size]; exact hin) rfl rfl hd fun H1 ee z oq => ?_
  refine kk p e s m args below meth c H1 _ ls cells slots mc ms C (R.up hh ?_ z oq) (S.put z oq (R.2.2 a _ hh).2) L e1 e2
  show H1[a]? = some (vp_cell _ _)
  rw [ee]
  rw [vp_cell_i, vp_cell_i, arrV_store]
  congr 2
  funext q
  by_cases hq : q = i.toNatClampNeg
  · subst hq
    simp [updV, upd, vp_nar]
    try rfl
  · simp [updV, upd, hq]
theorem ex_zast {a N : Nat} {f : Nat → Int32} {i : Int32} {x : Int32} (hd : decode (eC M) pc = .ok (.bastore, 1)) (hh : h.2 a = some (.inl (eA G 3, N, .inl f))) (hin : vp_in i N) (kk : Ex G l d M Q X k n (pc + 1) lv rest (hup h a (.inl (eA G 3, N, .inl (upd f i.toNatClampNeg (vp_nar .boolean x)))))) : Ex G l d M Q X k n pc lv (.int x :: .int i :: .ref a :: rest) h := by
  intro p e s m args below meth c H locs ls cells slots mc ms C R S L e1 e2
  have hat : H[a]? = some (vp_cell (eA G 3) (N, .inl f)) := (R.2.2 a _ hh).1
  refine W.zast C.1 C.2.1 hat ((C.2.2.2.2.2.2.2.2.1.2 3 _ rfl).1 N (fun j => .int (f j))) (fun q => by cases q) (by show ¬ (i < 0 ∨ (arrV _ _ _).slots.size ≤ _); rw [arrV_size]; exact hin) rfl rfl hd fun H1 ee z oq => ?_
  refine kk p e s m args below meth c H1 _ ls cells slots mc ms C (R.up hh ?_ z oq) (S.put z oq (R.2.2 a _ hh).2) L e1 e2
  show H1[a]? = some (vp_cell _ _)
  rw [ee]
  rw [vp_cell_i, vp_cell_i, arrV_store]
  congr 2
  funext q
  by_cases hq : q = i.toNatClampNeg
  · subst hq
    simp [updV, upd, vp_nar]
    try rfl
  · simp [updV, upd, hq]
theorem ex_astq {a N v : Nat} {f : Nat → Option Nat} {i : Int32} {vs : List Value} (hd : decode (eC M) pc = .ok (.aastore, 1)) (hh : h.2 a = some (.inl (eA G 4, N, .inr (.inr (.inr (.inr f)))))) (hin : vp_in i N) (hv : h.2 v = some (.inr (5, vs))) (kk : Ex G l d M Q X k n (pc + 1) lv rest (hup h a (.inl (eA G 4, N, .inr (.inr (.inr (.inr (va_up f i.toNatClampNeg (some v))))))))) : Ex G l d M Q X k n pc lv (.ref v :: .int i :: .ref a :: rest) h := by
  intro p e s m args below meth c H locs ls cells slots mc ms C R S L e1 e2
  have hlt : i.toNatClampNeg < N := Nat.not_le.mp fun q => hin (Or.inr q)
  have h0 : ¬ i < 0 := fun q => hin (Or.inl q)
  have hat : H[a]? = some (vp_cell (eA G 4) (N, .inr (.inr (.inr (.inr f))))) := (R.2.2 a _ hh).1
  obtain ⟨⟨r', hr', cellV, g1, g2, g3, -⟩, -⟩ := R.2.2 v _ hv
  have hK := C.2.2.2.2.2.2.2.2.1
  have hcls := (hK.1 5 (RX9, TX9, 4) rfl).2
  obtain ⟨kA, comp, k1, k2, k3, -⟩ := (hK.2 4 (eA G 4, .object "PolicyDesk$Statement") rfl).2
  have hcomp : comp = (eD G).1 5 := Option.some.inj (k3.symm.trans hcls.1)
  subst hcomp
  obtain ⟨kC, hkC, -⟩ := hcls.2
  refine W.aast C.1 C.2.1 hat (fun q h => by cases h) (fun h => by cases h) k1 k2 rfl hkC ⟨h0, by show _ < (arrV _ _ _).slots.size; rw [arrV_size]; exact hlt⟩ g1 (fun q h => by rw [g3] at h; cases h) (by rw [g2]; exact hkC) (by rw [g2]; exact va_assign hcls) rfl rfl hd fun H1 ee z oq => ?_
  refine kk p e s m args below meth c H1 _ ls cells slots mc ms C (R.up hh ?_ z oq) (S.put z oq (R.2.2 a _ hh).2) L e1 e2
  show H1[a]? = some (vp_cell _ _)
  rw [ee]
  rw [vp_cell_q, vp_cell_q, arrV_store]
  congr 2
  funext q
  by_cases hq : q = i.toNatClampNeg
  · subst hq
    simp [updV, va_up, va_rf]
  · simp [updV, va_up, hq]
theorem ex_tlen {z : FieldType × Nat × Nat × (Nat → Value)} {v : Int32} (hd : decode (eC M) pc = .ok (.arraylength, 1)) (hz : eT G z) (hv : Int32.ofNat z.2.2.1 = v) (kk : Ex G l d M Q X k n (pc + 1) lv (.int v :: rest) h) : Ex G l d M Q X k n pc lv (.ref z.2.1 :: rest) h := by
  intro p e s m args below meth c H locs ls cells slots mc ms C R S L e1 e2
  exact va_tlen C.1 C.2.1 (C.2.2.2.2.2.2.2.2.2.1.2.2.2.1 z hz) S hv hd (kk p e s m args below meth c H locs ls cells slots mc ms C R S L e1 e2)
theorem ex_tald {t N : Nat} {f : Nat → Value} {i : Int32} (hd : decode (eC M) pc = .ok (.iaload, 1)) (hz : eT G (.int, t, N, f)) (hin : vp_in i N) (kk : Ex G l d M Q X k n (pc + 1) lv (f i.toNatClampNeg :: rest) h) : Ex G l d M Q X k n pc lv (.int i :: .ref t :: rest) h := by
  intro p e s m args below meth c H locs ls cells slots mc ms C R S L e1 e2
  obtain ⟨cell, c1, c2, c3, c4, c5, c6, c7⟩ := (C.2.2.2.2.2.2.2.2.2.1.2.2.2.1 _ hz).kept S.2.1
  have hlt : i.toNatClampNeg < N := Nat.not_le.mp fun q => hin (Or.inr q)
  exact W.iald C.1 C.2.1 c1 c2 c3 (fun q => q.elim (fun q => hin (Or.inl q)) (fun q => hin (Or.inr (Nat.le_trans c4 q)))) (c6 _ hlt) rfl rfl hd (kk p e s m args below meth c H locs ls cells slots mc ms C R S L e1 e2)
theorem ex_tbld {t N : Nat} {f : Nat → Value} {i : Int32} (hd : decode (eC M) pc = .ok (.baload, 1)) (hz : eT G (.byte, t, N, f)) (hin : vp_in i N) (kk : Ex G l d M Q X k n (pc + 1) lv (f i.toNatClampNeg :: rest) h) : Ex G l d M Q X k n pc lv (.int i :: .ref t :: rest) h := by
  intro p e s m args below meth c H locs ls cells slots mc ms C R S L e1 e2
  obtain ⟨cell, c1, c2, c3, c4, c5, c6, c7⟩ := (C.2.2.2.2.2.2.2.2.2.1.2.2.2.1 _ hz).kept S.2.1
  have hlt : i.toNatClampNeg < N := Nat.not_le.mp fun q => hin (Or.inr q)
  exact W.bald C.1 C.2.1 c1 c2 c3 (fun q => q.elim (fun q => hin (Or.inl q)) (fun q => hin (Or.inr (Nat.le_trans c4 q)))) (c6 _ hlt) rfl rfl hd (kk p e s m args below meth c H locs ls cells slots mc ms C R S L e1 e2)
theorem ex_tqld {t N : Nat} {E : String} {f : Nat → Value} {i : Int32} (hd : decode (eC M) pc = .ok (.aaload, 1)) (hz : eT G (.object E, t, N, f)) (hin : vp_in i N) (kk : Ex G l d M Q X k n (pc + 1) lv (f i.toNatClampNeg :: rest) h) : Ex G l d M Q X k n pc lv (.int i :: .ref t :: rest) h := by
  intro p e s m args below meth c H locs ls cells slots mc ms C R S L e1 e2
  exact vb_tq C.1 C.2.1 (C.2.2.2.2.2.2.2.2.2.1.2.2.2.1 _ hz) S hin rfl hd (kk p e s m args below meth c H locs ls cells slots mc ms C R S L e1 e2)
theorem ex_new {idx ci N : Nat} {fs : List Value} (hd : decode (eC M) pc = .ok (.new idx, 3)) (hc : ENW (eY M).cls idx ci N fs) (kk : Ex G l d M Q X k n (pc + 3) lv (.ref h.1 :: rest) (hnew h (.inr (ci, fs)))) : Ex G l d M Q X (k + 1) (n + N) pc lv rest h := by
  intro p e s m args below meth c H locs ls cells slots mc ms C R S L e1 e2
  obtain ⟨C9, T9, ty0, f1, f2, f3, f4, f5, f6, f7⟩ := hc
  have hK := C.2.2.2.2.2.2.2.2.1
  have hts := C.2.2.2.2.1
  have hKn := hK.1 ci _ f1
  refine W.newcK C.1 C.2.1 C.2.2.2.1 (hts _ f4) (hts _ f5) (hts _ f6) rfl hd (by show cells + 1 ≤ mc; omega) (by show slots + N ≤ ms; omega) hKn.2.1 rfl fun H1 kC hkC w1 z1 o1 => ?_
  rw [R.1]
  refine kk p e s m args below meth c H1 locs ls (cells + 1) (slots + N) mc ms C (R.born ?_ z1 o1) (eS_new S z1 o1) L (by omega) (by omega)
  exact ⟨_, f1, (u_born ty0 hts f2 hKn hkC w1 f3).to f7⟩
theorem ex_newa_int {z : Int32} {N : Nat} (hd : decode (eC M) pc = .ok (.newarray .int, 2)) (hw : Cond.arrayClass .int ∈ egood) (h0 : ¬ z < 0) (hN : z.toNatClampNeg = N) (hb : N ≤ 60000000) (kk : Ex G l d M Q X k n (pc + 2) lv (.ref h.1 :: rest) (hnew h (.inl (eA G 0, N, .inl (fun _ => 0))))) : Ex G l d M Q X (k + 1) (n + N) pc lv (.int z :: rest) h := by
  intro p e s m args below meth c H locs ls cells slots mc ms C R S L e1 e2
  have hK := C.2.2.2.2.2.2.2.2.1
  refine va_newaK C.1 C.2.1 (atype := .int) (C.2.2.2.2.1 _ hw) rfl hd rfl h0 hN (by show N * 4 ≤ 536870912; omega) (by show cells + 1 ≤ mc; omega) (by show slots + N ≤ ms; omega) R.1 fun H1 cA w1 z1 o1 hAr hNm => ?_
  have hcA : cA = eA G 0 := Option.some.inj (hNm.symm.trans ((hK.2 0 (eA G 0, .int) rfl).2))
  subst hcA
  refine kk p e s m args below meth c H1 locs ls (cells + 1) (slots + N) mc ms C (R.born ?_ (by rw [z1, R.1]) (fun q hq => o1 q (by rw [← R.1]; exact hq))) (eS_new S (by rw [z1, R.1]) (fun q hq => o1 q (by rw [← R.1]; exact hq))) L (by omega) (by omega)
  show H1[H.size]? = some (vp_cell _ _)
  rw [R.1, w1]
  rfl
theorem ex_newa_long {z : Int32} {N : Nat} (hd : decode (eC M) pc = .ok (.newarray .long, 2)) (hw : Cond.arrayClass .long ∈ egood) (h0 : ¬ z < 0) (hN : z.toNatClampNeg = N) (hb : N ≤ 60000000) (kk : Ex G l d M Q X k n (pc + 2) lv (.ref h.1 :: rest) (hnew h (.inl (eA G 1, N, .inr (.inl (fun _ => 0)))))) : Ex G l d M Q X (k + 1) (n + N) pc lv (.int z :: rest) h := by
  intro p e s m args below meth c H locs ls cells slots mc ms C R S L e1 e2
  have hK := C.2.2.2.2.2.2.2.2.1
  refine va_newaK C.1 C.2.1 (atype := .long) (C.2.2.2.2.1 _ hw) rfl hd rfl h0 hN (by show N * 8 ≤ 536870912; omega) (by show cells + 1 ≤ mc; omega) (by show slots + N ≤ ms; omega) R.1 fun H1 cA w1 z1 o1 hAr hNm => ?_
  have hcA : cA = eA G 1 := Option.some.inj (hNm.symm.trans ((hK.2 1 (eA G 1, .long) rfl).2))
  subst hcA
  refine kk p e s m args below meth c H1 locs ls (cells + 1) (slots + N) mc ms C (R.born ?_ (by rw [z1, R.1]) (fun q hq => o1 q (by rw [← R.1]; exact hq))) (eS_new S (by rw [z1, R.1]) (fun q hq => o1 q (by rw [← R.1]; exact hq))) L (by omega) (by omega)
  show H1[H.size]? = some (vp_cell _ _)
  rw [R.1, w1]
  rfl
theorem ex_newa_char {z : Int32} {N : Nat} (hd : decode (eC M) pc = .ok (.newarray .char, 2)) (hw : Cond.arrayClass .char ∈ egood) (h0 : ¬ z < 0) (hN : z.toNatClampNeg = N) (hb : N ≤ 60000000) (kk : Ex G l d M Q X k n (pc + 2) lv (.ref h.1 :: rest) (hnew h (.inl (eA G 2, N, .inl (fun _ => 0))))) : Ex G l d M Q X (k + 1) (n + N) pc lv (.int z :: rest) h := by
  intro p e s m args below meth c H locs ls cells slots mc ms C R S L e1 e2
  have hK := C.2.2.2.2.2.2.2.2.1
  refine va_newaK C.1 C.2.1 (atype := .char) (C.2.2.2.2.1 _ hw) rfl hd rfl h0 hN (by show N * 2 ≤ 536870912; omega) (by show cells + 1 ≤ mc; omega) (by show slots + N ≤ ms; omega) R.1 fun H1 cA w1 z1 o1 hAr hNm => ?_
  have hcA : cA = eA G 2 := Option.some.inj (hNm.symm.trans ((hK.2 2 (eA G 2, .char) rfl).2))
  subst hcA
  refine kk p e s m args below meth c H1 locs ls (cells + 1) (slots + N) mc ms C (R.born ?_ (by rw [z1, R.1]) (fun q hq => o1 q (by rw [← R.1]; exact hq))) (eS_new S (by rw [z1, R.1]) (fun q hq => o1 q (by rw [← R.1]; exact hq))) L (by omega) (by omega)
  show H1[H.size]? = some (vp_cell _ _)
  rw [R.1, w1]
  rfl
theorem ex_newa_bool {z : Int32} {N : Nat} (hd : decode (eC M) pc = .ok (.newarray .boolean, 2)) (hw : Cond.arrayClass .boolean ∈ egood) (h0 : ¬ z < 0) (hN : z.toNatClampNeg = N) (hb : N ≤ 60000000) (kk : Ex G l d M Q X k n (pc + 2) lv (.ref h.1 :: rest) (hnew h (.inl (eA G 3, N, .inl (fun _ => 0))))) : Ex G l d M Q X (k + 1) (n + N) pc lv (.int z :: rest) h := by
  intro p e s m args below meth c H locs ls cells slots mc ms C R S L e1 e2
  have hK := C.2.2.2.2.2.2.2.2.1
  refine va_newaK C.1 C.2.1 (atype := .boolean) (C.2.2.2.2.1 _ hw) rfl hd rfl h0 hN (by show N * 1 ≤ 536870912; omega) (by show cells + 1 ≤ mc; omega) (by show slots + N ≤ ms; omega) R.1 fun H1 cA w1 z1 o1 hAr hNm => ?_
  have hcA : cA = eA G 3 := Option.some.inj (hNm.symm.trans ((hK.2 3 (eA G 3, .boolean) rfl).2))
  subst hcA
  refine kk p e s m args below meth c H1 locs ls (cells + 1) (slots + N) mc ms C (R.born ?_ (by rw [z1, R.1]) (fun q hq => o1 q (by rw [← R.1]; exact hq))) (eS_new S (by rw [z1, R.1]) (fun q hq => o1 q (by rw [← R.1]; exact hq))) L (by omega) (by omega)
  show H1[H.size]? = some (vp_cell _ _)
  rw [R.1, w1]
  rfl
theorem ex_newq {z : Int32} {N idx : Nat} (hd : decode (eC M) pc = .ok (.anewarray idx, 3)) (hw : Cond.classLink (eY M).cls idx "PolicyDesk$Statement" ∈ egood) (h0 : ¬ z < 0) (hN : z.toNatClampNeg = N) (hb : N ≤ 60000000) (kk : Ex G l d M Q X k n (pc + 3) lv (.ref h.1 :: rest) (hnew h (.inl (eA G 4, N, .inr (.inr (.inr (.inr (fun _ => none)))))))) : Ex G l d M Q X (k + 1) (n + N) pc lv (.int z :: rest) h := by
  intro p e s m args below meth c H locs ls cells slots mc ms C R S L e1 e2
  have hK := C.2.2.2.2.2.2.2.2.1
  subst hN
  refine W.anew C.1 C.2.1 C.2.2.2.1 (C.2.2.2.2.1 _ hw) (va_AO.use (C := "PolicyDesk$Statement") C.2.2.2.2.2.2.2.2.2.2.2.1) rfl hd rfl h0 (by omega) (by show cells + 1 ≤ mc; omega) (by show slots + _ ≤ ms; omega) fun cA kA comp f1 f2 f3 f4 => ?_
  obtain ⟨kA', comp', g1, g2, g3, g4⟩ := (hK.2 4 (eA G 4, .object "PolicyDesk$Statement") rfl).2
  have hcA : cA = eA G 4 := Option.some.inj (f1.symm.trans g4)
  subst hcA
  generalize hH1 : H.push ({ cls := eA G 4, slots := Array.replicate z.toNatClampNeg .null, vm := .none } : Cell) = H1
  have z1 : H1.size = H.size + 1 := by rw [← hH1, Array.size_push]
  have w1 : H1[H.size]? = some (arrV (eA G 4) z.toNatClampNeg (fun _ => .null)) := by rw [← hH1, Array.getElem?_push_size, ← arrV_new]
  have o1 : ∀ q : Nat, q < H.size → H1[q]? = H[q]? := fun q hq => by rw [← hH1, Array.getElem?_push, if_neg (Nat.ne_of_lt hq)]
  rw [R.1]
  refine kk p e s m args below meth c H1 locs ls (cells + 1) (slots + z.toNatClampNeg) mc ms C (R.born ?_ z1 o1) (eS_new S z1 o1) L (by omega) (by omega)
  show H1[H.size]? = some (vp_cell _ _)
  rw [w1]
  rfl
theorem ex_iret {v : Int32} (hd : decode (eC M) pc = .ok (.ireturn, 1)) (hr : eR M = some .int) (hq : Q (some (.int v)) h) : Ex G l d M Q X k n pc lv [.int v] h := by
  intro p e s m args below meth c H locs ls cells slots mc ms C R S L e1 e2
  refine W.widen (k := mc) (n := ms) (by omega) (by omega) (vx_ret ?_)
  exact W.iret C.1 C.2.1 (C.2.2.2.2.2.1.trans hr) (fun t ht hW => ⟨_, h, rfl, hq, by rw [ht]; exact R, S.F ht⟩) S.2.2 hd (hlocks := C.2.2.2.2.2.2.1)
theorem ex_zret {v : Int32} {ty : FieldType} (hd : decode (eC M) pc = .ok (.ireturn, 1)) (hr : eR M = some ty) (hn : narrow ty (.int v) = .int v) (hq : Q (some (.int v)) h) : Ex G l d M Q X k n pc lv [.int v] h := by
  intro p e s m args below meth c H locs ls cells slots mc ms C R S L e1 e2
  refine W.widen (k := mc) (n := ms) (by omega) (by omega) (vx_ret ?_)
  exact W.zret C.1 C.2.1 (C.2.2.2.2.2.1.trans hr) hn (fun t ht hW => ⟨_, h, rfl, hq, by rw [ht]; exact R, S.F ht⟩) S.2.2 hd (hlocks := C.2.2.2.2.2.2.1)
theorem ex_vret (hd : decode (eC M) pc = .ok (.return_, 1)) (hr : eR M = none) (hq : Q none h) : Ex G l d M Q X k n pc lv [] h := by
  intro p e s m args below meth c H locs ls cells slots mc ms C R S L e1 e2
  refine W.widen (k := mc) (n := ms) (by omega) (by omega) (vx_ret ?_)
  exact W.vret C.1 C.2.1 (C.2.2.2.2.2.1.trans hr) (fun t ht hW => ⟨_, h, rfl, hq, by rw [ht]; exact R, S.F ht⟩) S.2.2 hd (hlocks := C.2.2.2.2.2.2.1)
theorem ex_aret {a : Nat} {E : String} (hd : decode (eC M) pc = .ok (.areturn, 1)) (hr : eR M = some (.object E)) (hq : Q (some (.ref a)) h) : Ex G l d M Q X k n pc lv [.ref a] h := by
  intro p e s m args below meth c H locs ls cells slots mc ms C R S L e1 e2
  refine W.widen (k := mc) (n := ms) (by omega) (by omega) (vx_ret ?_)
  exact W.aret C.1 C.2.1 (C.2.2.2.2.2.1.trans hr) (Or.inl ⟨_, rfl⟩) (Or.inr ⟨_, rfl⟩) (fun t ht hW => ⟨_, h, rfl, hq, by rw [ht]; exact R, S.F ht⟩) S.2.2 hd (hlocks := C.2.2.2.2.2.2.1)
end EXH
end
section
/-! THE LOGIC, 3: entry, calls -/
theorem eW.go {G : EG} {s U : State} {H : Heap} {locs : List Loc} (w : eW G s) (S : va_S (eF G) s.heap H locs) (hU : U.heap = H) (hW : s.WarmedH U.vm) : eW G U :=
  ⟨va_K.moved hW.alike w.1, eStat.moved hW.alike (by rw [hU]; exact w.2.1.kept S.2.1), fun i hi => vk_R.warm hW (w.2.2.1 i hi), va_AO.moved (C := "PolicyDesk$Statement") hW.alike w.2.2.2.1, by rw [hU]; exact Nat.le_trans w.2.2.2.2.1 S.1, eNst.warm hW w.2.2.2.2.2⟩
theorem eW.calling {G : EG} {U : State} (w : eW G U) (g : JFrame) (mk : MethodId) (a : Array Value) : eW G (U.calling g mk a) :=
  ⟨va_K.moved (u := U) (U := U.calling g mk a) (Vm.Alike.refl U.vm) w.1, eStat.moved (u := U) (U := U.calling g mk a) (Vm.Alike.refl U.vm) w.2.1, fun i hi => vk_R.same (u := U) (U := U.calling g mk a) rfl (w.2.2.1 i hi), va_AO.moved (C := "PolicyDesk$Statement") (u := U) (U := U.calling g mk a) (Vm.Alike.refl U.vm) w.2.2.2.1, w.2.2.2.2.1, eNst.same (s := U) (U := U.calling g mk a) rfl w.2.2.2.2.2⟩
theorem e_blind {G : EG} {As : List Value} {h : EH} : FrameBlind (va_Pc As (fun U => eRel G h U.heap ∧ eW G U)) := fun a U g mk q => ⟨q.1, q.2.1, q.2.2.calling g mk a⟩
theorem e_pre {G : EG} {As : List Value} {h : EH} {s : State} {H : Heap} {locs : List Loc} (w : eW G s) (S : va_S (eF G) s.heap H locs) (R : eRel G h H) : PreS s H (va_Pc As (fun U => eRel G h U.heap ∧ eW G U)) As := ⟨e_blind, fun U hU hW => ⟨rfl, by rw [hU]; exact R, w.go S hU hW⟩⟩
theorem es_of {G : EG} {l : Launch} {d : Nat} {M : EM} {As : List Value} {h : EH} {mc ms : Nat} {Q : Option Value → EH → Prop} {X : String → EH → Prop} (hy : plainName (eY M).cls = true) (hT : eTb M = []) (ha : (lg_sl As).length ≤ eL M) (body : Ex G l d M Q X mc ms 0 (lv_args 0 As) [] h) : ES G l d M As h mc ms Q X := by
  have hw : ews M = Cond.code (eY M) (eC M) (eL M) (eR M) :: egood := by unfold ews; rw [hT]
  unfold ES
  rw [hw]
  refine vx_ofW (cc := eC M) (maxL := eL M) (ret := eR M) hy rfl ?_
  intro p e s m args below meth c s₁ B hml htab hv
  obtain ⟨rfl, hR, hW⟩ := hv
  have hts := atoms_spec (ws := Cond.code (eY M) (eC M) (eL M) (eR M) :: egood) B.pre
  have htb : c.exceptionTable.toList = tableOf (eTb M) := by
    rw [hT]
    cases hq : c.exceptionTable.toList with
    | nil => rfl
    | cons a t => exact (htab a (by rw [hq]; exact List.mem_cons_self)).elim
  have C : eCtx G M p s m As.toArray meth c := ⟨B.exec, B.bytes, hml, findClass_of_methodNamed B.named, fun w hw => hts w (List.mem_cons_of_mem _ hw), B.returns, B.notSynchronized, ⟨(name_of_methodNamed B.named B.method).1, htb⟩, hW⟩
  rw [lg_entry_eq]
  exact body p e s m _ below meth c s.heap [] _ 0 0 mc ms C hR va_S.rf (lv_entry As ha) (Nat.zero_add _) (Nat.zero_add _)
theorem es_met {G : EG} {l : Launch} {d : Nat} {M : EM} {As : List Value} {h : EH} {mc ms : Nat} {Q : Option Value → EH → Prop} (hT : eTb M = []) (hS : ES G l d M As h mc ms Q eNoX) : Met l (eY M) (Cond.code (eY M) (eC M) (eL M) (eR M) :: egood) (erm d mc ms) (va_Pc As (fun U => eRel G h U.heap ∧ eW G U)) (eQ G Q) mc ms (eF G) := by
  have hw : ews M = Cond.code (eY M) (eC M) (eL M) (eR M) :: egood := by unfold ews; rw [hT]
  unfold ES at hS
  rw [hw] at hS
  intro p e ha hc hk s m args below hf happ hP hK
  obtain ⟨n, o, h1, h2, h3, h4⟩ := hS p e ha hc hk s m args below hf happ hP hK
  refine ⟨n, o, h1, h2, h3, ?_⟩
  rcases h4 with h4 | ⟨q, -, E, ce, L, ⟨h', hx, -⟩, -⟩
  · exact h4
  · exact hx.elim
theorem es_mono {G : EG} {l : Launch} {d : Nat} {M : EM} {As : List Value} {h : EH} {mc ms : Nat} {Q Q' : Option Value → EH → Prop} {X X' : String → EH → Prop} (hq : ∀ v h, Q v h → Q' v h) (hx : ∀ E h, X E h → X' E h) (hS : ES G l d M As h mc ms Q X) : ES G l d M As h mc ms Q' X' := by
  intro p e ha hc hk s m args below hf happ hP hK
  obtain ⟨n, o, h1, h2, h3, h4⟩ := hS p e ha hc hk s m args below hf happ hP hK
  refine ⟨n, o, h1, h2, h3, ?_⟩
  rcases h4 with ⟨⟨v, h', x1, x2, x3⟩, x4⟩ | ⟨q, x1, E, ce, L2, ⟨h', y1, y2⟩, x3⟩
  · exact Or.inl ⟨⟨v, h', x1, hq _ _ x2, x3⟩, x4⟩
  · exact Or.inr ⟨q, x1, E, ce, L2, ⟨h', hx _ _ y1, y2⟩, x3⟩
/-- what a callee is asked, apart from its link -/
def ECA (N : EM) (np : Nat) : Prop := Cond.initialized (eY N).cls ∈ egood ∧ Cond.code (eY N) (eC N) (eL N) (eR N) ∈ egood ∧ ((eY N).cls ≠ "java/lang/invoke/MethodHandle" ∧ (eY N).cls ≠ "java/lang/invoke/VarHandle" ∧ (parseMethodDescriptor (eY N).desc).map (fun d => d.parameters.length) = some np) ∧ eL N ≤ 19 ∧ eTb N = []
theorem ECA.good {N : EM} {np : Nat} (h : ECA N np) : GoodIn egood (Cond.code (eY N) (eC N) (eL N) (eR N) :: egood) := fun w hw => by
  rcases List.mem_cons.mp hw with e | e
  · rw [e]; exact egood_all _ h.2.1
  · exact egood_all _ e
def ECS (own : String) (idx : Nat) (N : EM) (np : Nat) : Prop := Cond.methodLink own idx (eY N) ∈ egood ∧ Cond.static (eY N) ∈ egood ∧ ECA N np
def ECV (own : String) (idx : Nat) (N : EM) (np : Nat) : Prop := Cond.methodLink own idx (eY N) ∈ egood ∧ Cond.instanceMethod (eY N) ∈ egood ∧ Cond.selects (eY N).cls (eY N) (eY N) ∈ egood ∧ ECA N np
def ECI (own : String) (idx : Nat) (N : EM) (np : Nat) : Prop := Cond.methodLink own idx (eY N) ∈ egood ∧ Cond.instanceMethod (eY N) ∈ egood ∧ (eY N).name = "<init>" ∧ eR N = none ∧ ECA N np
def ECSN (own : String) (idx : Nat) (N : EM) (np : Nat) : Prop := (∃ host : String, Cond.methodLinkNest own idx (eY N) host ∈ lw_tbl) ∧ Cond.static (eY N) ∈ egood ∧ ECA N np
def ECIN (own : String) (idx : Nat) (N : EM) (np : Nat) : Prop := (∃ host : String, Cond.methodLinkNest own idx (eY N) host ∈ lw_tbl) ∧ Cond.instanceMethod (eY N) ∈ egood ∧ (eY N).name = "<init>" ∧ eR N = none ∧ ECA N np
/-- an object on which a method of class C is called -/
def ERc (G : EG) (h : EH) (b : Nat) (C : String) : Prop := (∃ (ci : Nat) (fs : List Value) (T : u_T) (N : Nat), h.2 b = some (.inr (ci, fs)) ∧ vwCl[ci]? = some (C, T, N)) ∨ (C, b) ∈ eO G
theorem ERc.cell {G : EG} {h : EH} {b : Nat} {C : String} {s : State} {H : Heap} {locs : List Loc} (r : ERc G h b C) (R : eRel G h H) (w : eW G s) (S : va_S (eF G) s.heap H locs) : ∃ cell : Cell, H[b]? = some cell ∧ cell.vm.isStatics = false ∧ s.vm.findClass C = some cell.cls := by
  rcases r with ⟨ci, fs, T, N, h1, h2⟩ | h1
  · exact va_recv w.1 (R.one h1) h2 (q0 := 0) rfl
  · obtain ⟨cell, c1, c2, c3, -⟩ := (w.2.1.2.1 _ h1).kept S.2.1
    exact ⟨cell, c1, c2, c3⟩
section EXC
variable {G : EG} {l : Launch} {d : Nat} {M : EM} {Q : Option Value → EH → Prop} {X : String → EH → Prop} {k n pc : Nat} {lv : List (Nat × Value)} {rest st : List Value} {h : EH}
theorem e_go {p : Program} {e : Env} {R0 : Room} {s : State} {m : MethodId} {args : Array Value} {below : List Frame} {meth : Method} {c : Code} {H : Heap} {locs : List Loc} {cells slots mc' ms' : Nat} {Z : State → Prop} {ls : Array Slot} {a : Array Value} {Q' : Option Value → EH → Prop} (hr : va_Run p l e R0 s m args below meth c H locs cells slots mc' ms' (F0 m pc ls st) rest (eQ G Q' a) (eF G)) (S : va_S (eF G) s.heap H locs)
    (kk : ∀ (v : Option Value) (h' : EH) (H1 : Heap) (locs1 : List Loc), Q' v h' → eRel G h' H1 → va_S (eF G) s.heap H1 locs1 → W p l e R0 s m args below meth c H1 locs1 (cells + mc') (slots + ms') Z (F0 m (pc + 3) ls (v.toList ++ rest))) : W p l e R0 s m args below meth c H locs cells slots Z (F0 m pc ls st) := by
  intro T hT Y
  obtain ⟨v, st₀, t, T', L, h0, X', hL, e1, e2, ⟨v2, h', hv, hq, hR, hz, hk⟩, go⟩ := hr T hT Y
  cases hv
  rw [h0] at hz hk
  obtain ⟨t2, a1, b1⟩ := kk v h' T'.heap (locs ++ L) hq (by rw [e1]; exact hR)
    ⟨Nat.le_trans S.1 (by rw [e1]; exact hz), fun q h1 h2 => by rw [e1, hk q (Nat.lt_of_lt_of_le h1 S.1) h2]; exact S.2.1 q h1 h2, fun q hq => by
      rcases List.mem_append.mp hq with h | h
      · exact S.2.2 q h
      · exact hL q h⟩ T' rfl X'
  exact ⟨t2, go t2 a1, b1⟩
theorem ex_invs {idx d' mc' ms' : Nat} {N : EM} {As : List Value} {Q' : Option Value → EH → Prop} (hd : decode (eC M) pc = .ok (.invokestatic idx, 3)) (hN : ECS (eY M).cls idx N As.length) (hdd : d' + 1 ≤ d) (hrs : (rest.map fun v => v.category).sum ≤ 8) (hS : ES G l d' N As h mc' ms' Q' eNoX) (kk : ∀ (v : Option Value) (h' : EH), Q' v h' → Ex G l d M Q X k n (pc + 3) lv (v.toList ++ rest) h') : Ex G l d M Q X (k + mc') (n + ms') pc lv (As.reverse ++ rest) h := by
  intro p e s m args below meth c H locs ls cells slots mc ms C R S L e1 e2
  obtain ⟨n1, n2, hN_⟩ := hN
  have hts := C.2.2.2.2.1
  exact e_go (va_runS (As := As) (rest := rest) ⟨C.1, C.2.1, C.2.2.1, C.2.2.2.1, C.2.2.2.2.1⟩ (es_met hN_.2.2.2.2 hS) ⟨callB_of As.length hts hN_.good rfl rfl rfl (hts _ hN_.1) (hts _ n1) hN_.2.2.1 ⟨hdd, by show 8 + (eL N + 11) + 38 * d' ≤ 38 * d; have := hN_.2.2.2.1; omega⟩, hts _ n2⟩ (e_pre C.2.2.2.2.2.2.2.2 S R) rfl rfl L.1 rfl (lv_room hrs) hd ⟨by show cells + mc' ≤ mc; omega, by show slots + ms' ≤ ms; omega⟩) S (fun v h' H1 locs1 hq hR hS1 => kk v h' hq p e s m args below meth c H1 locs1 ls (cells + mc') (slots + ms') mc ms C hR hS1 L (by omega) (by omega))
theorem ex_invsN {idx d' mc' ms' : Nat} {N : EM} {As : List Value} {Q' : Option Value → EH → Prop} (hd : decode (eC M) pc = .ok (.invokestatic idx, 3)) (hN : ECSN (eY M).cls idx N As.length) (hdd : d' + 1 ≤ d) (hrs : (rest.map fun v => v.category).sum ≤ 8) (hS : ES G l d' N As h mc' ms' Q' eNoX) (kk : ∀ (v : Option Value) (h' : EH), Q' v h' → Ex G l d M Q X k n (pc + 3) lv (v.toList ++ rest) h') : Ex G l d M Q X (k + mc') (n + ms') pc lv (As.reverse ++ rest) h := by
  intro p e s m args below meth c H locs ls cells slots mc ms C R S L e1 e2
  obtain ⟨⟨host, n1⟩, n2, hN_⟩ := hN
  have hts := C.2.2.2.2.1
  exact e_go (va_runSN (As := As) (rest := rest) ⟨C.1, C.2.1, C.2.2.1, C.2.2.2.1, C.2.2.2.2.1⟩ (es_met hN_.2.2.2.2 hS) ⟨va_cnB As.length hts hN_.good rfl rfl rfl (C.2.2.2.2.2.2.2.2.2.2.2.2.2.1 _ _ _ _ n1) (hts _ hN_.1) hN_.2.2.1 ⟨hdd, by show 8 + (eL N + 11) + 38 * d' ≤ 38 * d; have := hN_.2.2.2.1; omega⟩, hts _ n2, trivial⟩ (e_pre C.2.2.2.2.2.2.2.2 S R) rfl rfl L.1 rfl (lv_room hrs) hd ⟨by show cells + mc' ≤ mc; omega, by show slots + ms' ≤ ms; omega⟩) S (fun v h' H1 locs1 hq hR hS1 => kk v h' hq p e s m args below meth c H1 locs1 ls (cells + mc') (slots + ms') mc ms C hR hS1 L (by omega) (by omega))
theorem ex_invv {idx d' mc' ms' : Nat} {N : EM} {As : List Value} {Q' : Option Value → EH → Prop} {b : Nat} (hd : decode (eC M) pc = .ok (.invokevirtual idx, 3)) (hN : ECV (eY M).cls idx N As.length) (hdd : d' + 1 ≤ d) (hrs : (rest.map fun v => v.category).sum ≤ 8) (hb : ERc G h b (eY N).cls) (hS : ES G l d' N (.ref b :: As) h mc' ms' Q' eNoX) (kk : ∀ (v : Option Value) (h' : EH), Q' v h' → Ex G l d M Q X k n (pc + 3) lv (v.toList ++ rest) h') : Ex G l d M Q X (k + mc') (n + ms') pc lv (As.reverse ++ .ref b :: rest) h := by
  intro p e s m args below meth c H locs ls cells slots mc ms C R S L e1 e2
  obtain ⟨n1, n2, n3, hN_⟩ := hN
  have hts := C.2.2.2.2.1
  exact e_go (va_runV (As := As) (rest := rest) ⟨C.1, C.2.1, C.2.2.1, C.2.2.2.1, C.2.2.2.2.1⟩ (es_met hN_.2.2.2.2 hS) ⟨callB_of As.length hts hN_.good rfl rfl rfl (hts _ hN_.1) (hts _ n1) hN_.2.2.1 ⟨hdd, by show 8 + (eL N + 11) + 38 * d' ≤ 38 * d; have := hN_.2.2.2.1; omega⟩, hts _ n2, hts _ n3⟩ ⟨e_blind, hb.cell R C.2.2.2.2.2.2.2.2 S, (e_pre C.2.2.2.2.2.2.2.2 S R).2⟩ rfl rfl L.1 rfl (lv_room hrs) hd ⟨by show cells + mc' ≤ mc; omega, by show slots + ms' ≤ ms; omega⟩) S (fun v h' H1 locs1 hq hR hS1 => kk v h' hq p e s m args below meth c H1 locs1 ls (cells + mc') (slots + ms') mc ms C hR hS1 L (by omega) (by omega))
theorem ex_invi {idx d' mc' ms' : Nat} {N : EM} {As : List Value} {Q' : Option Value → EH → Prop} {b : Nat} (hd : decode (eC M) pc = .ok (.invokespecial idx, 3)) (hN : ECI (eY M).cls idx N As.length) (hdd : d' + 1 ≤ d) (hrs : (rest.map fun v => v.category).sum ≤ 8) (hS : ES G l d' N (.ref b :: As) h mc' ms' Q' eNoX) (kk : ∀ (v : Option Value) (h' : EH), Q' v h' → Ex G l d M Q X k n (pc + 3) lv (v.toList ++ rest) h') : Ex G l d M Q X (k + mc') (n + ms') pc lv (As.reverse ++ .ref b :: rest) h := by
  intro p e s m args below meth c H locs ls cells slots mc ms C R S L e1 e2
  obtain ⟨n1, n2, n3, n4, hN_⟩ := hN
  have hts := C.2.2.2.2.1
  have hm := es_met hN_.2.2.2.2 hS
  have hg := hN_.good
  rw [n4] at hm hg
  exact e_go (va_runI (As := As) (rest := rest) ⟨C.1, C.2.1, C.2.2.1, C.2.2.2.1, C.2.2.2.2.1⟩ hm ⟨callB_of As.length hts hg rfl rfl rfl (hts _ hN_.1) (hts _ n1) hN_.2.2.1 ⟨hdd, by show 8 + (eL N + 11) + 38 * d' ≤ 38 * d; have := hN_.2.2.2.1; omega⟩, n3, hts _ n2⟩ (e_pre C.2.2.2.2.2.2.2.2 S R) rfl rfl L.1 rfl (lv_room hrs) hd ⟨by show cells + mc' ≤ mc; omega, by show slots + ms' ≤ ms; omega⟩) S (fun v h' H1 locs1 hq hR hS1 => kk v h' hq p e s m args below meth c H1 locs1 ls (cells + mc') (slots + ms') mc ms C hR hS1 L (by omega) (by omega))
theorem ex_inviN {idx d' mc' ms' : Nat} {N : EM} {As : List Value} {Q' : Option Value → EH → Prop} {b : Nat} (hd : decode (eC M) pc = .ok (.invokespecial idx, 3)) (hN : ECIN (eY M).cls idx N As.length) (hdd : d' + 1 ≤ d) (hrs : (rest.map fun v => v.category).sum ≤ 8) (hS : ES G l d' N (.ref b :: As) h mc' ms' Q' eNoX) (kk : ∀ (v : Option Value) (h' : EH), Q' v h' → Ex G l d M Q X k n (pc + 3) lv (v.toList ++ rest) h') : Ex G l d M Q X (k + mc') (n + ms') pc lv (As.reverse ++ .ref b :: rest) h := by
  intro p e s m args below meth c H locs ls cells slots mc ms C R S L e1 e2
  obtain ⟨⟨host, n1⟩, n2, n3, n4, hN_⟩ := hN
  have hts := C.2.2.2.2.1
  have hm := es_met hN_.2.2.2.2 hS
  have hg := hN_.good
  rw [n4] at hm hg
  exact e_go (va_runIN (As := As) (rest := rest) ⟨C.1, C.2.1, C.2.2.1, C.2.2.2.1, C.2.2.2.2.1⟩ hm ⟨va_cnB As.length hts hg rfl rfl rfl (C.2.2.2.2.2.2.2.2.2.2.2.2.2.1 _ _ _ _ n1) (hts _ hN_.1) hN_.2.2.1 ⟨hdd, by show 8 + (eL N + 11) + 38 * d' ≤ 38 * d; have := hN_.2.2.2.1; omega⟩, n3, hts _ n2⟩ (e_pre C.2.2.2.2.2.2.2.2 S R) rfl rfl L.1 rfl (lv_room hrs) hd ⟨by show cells + mc' ≤ mc; omega, by show slots + ms' ≤ ms; omega⟩) S (fun v h' H1 locs1 hq hR hS1 => kk v h' hq p e s m args below meth c H1 locs1 ls (cells + mc') (slots + ms') mc ms C hR hS1 L (by omega) (by omega))
/-- Object's constructor -/
theorem ex_obj {idx a : Nat} (hd : decode (eC M) pc = .ok (.invokespecial idx, 3)) (hl : Cond.methodLink (eY M).cls idx objectInit ∈ egood) (hi : Cond.instanceMethod objectInit ∈ egood) (hc : Cond.code objectInit ⟨#[0xb1]⟩ 1 none ∈ egood) (hdd : 1 ≤ d) (hrs : (rest.map fun v => v.category).sum ≤ 8) (kk : Ex G l d M Q X k n (pc + 3) lv rest h) : Ex G l d M Q X k n pc lv (.ref a :: rest) h := by
  intro p e s m args below meth c H locs ls cells slots mc ms C R S L e1 e2
  have hts := C.2.2.2.2.1
  exact W.objInit C.1 C.2.1 C.2.2.2.1 (hts _ hl) (hts _ hi) (hts _ hc) rfl (by rw [C.2.2.1]; exact L.1) rfl hd hdd (by have h9 := lv_room (m := m) (pc := pc) (ls := ls) (rest := .ref a :: rest) hrs; show _ + 12 ≤ 38 * d; omega) (kk p e s m args below meth c H locs ls cells slots mc ms C R S L e1 e2)
/-- a method that a class has from another (an enum constant's ordinal) -/
theorem ex_invU {idx d' b : Nat} {N : EM} {Q' : Option Value → EH → Prop} {x : MethodName} (hd : decode (eC M) pc = .ok (.invokevirtual idx, 3)) (hl : Cond.methodLink (eY M).cls idx x ∈ egood) (hsm : Cond.sameMethod x.cls (eY N).cls x.name x.desc ∈ egood) (hsel : Cond.selects x.cls x (eY N) ∈ egood) (hin : Cond.instanceMethod (eY N) ∈ egood) (hyx : eY N = ⟨(eY N).cls, x.name, x.desc⟩) (hN_ : ECA N 0) (hdd : d' + 1 ≤ d) (hrs : (rest.map fun v => v.category).sum ≤ 8) (hb : ERc G h b x.cls) (hS : ES G l d' N [.ref b] h 0 0 Q' eNoX) (kk : ∀ (v : Option Value) (h' : EH), Q' v h' → Ex G l d M Q X k n (pc + 3) lv (v.toList ++ rest) h') : Ex G l d M Q X k n pc lv (.ref b :: rest) h := by
  intro p e s m args below meth c H locs ls cells slots mc ms C R S L e1 e2
  have hts := C.2.2.2.2.1
  have hdesc : x.desc = (eY N).desc := by rw [hyx]
  have hT : GoodIn egood (va_wsU (eY M).cls idx x.cls (eY N).cls x (eY N) (Cond.code (eY N) (eC N) (eL N) (eR N) :: egood)) := by
    intro w hw
    unfold va_wsU at hw
    rcases List.mem_append.mp hw with hw | hw
    · refine egood_all w ?_
      rcases List.mem_cons.mp hw with e | hw
      · rw [e]; exact hl
      rcases List.mem_cons.mp hw with e | hw
      · rw [e]; exact hsm
      rcases List.mem_cons.mp hw with e | hw
      · rw [e]; exact hsel
      rcases List.mem_cons.mp hw with e | hw
      · rw [e]; exact hin
      rcases List.mem_cons.mp hw with e | hw
      · rw [e]; exact hN_.1
      · cases hw
    · exact hN_.good w hw
  exact e_go (va_runU (As := []) (rest := rest) (C := x.cls) ⟨C.1, C.2.1, C.2.2.1, C.2.2.2.1, C.2.2.2.2.1⟩ (es_met hN_.2.2.2.2 hS) (va_cwU (x := x) 0 hts hT rfl rfl rfl hyx ⟨hN_.2.2.1.1, hN_.2.2.1.2.1, by rw [hdesc]; exact hN_.2.2.1.2.2⟩ ⟨hdd, by show 8 + (eL N + 11) + 38 * d' ≤ 38 * d; have := hN_.2.2.2.1; omega⟩) ⟨e_blind, hb.cell R C.2.2.2.2.2.2.2.2 S, (e_pre C.2.2.2.2.2.2.2.2 S R).2⟩ rfl rfl L.1 rfl (lv_room hrs) hd ⟨by show cells + 0 ≤ mc; omega, by show slots + 0 ≤ ms; omega⟩) S (fun v h' H1 locs1 hq hR hS1 => kk v h' hq p e s m args below meth c H1 locs1 ls (cells + 0) (slots + 0) mc ms C hR hS1 L (by omega) (by omega))
end EXC
theorem tst3 : goodWord (.sameMethod "a" "a" "b" "c") = true := rfl
theorem tst4 : goodWord (.selects "a" ⟨"a", "b", "c"⟩ ⟨"a", "b", "c"⟩) = true := rfl
theorem tst5 : goodWord (.constant "a" 1 5) = true := rfl
end
