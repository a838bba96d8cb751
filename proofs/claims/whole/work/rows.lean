section
-- ===== PART A: goes FIRST, ahead of the names: the tables' words, and 'selects' of the private methods out of them =====
/-- a private method of a class that the tables say can be made, by its rows of tables_1 -/
def lw_okq (q : MethodName × Nat) : Prop := (q.1.cls ≠ "java/lang/invoke/MethodHandle" ∧ q.1.cls ≠ "java/lang/invoke/VarHandle") ∧ Cond.instantiable q.1.cls q.2 ∈ tables_1 ∧ Cond.privateMethod q.1 ∈ tables_1 ∧ Cond.instanceMethod q.1 ∈ tables_1
theorem lw_p0 : lw_okq (⟨"CaveRelay$Passages", "has", "(I)Z"⟩, 4) := ⟨⟨by decide +kernel, by decide +kernel⟩, List.mem_of_getElem? (i := 33) (by decide +kernel), List.mem_of_getElem? (i := 269) (by decide +kernel), List.mem_of_getElem? (i := 270) (by decide +kernel)⟩
theorem lw_p1 : lw_okq (⟨"CaveRelay$Text", "behindTwoDigits", "(I)I"⟩, 2) := ⟨⟨by decide +kernel, by decide +kernel⟩, List.mem_of_getElem? (i := 230) (by decide +kernel), List.mem_of_getElem? (i := 323) (by decide +kernel), List.mem_of_getElem? (i := 324) (by decide +kernel)⟩
theorem lw_p2 : lw_okq (⟨"CaveRelay$Text", "isUpTo", "(II)Z"⟩, 2) := ⟨⟨by decide +kernel, by decide +kernel⟩, List.mem_of_getElem? (i := 230) (by decide +kernel), List.mem_of_getElem? (i := 327) (by decide +kernel), List.mem_of_getElem? (i := 328) (by decide +kernel)⟩
theorem lw_p3 : lw_okq (⟨"CaveRelay$Text", "behindEnd", "(I)I"⟩, 2) := ⟨⟨by decide +kernel, by decide +kernel⟩, List.mem_of_getElem? (i := 230) (by decide +kernel), List.mem_of_getElem? (i := 338) (by decide +kernel), List.mem_of_getElem? (i := 339) (by decide +kernel)⟩
theorem lw_p4 : lw_okq (⟨"CaveRelay$Text", "behindSet", "(I)I"⟩, 2) := ⟨⟨by decide +kernel, by decide +kernel⟩, List.mem_of_getElem? (i := 230) (by decide +kernel), List.mem_of_getElem? (i := 342) (by decide +kernel), List.mem_of_getElem? (i := 343) (by decide +kernel)⟩
theorem lw_p5 : lw_okq (⟨"CaveRelay$Text", "digitsOfSet", "(I)I"⟩, 2) := ⟨⟨by decide +kernel, by decide +kernel⟩, List.mem_of_getElem? (i := 230) (by decide +kernel), List.mem_of_getElem? (i := 346) (by decide +kernel), List.mem_of_getElem? (i := 347) (by decide +kernel)⟩
theorem lw_p6 : lw_okq (⟨"CaveRelay$Text", "behindNumber", "(I)I"⟩, 2) := ⟨⟨by decide +kernel, by decide +kernel⟩, List.mem_of_getElem? (i := 230) (by decide +kernel), List.mem_of_getElem? (i := 350) (by decide +kernel), List.mem_of_getElem? (i := 351) (by decide +kernel)⟩
theorem lw_p7 : lw_okq (⟨"CaveRelay$Text", "digitsOfNumber", "(I)I"⟩, 2) := ⟨⟨by decide +kernel, by decide +kernel⟩, List.mem_of_getElem? (i := 230) (by decide +kernel), List.mem_of_getElem? (i := 354) (by decide +kernel), List.mem_of_getElem? (i := 355) (by decide +kernel)⟩
theorem lw_p8 : lw_okq (⟨"CaveRelay", "save", "()V"⟩, 4) := ⟨⟨by decide +kernel, by decide +kernel⟩, List.mem_of_getElem? (i := 19) (by decide +kernel), List.mem_of_getElem? (i := 362) (by decide +kernel), List.mem_of_getElem? (i := 363) (by decide +kernel)⟩
theorem lw_p9 : lw_okq (⟨"CaveRelay", "dropOldest", "()V"⟩, 4) := ⟨⟨by decide +kernel, by decide +kernel⟩, List.mem_of_getElem? (i := 19) (by decide +kernel), List.mem_of_getElem? (i := 366) (by decide +kernel), List.mem_of_getElem? (i := 367) (by decide +kernel)⟩
theorem lw_p10 : lw_okq (⟨"CaveRelay", "canObey", "(I)Z"⟩, 4) := ⟨⟨by decide +kernel, by decide +kernel⟩, List.mem_of_getElem? (i := 19) (by decide +kernel), List.mem_of_getElem? (i := 394) (by decide +kernel), List.mem_of_getElem? (i := 395) (by decide +kernel)⟩
theorem lw_p11 : lw_okq (⟨"CaveRelay$Ropes", "has", "(I)Z"⟩, 4) := ⟨⟨by decide +kernel, by decide +kernel⟩, List.mem_of_getElem? (i := 66) (by decide +kernel), List.mem_of_getElem? (i := 424) (by decide +kernel), List.mem_of_getElem? (i := 425) (by decide +kernel)⟩
theorem lw_p12 : lw_okq (⟨"CaveRelay", "obey", "(I)V"⟩, 4) := ⟨⟨by decide +kernel, by decide +kernel⟩, List.mem_of_getElem? (i := 19) (by decide +kernel), List.mem_of_getElem? (i := 481) (by decide +kernel), List.mem_of_getElem? (i := 482) (by decide +kernel)⟩
theorem lw_p13 : lw_okq (⟨"CaveRelay$Messages", "set", "(IIII)V"⟩, 5) := ⟨⟨by decide +kernel, by decide +kernel⟩, List.mem_of_getElem? (i := 89) (by decide +kernel), List.mem_of_getElem? (i := 516) (by decide +kernel), List.mem_of_getElem? (i := 517) (by decide +kernel)⟩
theorem lw_p14 : lw_okq (⟨"CaveRelay$Cave", "letMinutePass", "(I)V"⟩, 12) := ⟨⟨by decide +kernel, by decide +kernel⟩, List.mem_of_getElem? (i := 27) (by decide +kernel), List.mem_of_getElem? (i := 533) (by decide +kernel), List.mem_of_getElem? (i := 534) (by decide +kernel)⟩
theorem lw_p15 : lw_okq (⟨"CaveRelay$Cave", "walkOn", "(LCaveRelay$Helper;)V"⟩, 12) := ⟨⟨by decide +kernel, by decide +kernel⟩, List.mem_of_getElem? (i := 27) (by decide +kernel), List.mem_of_getElem? (i := 538) (by decide +kernel), List.mem_of_getElem? (i := 539) (by decide +kernel)⟩
def lw_privs_1 : List (MethodName × Nat) := [(⟨"CaveRelay$Passages", "has", "(I)Z"⟩, 4), (⟨"CaveRelay$Text", "behindTwoDigits", "(I)I"⟩, 2), (⟨"CaveRelay$Text", "isUpTo", "(II)Z"⟩, 2), (⟨"CaveRelay$Text", "behindEnd", "(I)I"⟩, 2), (⟨"CaveRelay$Text", "behindSet", "(I)I"⟩, 2), (⟨"CaveRelay$Text", "digitsOfSet", "(I)I"⟩, 2), (⟨"CaveRelay$Text", "behindNumber", "(I)I"⟩, 2), (⟨"CaveRelay$Text", "digitsOfNumber", "(I)I"⟩, 2), (⟨"CaveRelay", "save", "()V"⟩, 4), (⟨"CaveRelay", "dropOldest", "()V"⟩, 4), (⟨"CaveRelay", "canObey", "(I)Z"⟩, 4), (⟨"CaveRelay$Ropes", "has", "(I)Z"⟩, 4), (⟨"CaveRelay", "obey", "(I)V"⟩, 4), (⟨"CaveRelay$Messages", "set", "(IIII)V"⟩, 5), (⟨"CaveRelay$Cave", "letMinutePass", "(I)V"⟩, 12), (⟨"CaveRelay$Cave", "walkOn", "(LCaveRelay$Helper;)V"⟩, 12)]
theorem lw_r1 : ∀ q ∈ lw_privs_1, lw_okq q := List.forall_mem_cons.mpr ⟨lw_p0, List.forall_mem_cons.mpr ⟨lw_p1, List.forall_mem_cons.mpr ⟨lw_p2, List.forall_mem_cons.mpr ⟨lw_p3, List.forall_mem_cons.mpr ⟨lw_p4, List.forall_mem_cons.mpr ⟨lw_p5, List.forall_mem_cons.mpr ⟨lw_p6, List.forall_mem_cons.mpr ⟨lw_p7, List.forall_mem_cons.mpr ⟨lw_p8, List.forall_mem_cons.mpr ⟨lw_p9, List.forall_mem_cons.mpr ⟨lw_p10, List.forall_mem_cons.mpr ⟨lw_p11, List.forall_mem_cons.mpr ⟨lw_p12, List.forall_mem_cons.mpr ⟨lw_p13, List.forall_mem_cons.mpr ⟨lw_p14, List.forall_mem_cons.mpr ⟨lw_p15, fun _ h => absurd h List.not_mem_nil⟩⟩⟩⟩⟩⟩⟩⟩⟩⟩⟩⟩⟩⟩⟩⟩
theorem lw_p16 : lw_okq (⟨"CaveRelay$Cave", "rigOn", "(LCaveRelay$Helper;)V"⟩, 12) := ⟨⟨by decide +kernel, by decide +kernel⟩, List.mem_of_getElem? (i := 27) (by decide +kernel), List.mem_of_getElem? (i := 546) (by decide +kernel), List.mem_of_getElem? (i := 547) (by decide +kernel)⟩
theorem lw_p17 : lw_okq (⟨"CaveRelay$Cave", "countOfBelow", "()I"⟩, 12) := ⟨⟨by decide +kernel, by decide +kernel⟩, List.mem_of_getElem? (i := 27) (by decide +kernel), List.mem_of_getElem? (i := 581) (by decide +kernel), List.mem_of_getElem? (i := 582) (by decide +kernel)⟩
theorem lw_p18 : lw_okq (⟨"java/lang/Throwable", "fillInStackTrace", "(I)Ljava/lang/Throwable;"⟩, 6) := ⟨⟨by decide +kernel, by decide +kernel⟩, List.mem_of_getElem? (i := 672) (by decide +kernel), List.mem_of_getElem? (i := 670) (by decide +kernel), List.mem_of_getElem? (i := 671) (by decide +kernel)⟩
theorem lw_p19 : lw_okq (⟨"CaveRelayModel", "begins", "(I)V"⟩, 13) := ⟨⟨by decide +kernel, by decide +kernel⟩, List.mem_of_getElem? (i := 1001) (by decide +kernel), List.mem_of_getElem? (i := 1007) (by decide +kernel), List.mem_of_getElem? (i := 1008) (by decide +kernel)⟩
theorem lw_p20 : lw_okq (⟨"CaveRelayModel", "fails", "(I)I"⟩, 13) := ⟨⟨by decide +kernel, by decide +kernel⟩, List.mem_of_getElem? (i := 1001) (by decide +kernel), List.mem_of_getElem? (i := 1062) (by decide +kernel), List.mem_of_getElem? (i := 1063) (by decide +kernel)⟩
theorem lw_p21 : lw_okq (⟨"CaveRelayModel", "hold", "()V"⟩, 13) := ⟨⟨by decide +kernel, by decide +kernel⟩, List.mem_of_getElem? (i := 1001) (by decide +kernel), List.mem_of_getElem? (i := 1066) (by decide +kernel), List.mem_of_getElem? (i := 1067) (by decide +kernel)⟩
theorem lw_p22 : lw_okq (⟨"CaveRelayModel", "ends", "(I)I"⟩, 13) := ⟨⟨by decide +kernel, by decide +kernel⟩, List.mem_of_getElem? (i := 1001) (by decide +kernel), List.mem_of_getElem? (i := 1070) (by decide +kernel), List.mem_of_getElem? (i := 1071) (by decide +kernel)⟩
theorem lw_p23 : lw_okq (⟨"CaveRelayModel", "tells", "(I)I"⟩, 13) := ⟨⟨by decide +kernel, by decide +kernel⟩, List.mem_of_getElem? (i := 1001) (by decide +kernel), List.mem_of_getElem? (i := 1074) (by decide +kernel), List.mem_of_getElem? (i := 1075) (by decide +kernel)⟩
theorem lw_p24 : lw_okq (⟨"CaveRelayModel", "isPassage", "(I)Z"⟩, 13) := ⟨⟨by decide +kernel, by decide +kernel⟩, List.mem_of_getElem? (i := 1001) (by decide +kernel), List.mem_of_getElem? (i := 1082) (by decide +kernel), List.mem_of_getElem? (i := 1083) (by decide +kernel)⟩
theorem lw_p25 : lw_okq (⟨"CaveRelayModel", "rigger", "(I)I"⟩, 13) := ⟨⟨by decide +kernel, by decide +kernel⟩, List.mem_of_getElem? (i := 1001) (by decide +kernel), List.mem_of_getElem? (i := 1086) (by decide +kernel), List.mem_of_getElem? (i := 1087) (by decide +kernel)⟩
theorem lw_p26 : lw_okq (⟨"CaveRelayModel", "of", "(II)I"⟩, 13) := ⟨⟨by decide +kernel, by decide +kernel⟩, List.mem_of_getElem? (i := 1001) (by decide +kernel), List.mem_of_getElem? (i := 1090) (by decide +kernel), List.mem_of_getElem? (i := 1091) (by decide +kernel)⟩
theorem lw_p27 : lw_okq (⟨"CaveRelayModel", "walkers", "(I)I"⟩, 13) := ⟨⟨by decide +kernel, by decide +kernel⟩, List.mem_of_getElem? (i := 1001) (by decide +kernel), List.mem_of_getElem? (i := 1094) (by decide +kernel), List.mem_of_getElem? (i := 1095) (by decide +kernel)⟩
theorem lw_p28 : lw_okq (⟨"CaveRelayModel", "passageOf", "(I)I"⟩, 13) := ⟨⟨by decide +kernel, by decide +kernel⟩, List.mem_of_getElem? (i := 1001) (by decide +kernel), List.mem_of_getElem? (i := 1098) (by decide +kernel), List.mem_of_getElem? (i := 1099) (by decide +kernel)⟩
theorem lw_p29 : lw_okq (⟨"CaveRelayModel", "lays", "(III)V"⟩, 13) := ⟨⟨by decide +kernel, by decide +kernel⟩, List.mem_of_getElem? (i := 1001) (by decide +kernel), List.mem_of_getElem? (i := 1110) (by decide +kernel), List.mem_of_getElem? (i := 1111) (by decide +kernel)⟩
theorem lw_p30 : lw_okq (⟨"CaveRelayModel", "goes", "(II)I"⟩, 13) := ⟨⟨by decide +kernel, by decide +kernel⟩, List.mem_of_getElem? (i := 1001) (by decide +kernel), List.mem_of_getElem? (i := 1123) (by decide +kernel), List.mem_of_getElem? (i := 1124) (by decide +kernel)⟩
theorem lw_p31 : lw_okq (⟨"CaveRelayModel", "isHelper", "(I)Z"⟩, 13) := ⟨⟨by decide +kernel, by decide +kernel⟩, List.mem_of_getElem? (i := 1001) (by decide +kernel), List.mem_of_getElem? (i := 1127) (by decide +kernel), List.mem_of_getElem? (i := 1128) (by decide +kernel)⟩
def lw_privs_2 : List (MethodName × Nat) := [(⟨"CaveRelay$Cave", "rigOn", "(LCaveRelay$Helper;)V"⟩, 12), (⟨"CaveRelay$Cave", "countOfBelow", "()I"⟩, 12), (⟨"java/lang/Throwable", "fillInStackTrace", "(I)Ljava/lang/Throwable;"⟩, 6), (⟨"CaveRelayModel", "begins", "(I)V"⟩, 13), (⟨"CaveRelayModel", "fails", "(I)I"⟩, 13), (⟨"CaveRelayModel", "hold", "()V"⟩, 13), (⟨"CaveRelayModel", "ends", "(I)I"⟩, 13), (⟨"CaveRelayModel", "tells", "(I)I"⟩, 13), (⟨"CaveRelayModel", "isPassage", "(I)Z"⟩, 13), (⟨"CaveRelayModel", "rigger", "(I)I"⟩, 13), (⟨"CaveRelayModel", "of", "(II)I"⟩, 13), (⟨"CaveRelayModel", "walkers", "(I)I"⟩, 13), (⟨"CaveRelayModel", "passageOf", "(I)I"⟩, 13), (⟨"CaveRelayModel", "lays", "(III)V"⟩, 13), (⟨"CaveRelayModel", "goes", "(II)I"⟩, 13), (⟨"CaveRelayModel", "isHelper", "(I)Z"⟩, 13)]
theorem lw_r2 : ∀ q ∈ lw_privs_2, lw_okq q := List.forall_mem_cons.mpr ⟨lw_p16, List.forall_mem_cons.mpr ⟨lw_p17, List.forall_mem_cons.mpr ⟨lw_p18, List.forall_mem_cons.mpr ⟨lw_p19, List.forall_mem_cons.mpr ⟨lw_p20, List.forall_mem_cons.mpr ⟨lw_p21, List.forall_mem_cons.mpr ⟨lw_p22, List.forall_mem_cons.mpr ⟨lw_p23, List.forall_mem_cons.mpr ⟨lw_p24, List.forall_mem_cons.mpr ⟨lw_p25, List.forall_mem_cons.mpr ⟨lw_p26, List.forall_mem_cons.mpr ⟨lw_p27, List.forall_mem_cons.mpr ⟨lw_p28, List.forall_mem_cons.mpr ⟨lw_p29, List.forall_mem_cons.mpr ⟨lw_p30, List.forall_mem_cons.mpr ⟨lw_p31, fun _ h => absurd h List.not_mem_nil⟩⟩⟩⟩⟩⟩⟩⟩⟩⟩⟩⟩⟩⟩⟩⟩
theorem lw_p32 : lw_okq (⟨"CaveRelayModel", "reason", "(II)I"⟩, 13) := ⟨⟨by decide +kernel, by decide +kernel⟩, List.mem_of_getElem? (i := 1001) (by decide +kernel), List.mem_of_getElem? (i := 1131) (by decide +kernel), List.mem_of_getElem? (i := 1132) (by decide +kernel)⟩
theorem lw_p33 : lw_okq (⟨"CaveRelayModel", "stands", "(I)Z"⟩, 13) := ⟨⟨by decide +kernel, by decide +kernel⟩, List.mem_of_getElem? (i := 1001) (by decide +kernel), List.mem_of_getElem? (i := 1135) (by decide +kernel), List.mem_of_getElem? (i := 1136) (by decide +kernel)⟩
theorem lw_p34 : lw_okq (⟨"CaveRelayModel", "isShut", "(I)Z"⟩, 13) := ⟨⟨by decide +kernel, by decide +kernel⟩, List.mem_of_getElem? (i := 1001) (by decide +kernel), List.mem_of_getElem? (i := 1139) (by decide +kernel), List.mem_of_getElem? (i := 1140) (by decide +kernel)⟩
theorem lw_p35 : lw_okq (⟨"CaveRelayModel", "effort", "(IZ)I"⟩, 13) := ⟨⟨by decide +kernel, by decide +kernel⟩, List.mem_of_getElem? (i := 1001) (by decide +kernel), List.mem_of_getElem? (i := 1143) (by decide +kernel), List.mem_of_getElem? (i := 1144) (by decide +kernel)⟩
theorem lw_p36 : lw_okq (⟨"CaveRelayModel", "isInTime", "(III)Z"⟩, 13) := ⟨⟨by decide +kernel, by decide +kernel⟩, List.mem_of_getElem? (i := 1001) (by decide +kernel), List.mem_of_getElem? (i := 1147) (by decide +kernel), List.mem_of_getElem? (i := 1148) (by decide +kernel)⟩
theorem lw_p37 : lw_okq (⟨"CaveRelayModel", "isBelow", "(I)Z"⟩, 13) := ⟨⟨by decide +kernel, by decide +kernel⟩, List.mem_of_getElem? (i := 1001) (by decide +kernel), List.mem_of_getElem? (i := 1151) (by decide +kernel), List.mem_of_getElem? (i := 1152) (by decide +kernel)⟩
theorem lw_p38 : lw_okq (⟨"CaveRelayModel", "upFrom", "(I)I"⟩, 13) := ⟨⟨by decide +kernel, by decide +kernel⟩, List.mem_of_getElem? (i := 1001) (by decide +kernel), List.mem_of_getElem? (i := 1155) (by decide +kernel), List.mem_of_getElem? (i := 1156) (by decide +kernel)⟩
theorem lw_p39 : lw_okq (⟨"CaveRelayModel", "sets", "(II)V"⟩, 13) := ⟨⟨by decide +kernel, by decide +kernel⟩, List.mem_of_getElem? (i := 1001) (by decide +kernel), List.mem_of_getElem? (i := 1159) (by decide +kernel), List.mem_of_getElem? (i := 1160) (by decide +kernel)⟩
theorem lw_p40 : lw_okq (⟨"CaveRelayModel", "walks", "(IIII)V"⟩, 13) := ⟨⟨by decide +kernel, by decide +kernel⟩, List.mem_of_getElem? (i := 1001) (by decide +kernel), List.mem_of_getElem? (i := 1163) (by decide +kernel), List.mem_of_getElem? (i := 1164) (by decide +kernel)⟩
theorem lw_p41 : lw_okq (⟨"CaveRelayModel", "done", "(I)I"⟩, 13) := ⟨⟨by decide +kernel, by decide +kernel⟩, List.mem_of_getElem? (i := 1001) (by decide +kernel), List.mem_of_getElem? (i := 1167) (by decide +kernel), List.mem_of_getElem? (i := 1168) (by decide +kernel)⟩
theorem lw_p42 : lw_okq (⟨"CaveRelayModel", "takes", "(II)I"⟩, 13) := ⟨⟨by decide +kernel, by decide +kernel⟩, List.mem_of_getElem? (i := 1001) (by decide +kernel), List.mem_of_getElem? (i := 1175) (by decide +kernel), List.mem_of_getElem? (i := 1176) (by decide +kernel)⟩
theorem lw_p43 : lw_okq (⟨"CaveRelayModel", "isRope", "(I)Z"⟩, 13) := ⟨⟨by decide +kernel, by decide +kernel⟩, List.mem_of_getElem? (i := 1001) (by decide +kernel), List.mem_of_getElem? (i := 1179) (by decide +kernel), List.mem_of_getElem? (i := 1180) (by decide +kernel)⟩
theorem lw_p44 : lw_okq (⟨"CaveRelayModel", "gives", "(II)V"⟩, 13) := ⟨⟨by decide +kernel, by decide +kernel⟩, List.mem_of_getElem? (i := 1001) (by decide +kernel), List.mem_of_getElem? (i := 1183) (by decide +kernel), List.mem_of_getElem? (i := 1184) (by decide +kernel)⟩
theorem lw_p45 : lw_okq (⟨"CaveRelayModel", "leaves", "(III)V"⟩, 13) := ⟨⟨by decide +kernel, by decide +kernel⟩, List.mem_of_getElem? (i := 1001) (by decide +kernel), List.mem_of_getElem? (i := 1191) (by decide +kernel), List.mem_of_getElem? (i := 1192) (by decide +kernel)⟩
theorem lw_p46 : lw_okq (⟨"CaveRelayModel", "rigsAt", "(I)I"⟩, 13) := ⟨⟨by decide +kernel, by decide +kernel⟩, List.mem_of_getElem? (i := 1001) (by decide +kernel), List.mem_of_getElem? (i := 1199) (by decide +kernel), List.mem_of_getElem? (i := 1200) (by decide +kernel)⟩
theorem lw_p47 : lw_okq (⟨"CaveRelayModel", "holdsAt", "(II)Z"⟩, 13) := ⟨⟨by decide +kernel, by decide +kernel⟩, List.mem_of_getElem? (i := 1001) (by decide +kernel), List.mem_of_getElem? (i := 1203) (by decide +kernel), List.mem_of_getElem? (i := 1204) (by decide +kernel)⟩
def lw_privs_3 : List (MethodName × Nat) := [(⟨"CaveRelayModel", "reason", "(II)I"⟩, 13), (⟨"CaveRelayModel", "stands", "(I)Z"⟩, 13), (⟨"CaveRelayModel", "isShut", "(I)Z"⟩, 13), (⟨"CaveRelayModel", "effort", "(IZ)I"⟩, 13), (⟨"CaveRelayModel", "isInTime", "(III)Z"⟩, 13), (⟨"CaveRelayModel", "isBelow", "(I)Z"⟩, 13), (⟨"CaveRelayModel", "upFrom", "(I)I"⟩, 13), (⟨"CaveRelayModel", "sets", "(II)V"⟩, 13), (⟨"CaveRelayModel", "walks", "(IIII)V"⟩, 13), (⟨"CaveRelayModel", "done", "(I)I"⟩, 13), (⟨"CaveRelayModel", "takes", "(II)I"⟩, 13), (⟨"CaveRelayModel", "isRope", "(I)Z"⟩, 13), (⟨"CaveRelayModel", "gives", "(II)V"⟩, 13), (⟨"CaveRelayModel", "leaves", "(III)V"⟩, 13), (⟨"CaveRelayModel", "rigsAt", "(I)I"⟩, 13), (⟨"CaveRelayModel", "holdsAt", "(II)Z"⟩, 13)]
theorem lw_r3 : ∀ q ∈ lw_privs_3, lw_okq q := List.forall_mem_cons.mpr ⟨lw_p32, List.forall_mem_cons.mpr ⟨lw_p33, List.forall_mem_cons.mpr ⟨lw_p34, List.forall_mem_cons.mpr ⟨lw_p35, List.forall_mem_cons.mpr ⟨lw_p36, List.forall_mem_cons.mpr ⟨lw_p37, List.forall_mem_cons.mpr ⟨lw_p38, List.forall_mem_cons.mpr ⟨lw_p39, List.forall_mem_cons.mpr ⟨lw_p40, List.forall_mem_cons.mpr ⟨lw_p41, List.forall_mem_cons.mpr ⟨lw_p42, List.forall_mem_cons.mpr ⟨lw_p43, List.forall_mem_cons.mpr ⟨lw_p44, List.forall_mem_cons.mpr ⟨lw_p45, List.forall_mem_cons.mpr ⟨lw_p46, List.forall_mem_cons.mpr ⟨lw_p47, fun _ h => absurd h List.not_mem_nil⟩⟩⟩⟩⟩⟩⟩⟩⟩⟩⟩⟩⟩⟩⟩⟩
theorem lw_p48 : lw_okq (⟨"CaveRelayModel", "carries", "(I)I"⟩, 13) := ⟨⟨by decide +kernel, by decide +kernel⟩, List.mem_of_getElem? (i := 1001) (by decide +kernel), List.mem_of_getElem? (i := 1215) (by decide +kernel), List.mem_of_getElem? (i := 1216) (by decide +kernel)⟩
theorem lw_p49 : lw_okq (⟨"CaveRelayModel", "isCarryable", "()Z"⟩, 13) := ⟨⟨by decide +kernel, by decide +kernel⟩, List.mem_of_getElem? (i := 1001) (by decide +kernel), List.mem_of_getElem? (i := 1222) (by decide +kernel), List.mem_of_getElem? (i := 1223) (by decide +kernel)⟩
theorem lw_p50 : lw_okq (⟨"CaveRelayModel", "canCarry", "(I)Z"⟩, 13) := ⟨⟨by decide +kernel, by decide +kernel⟩, List.mem_of_getElem? (i := 1001) (by decide +kernel), List.mem_of_getElem? (i := 1226) (by decide +kernel), List.mem_of_getElem? (i := 1227) (by decide +kernel)⟩
theorem lw_p51 : lw_okq (⟨"CaveRelayModel", "sends", "(I)I"⟩, 13) := ⟨⟨by decide +kernel, by decide +kernel⟩, List.mem_of_getElem? (i := 1001) (by decide +kernel), List.mem_of_getElem? (i := 1234) (by decide +kernel), List.mem_of_getElem? (i := 1235) (by decide +kernel)⟩
theorem lw_p52 : lw_okq (⟨"CaveRelayModel", "passes", "(I)I"⟩, 13) := ⟨⟨by decide +kernel, by decide +kernel⟩, List.mem_of_getElem? (i := 1001) (by decide +kernel), List.mem_of_getElem? (i := 1242) (by decide +kernel), List.mem_of_getElem? (i := 1243) (by decide +kernel)⟩
theorem lw_p53 : lw_okq (⟨"CaveRelayModel", "minute", "()I"⟩, 13) := ⟨⟨by decide +kernel, by decide +kernel⟩, List.mem_of_getElem? (i := 1001) (by decide +kernel), List.mem_of_getElem? (i := 1246) (by decide +kernel), List.mem_of_getElem? (i := 1247) (by decide +kernel)⟩
theorem lw_p54 : lw_okq (⟨"CaveRelayModel", "minuteOf", "(I)V"⟩, 13) := ⟨⟨by decide +kernel, by decide +kernel⟩, List.mem_of_getElem? (i := 1001) (by decide +kernel), List.mem_of_getElem? (i := 1250) (by decide +kernel), List.mem_of_getElem? (i := 1251) (by decide +kernel)⟩
theorem lw_p55 : lw_okq (⟨"CaveRelayModel", "arrives", "(I)V"⟩, 13) := ⟨⟨by decide +kernel, by decide +kernel⟩, List.mem_of_getElem? (i := 1001) (by decide +kernel), List.mem_of_getElem? (i := 1254) (by decide +kernel), List.mem_of_getElem? (i := 1255) (by decide +kernel)⟩
theorem lw_p56 : lw_okq (⟨"CaveRelayModel", "hasRigged", "(I)V"⟩, 13) := ⟨⟨by decide +kernel, by decide +kernel⟩, List.mem_of_getElem? (i := 1001) (by decide +kernel), List.mem_of_getElem? (i := 1258) (by decide +kernel), List.mem_of_getElem? (i := 1259) (by decide +kernel)⟩
theorem lw_p57 : lw_okq (⟨"CaveRelayModel", "passageFact", "(II)I"⟩, 13) := ⟨⟨by decide +kernel, by decide +kernel⟩, List.mem_of_getElem? (i := 1001) (by decide +kernel), List.mem_of_getElem? (i := 1266) (by decide +kernel), List.mem_of_getElem? (i := 1267) (by decide +kernel)⟩
theorem lw_p58 : lw_okq (⟨"CaveRelayModel", "valueOf", "(I)I"⟩, 13) := ⟨⟨by decide +kernel, by decide +kernel⟩, List.mem_of_getElem? (i := 1001) (by decide +kernel), List.mem_of_getElem? (i := 1282) (by decide +kernel), List.mem_of_getElem? (i := 1283) (by decide +kernel)⟩
theorem lw_p59 : lw_okq (⟨"CaveRelayModel", "below", "()I"⟩, 13) := ⟨⟨by decide +kernel, by decide +kernel⟩, List.mem_of_getElem? (i := 1001) (by decide +kernel), List.mem_of_getElem? (i := 1286) (by decide +kernel), List.mem_of_getElem? (i := 1287) (by decide +kernel)⟩
theorem lw_p60 : lw_okq (⟨"CaveRelayModel", "shut", "()I"⟩, 13) := ⟨⟨by decide +kernel, by decide +kernel⟩, List.mem_of_getElem? (i := 1001) (by decide +kernel), List.mem_of_getElem? (i := 1290) (by decide +kernel), List.mem_of_getElem? (i := 1291) (by decide +kernel)⟩
theorem lw_p61 : lw_okq (⟨"CaveRelayModel", "timeUp", "(I)I"⟩, 13) := ⟨⟨by decide +kernel, by decide +kernel⟩, List.mem_of_getElem? (i := 1001) (by decide +kernel), List.mem_of_getElem? (i := 1310) (by decide +kernel), List.mem_of_getElem? (i := 1311) (by decide +kernel)⟩
theorem lw_p62 : lw_okq (⟨"CaveRelayModel", "isShutAbove", "(I)Z"⟩, 13) := ⟨⟨by decide +kernel, by decide +kernel⟩, List.mem_of_getElem? (i := 1001) (by decide +kernel), List.mem_of_getElem? (i := 1314) (by decide +kernel), List.mem_of_getElem? (i := 1315) (by decide +kernel)⟩
theorem lw_p63 : lw_okq (⟨"CaveRelayModel", "faultAt", "()I"⟩, 13) := ⟨⟨by decide +kernel, by decide +kernel⟩, List.mem_of_getElem? (i := 1001) (by decide +kernel), List.mem_of_getElem? (i := 1354) (by decide +kernel), List.mem_of_getElem? (i := 1355) (by decide +kernel)⟩
def lw_privs_4 : List (MethodName × Nat) := [(⟨"CaveRelayModel", "carries", "(I)I"⟩, 13), (⟨"CaveRelayModel", "isCarryable", "()Z"⟩, 13), (⟨"CaveRelayModel", "canCarry", "(I)Z"⟩, 13), (⟨"CaveRelayModel", "sends", "(I)I"⟩, 13), (⟨"CaveRelayModel", "passes", "(I)I"⟩, 13), (⟨"CaveRelayModel", "minute", "()I"⟩, 13), (⟨"CaveRelayModel", "minuteOf", "(I)V"⟩, 13), (⟨"CaveRelayModel", "arrives", "(I)V"⟩, 13), (⟨"CaveRelayModel", "hasRigged", "(I)V"⟩, 13), (⟨"CaveRelayModel", "passageFact", "(II)I"⟩, 13), (⟨"CaveRelayModel", "valueOf", "(I)I"⟩, 13), (⟨"CaveRelayModel", "below", "()I"⟩, 13), (⟨"CaveRelayModel", "shut", "()I"⟩, 13), (⟨"CaveRelayModel", "timeUp", "(I)I"⟩, 13), (⟨"CaveRelayModel", "isShutAbove", "(I)Z"⟩, 13), (⟨"CaveRelayModel", "faultAt", "()I"⟩, 13)]
theorem lw_r4 : ∀ q ∈ lw_privs_4, lw_okq q := List.forall_mem_cons.mpr ⟨lw_p48, List.forall_mem_cons.mpr ⟨lw_p49, List.forall_mem_cons.mpr ⟨lw_p50, List.forall_mem_cons.mpr ⟨lw_p51, List.forall_mem_cons.mpr ⟨lw_p52, List.forall_mem_cons.mpr ⟨lw_p53, List.forall_mem_cons.mpr ⟨lw_p54, List.forall_mem_cons.mpr ⟨lw_p55, List.forall_mem_cons.mpr ⟨lw_p56, List.forall_mem_cons.mpr ⟨lw_p57, List.forall_mem_cons.mpr ⟨lw_p58, List.forall_mem_cons.mpr ⟨lw_p59, List.forall_mem_cons.mpr ⟨lw_p60, List.forall_mem_cons.mpr ⟨lw_p61, List.forall_mem_cons.mpr ⟨lw_p62, List.forall_mem_cons.mpr ⟨lw_p63, fun _ h => absurd h List.not_mem_nil⟩⟩⟩⟩⟩⟩⟩⟩⟩⟩⟩⟩⟩⟩⟩⟩
theorem lw_p64 : lw_okq (⟨"CaveRelayModel", "readsOrder", "()Z"⟩, 13) := ⟨⟨by decide +kernel, by decide +kernel⟩, List.mem_of_getElem? (i := 1001) (by decide +kernel), List.mem_of_getElem? (i := 1358) (by decide +kernel), List.mem_of_getElem? (i := 1359) (by decide +kernel)⟩
theorem lw_p65 : lw_okq (⟨"CaveRelayModel", "readsRest", "()Z"⟩, 13) := ⟨⟨by decide +kernel, by decide +kernel⟩, List.mem_of_getElem? (i := 1001) (by decide +kernel), List.mem_of_getElem? (i := 1362) (by decide +kernel), List.mem_of_getElem? (i := 1363) (by decide +kernel)⟩
theorem lw_p66 : lw_okq (⟨"CaveRelayModel", "readsMinutes", "()Z"⟩, 13) := ⟨⟨by decide +kernel, by decide +kernel⟩, List.mem_of_getElem? (i := 1001) (by decide +kernel), List.mem_of_getElem? (i := 1366) (by decide +kernel), List.mem_of_getElem? (i := 1367) (by decide +kernel)⟩
theorem lw_p67 : lw_okq (⟨"CaveRelayModel", "digit", "(I)I"⟩, 13) := ⟨⟨by decide +kernel, by decide +kernel⟩, List.mem_of_getElem? (i := 1001) (by decide +kernel), List.mem_of_getElem? (i := 1370) (by decide +kernel), List.mem_of_getElem? (i := 1371) (by decide +kernel)⟩
theorem lw_p68 : lw_okq (⟨"CaveRelayModel", "readsTeam", "()Z"⟩, 13) := ⟨⟨by decide +kernel, by decide +kernel⟩, List.mem_of_getElem? (i := 1001) (by decide +kernel), List.mem_of_getElem? (i := 1374) (by decide +kernel), List.mem_of_getElem? (i := 1375) (by decide +kernel)⟩
theorem lw_p69 : lw_okq (⟨"CaveRelayModel", "does", "()I"⟩, 13) := ⟨⟨by decide +kernel, by decide +kernel⟩, List.mem_of_getElem? (i := 1001) (by decide +kernel), List.mem_of_getElem? (i := 1378) (by decide +kernel), List.mem_of_getElem? (i := 1379) (by decide +kernel)⟩
theorem lw_p70 : lw_okq (⟨"CaveRelayModel", "mix", "(I)V"⟩, 13) := ⟨⟨by decide +kernel, by decide +kernel⟩, List.mem_of_getElem? (i := 1001) (by decide +kernel), List.mem_of_getElem? (i := 1391) (by decide +kernel), List.mem_of_getElem? (i := 1392) (by decide +kernel)⟩
def lw_privs_5 : List (MethodName × Nat) := [(⟨"CaveRelayModel", "readsOrder", "()Z"⟩, 13), (⟨"CaveRelayModel", "readsRest", "()Z"⟩, 13), (⟨"CaveRelayModel", "readsMinutes", "()Z"⟩, 13), (⟨"CaveRelayModel", "digit", "(I)I"⟩, 13), (⟨"CaveRelayModel", "readsTeam", "()Z"⟩, 13), (⟨"CaveRelayModel", "does", "()I"⟩, 13), (⟨"CaveRelayModel", "mix", "(I)V"⟩, 13)]
theorem lw_r5 : ∀ q ∈ lw_privs_5, lw_okq q := List.forall_mem_cons.mpr ⟨lw_p64, List.forall_mem_cons.mpr ⟨lw_p65, List.forall_mem_cons.mpr ⟨lw_p66, List.forall_mem_cons.mpr ⟨lw_p67, List.forall_mem_cons.mpr ⟨lw_p68, List.forall_mem_cons.mpr ⟨lw_p69, List.forall_mem_cons.mpr ⟨lw_p70, fun _ h => absurd h List.not_mem_nil⟩⟩⟩⟩⟩⟩⟩
def lw_privs : List (MethodName × Nat) := lw_privs_1 ++ (lw_privs_2 ++ (lw_privs_3 ++ (lw_privs_4 ++ (lw_privs_5))))
def lw_tbl : List Cond := k2_sels lw_privs ++ tables_1
theorem lw_privs_ok : ∀ q ∈ lw_privs, lw_okq q := by
  show ∀ q ∈ lw_privs_1 ++ (lw_privs_2 ++ (lw_privs_3 ++ (lw_privs_4 ++ (lw_privs_5)))), lw_okq q
  exact List.forall_mem_append.mpr ⟨lw_r1, List.forall_mem_append.mpr ⟨lw_r2, List.forall_mem_append.mpr ⟨lw_r3, List.forall_mem_append.mpr ⟨lw_r4, lw_r5⟩⟩⟩⟩
/-- the streams that the claim lets the run draw from -/
abbrev lw_cs : List Choice := [Jvm.Choice.named "NaN.bits"]
theorem lw_bits : nanBits ∈ lw_cs := by first | decide | exact List.mem_cons_self | simp [lw_cs, nanBits]
-- ===== end of PART A; then your names; then what follows =====
/-! ===== BEGIN words of one list among another's, by their places ===== -/
theorem goodIn_r {big : List Cond} (ws : List Cond) (ps : List Nat) (hp : ws = ps.filterMap (fun i => big[i]?)) (h : ws.all goodWord = true) : GoodIn big ws := by
  intro w hw
  have h1 := List.all_eq_true.mp h w hw
  rw [hp] at hw
  obtain ⟨i, -, hi⟩ := List.mem_filterMap.mp hw
  have hm : w ∈ big := by first | exact List.mem_of_getElem? hi | exact List.getElem?_mem hi
  exact ⟨hm, good_of_word h1⟩
theorem goodIn_app {big a b : List Cond} (ha : GoodIn big a) (hb : GoodIn big b) : GoodIn big (a ++ b) := fun w h => (List.mem_append.mp h).elim (ha w) (hb w)
theorem goodIn_ca {big a b : List Cond} {c : Cond} (ha : GoodIn big (c :: a)) (hb : GoodIn big b) : GoodIn big (c :: (a ++ b)) := fun w h => (List.mem_cons.mp h).elim (fun e => ha w (List.mem_cons.mpr (Or.inl e))) (fun h => (List.mem_append.mp h).elim (fun h => ha w (List.mem_cons.mpr (Or.inr h))) (hb w))
theorem goodIn_sub {big ws : List Cond} (hm : ∀ w ∈ ws, w ∈ big) (h : ws.all goodWord = true) : GoodIn big ws := fun w hw => ⟨hm w hw, good_of_word (List.all_eq_true.mp h w hw)⟩
/-! ===== END ===== -/

/-! ===== BEGIN exceptions that leave a method, and their catching by the caller (launches without stack traces) ===== -/
section VXA
/-! The laws vx_back, vx_callV, vx_callS, vx_callSW, vx_throw0, vx_throwS follow proofs of the library, with one case more: JvmDerived/Free/Laws.lean (Back.of_free), Shelf42/LK1.lean (callV, callS), Shelf/KitTraced.lean (throwNew0V, throwNewS). -/
/-- where a method has thrown q: the class by its name, the cell, what was written, the world -/
def vx_T (XC : String → State → State → Prop) (st : State) (q : Addr) (t : State) (mc ms : Nat) (free : Addr → Prop) : Prop :=
  ∃ (E : String) (ce : Cell) (L : List Loc), XC E st t ∧ t.heap[q]? = some ce ∧ ce.vm = .none ∧ st.vm.findClass E = some ce.cls ∧ st.WarmedH t.vm ∧ st.sameButNew ({ t with vm := st.vm } : State) L mc ms ∧ ∀ z ∈ L, free z.base
def vx_Q (Qc : Array Value → State → Outcome → State → Prop) (XC : String → State → State → Prop) (mc ms : Nat) (free : Addr → Prop) : Array Value → State → Outcome → State → Prop := fun a st o t =>
  (Qc a st o t ∧ ∃ L, FrameEnd st o t L mc ms ∧ ∀ q ∈ L, free q.base) ∨ ∃ q, o = .threw q ∧ vx_T XC st q t mc ms free
/-- a callee that returns or throws -/
def vx_Met (l : Launch) (y : MethodName) (ws : List Cond) (rm : Room) (Pc : Array Value → State → Prop) (Qc : Array Value → State → Outcome → State → Prop) (XC : String → State → State → Prop) (mc ms : Nat) (free : Addr → Prop) : Prop :=
  MetFree l y (headSpec ws rm) Pc (fun _ _ _ _ _ => True) (vx_Q Qc XC mc ms free)
def vx_Post (XC : String → State → State → Prop) (mc ms : Nat) (free : Addr → Prop) : Pt → Array Value → Addr → Pt → Prop := fun A a q B =>
  ∃ (g : JFrame) (mk : MethodId) (t : State) (L : List Loc) (E : String) (ce : Cell), B.U.heap = t.heap ∧ B.U.vm = t.vm ∧ XC E (A.U.calling g mk a) t ∧ t.heap[q]? = some ce ∧ ce.vm = .none ∧ A.U.vm.findClass E = some ce.cls ∧ B.locs = A.locs ++ L ∧ (∀ z ∈ L, free z.base) ∧ B.cells = A.cells + mc ∧ B.slots = A.slots + ms
def vx_Back (l : Launch) (R : Room) (p : Program) (e : Env) (below : List Frame) (s : State) (sargs : Array Value) (y : MethodName) (len W9 : Nat)
    (Pre : Pt → Array Value → Prop) (Post : Pt → Array Value → Option Value → Pt → Prop) (PostX : Pt → Array Value → Addr → Pt → Prop) : Prop :=
  ∀ (m : MethodId) (meth : Method) (c : Code) (A : Pt) (g : JFrame) (ig : Instr) (mk : MethodId) (a : Array Value),
    Stand p l e R s m sargs below meth c A.U A.locs A.cells A.slots → g.method = m → g.locals.size = c.maxLocals → decode c.code g.pc = .ok (ig, len) →
    2 * g.monitorRoom + (g.stack.map fun v => v.category).sum ≤ W9 → A.U.methodNamed? y = some mk → Pre A a →
    (∃ (v : Option Value) (B : Pt), Stand p l e R s m sargs below meth c B.U B.locs B.cells B.slots ∧ Post A a v B ∧
      Steps p.tables e below (doInvoke e (A.U.setTop g) [] mk a).1 (B.U.setTop { g with pc := g.pc + len, stack := v.toList ++ g.stack })) ∨
    (∃ (q : Addr) (B : Pt), Stand p l e R s m sargs below meth c B.U B.locs B.cells B.slots ∧ PostX A a q B ∧
      Steps p.tables e below (doInvoke e (A.U.setTop g) [] mk a).1 ((B.U.setTop g).pushFrame (.throwing q)))
section Payer
variable {l : Launch} {R : Room} {p : Program} {e : Env} {below : List Frame} {s : State} {sargs : Array Value} {y : MethodName} {len W9 : Nat}
theorem vx_back {ws : List Cond} {rm : Room} {Pc : Array Value → State → Prop} {Qc : Array Value → State → Outcome → State → Prop} {XC : String → State → State → Prop} {mc ms : Nat} {free : Addr → Prop} {bytes : ByteArray} {maxL : Nat} {ret : Option FieldType}
    (hM : vx_Met l y ws rm Pc Qc XC mc ms free) (hblind : FrameBlind Pc) (hrc : rm.cells = mc) (hrs : rm.slots = ms)
    (hframes : rm.frames + 1 ≤ R.frames) (hlocals : W9 + (maxL + 11) + rm.locals ≤ R.locals)
    (hws : ∀ w ∈ ws, ∀ a' U, s.WarmedH U.vm → w.before a' U = true) (hcode : Cond.code y bytes maxL ret ∈ ws) (hinit : ∀ a' U, s.WarmedH U.vm → (Cond.initialized y.cls).before a' U = true) :
    vx_Back l R p e below s sargs y len W9 (PreOf R mc ms Pc) (PostOf Qc mc ms free) (vx_Post XC mc ms free) := by
  intro m meth c A g ig mk a X hg hsize hdg hW hn hp
  have h1 : (headSpec ws rm).pre.before a A.U = true := atoms_intro fun w hw => hws w hw _ _ X.warmed
  have h2 : (Cond.code y bytes maxL ret).before a A.U = true := hws _ hcode _ _ X.warmed
  have h3 : (Cond.initialized y.cls).before a A.U = true := hinit _ _ X.warmed
  have h4 : A.cells + (headSpec ws rm).room.cells ≤ R.cells := by rw [show (headSpec ws rm).room.cells = mc from hrc]; exact hp.1
  have h5 : A.slots + (headSpec ws rm).room.slots ≤ R.slots := by rw [show (headSpec ws rm).room.slots = ms from hrs]; exact hp.2.1
  have hPc : Pc a (A.U.calling g mk a) := hblind _ _ _ _ hp.2.2
  obtain ⟨U, Ls, c0, s0⟩ := A
  dsimp only [Pt.U, Pt.locs, Pt.cells, Pt.slots] at h1 h2 h3 h4 h5 X hn hPc ⊢
  obtain ⟨methY, cY, hmY, hcY, -, hlY, -, -, -, -⟩ := Cond.code_spec hn h2
  obtain ⟨kY, hkY, -⟩ := className_of_methodNamed hn
  have hinitY : kY.init = .initialized := Cond.initialized_spec (findClass_of_methodNamed hn) hkY h3
  have h : At U g.method c below := by rw [hg]; exact X.here
  have hlocals9 : W9 + (maxL + 11) + (headSpec ws rm).room.locals ≤ R.locals := hlocals
  have happ : (headSpec ws rm).appliesLoose y e.platform (U.calling g mk a) = true :=
    Spec.appliesLoose_calling (g := g) h hdg hn hkY hinitY
      (X.room_calling (g := g) (R' := (headSpec ws rm).room) hsize hmY hcY hframes (by rw [hlY]; omega) h4 h5) h1
  obtain ⟨mid, hmid⟩ := h.above
  have hfr : (U.setTop g).frames = (.java g :: mid) ++ below := by rw [State.frames_setTop' g h.top, hmid]; rfl
  obtain ⟨o, s₂, hsteps, -, hend, hq⟩ := Steps.callFree hM p X.admits X.cas X.clock (acts := []) hfr happ hPc trivial
  have hq' : vx_Q Qc XC mc ms free a (U.calling g mk a) o s₂ := hq
  rw [State.frames_setTop' g h.top] at hend
  obtain ⟨g₀, hg0⟩ := Option.isSome_iff_exists.mp h.top
  obtain ⟨r, hr⟩ := State.topJava?_eq_some.mp hg0
  have hr' : (({ U with heap := s₂.heap, slotsUsed := s₂.slotsUsed } : State).setVm s₂.vm).frames = .java g₀ :: r := hr
  rcases hq' with ⟨hqc, L, hfe, hL⟩ | ⟨q, rfl, E, ce, L, hx, hce, hcv, hcl, hW₂, hsm, hL⟩
  · obtain ⟨⟨v, rfl⟩, hW₂, e2, q2, q3, q4, q5, q6⟩ := id hfe
    have e3 : s₂ = ({ (U.calling g mk a).setFrames s₂.frames with heap := s₂.heap, slotsUsed := s₂.slotsUsed } : State).setVm s₂.vm := by
      have : s₂ = ({ s₂ with vm := (U.calling g mk a).vm } : State).setVm s₂.vm := rfl
      rw [e2] at this
      exact this
    obtain ⟨c₂, i₂, len₂, hc₂, hd₂, hf₂⟩ := hend
    have hW' : U.WarmedH s₂.vm := hW₂
    have hcc : c₂ = c := by
      have h1 : s₂.code? g.method = U.code? g.method := by
        rw [State.code?_eq, State.code?_eq, hW'.alike.method?]
      exact Option.some.inj (hc₂.symm.trans (h1.trans h.code))
    subst hcc
    have hlen : len₂ = len := by rw [hdg] at hd₂; cases hd₂; rfl
    subst hlen
    have hs₂ : s₂ = (({ U with heap := s₂.heap, slotsUsed := s₂.slotsUsed } : State).setVm s₂.vm).setTop { g with pc := g.pc + len₂, stack := v.toList ++ g.stack } := by
      refine e3.trans ?_
      rw [hf₂, State.calling_eq h.top, State.setFrames_setFrames, State.setTop_of_frames _ hr', hr]
      rfl
    have hsame : U.sameButNew ({ U with heap := s₂.heap, slotsUsed := s₂.slotsUsed } : State) L mc ms := by
      refine ⟨?_, q2, q3, q4, q5, q6⟩
      obtain ⟨t, ht, -⟩ := State.frames_cons hr
      show ({ U with heap := s₂.heap, slotsUsed := s₂.slotsUsed } : State) = { U.setFrames U.frames with heap := s₂.heap, slotsUsed := s₂.slotsUsed }
      rw [State.setFrames_self ht]
    subst hg
    refine Or.inl ⟨v, ⟨(({ U with heap := s₂.heap, slotsUsed := s₂.slotsUsed } : State).setVm s₂.vm), Ls ++ L, c0 + mc, s0 + ms⟩,
      ⟨X.admits, X.cas, X.clock, X.frames, X.room, X.hears, X.method, X.code, (X.here.setHeapUsed s₂.heap s₂.slotsUsed).setVm hW'.alike, X.tail, State.WarmedH.trans X.warmed hW', X.limits, X.bytes, X.same.trans (hsame.setVm s.vm)⟩,
      ⟨g, mk, s₂, L, rfl, rfl, hqc, rfl, hL, rfl, rfl⟩, ?_⟩
    show Steps p.tables e below _ ((({ U with heap := s₂.heap, slotsUsed := s₂.slotsUsed } : State).setVm s₂.vm).setTop { g with pc := g.pc + len₂, stack := v.toList ++ g.stack })
    rw [← hs₂]
    exact hsteps
  · obtain ⟨e2, q2, q3, q4, q5, q6⟩ := id hsm
    have e3 : s₂ = ({ (U.calling g mk a).setFrames s₂.frames with heap := s₂.heap, slotsUsed := s₂.slotsUsed } : State).setVm s₂.vm := by
      have : s₂ = ({ s₂ with vm := (U.calling g mk a).vm } : State).setVm s₂.vm := rfl
      rw [e2] at this
      exact this
    have hf₂ : s₂.frames = .throwing q :: .java g :: U.frames.tail := hend
    have hW' : U.WarmedH s₂.vm := hW₂
    have hs₂ : s₂ = ((({ U with heap := s₂.heap, slotsUsed := s₂.slotsUsed } : State).setVm s₂.vm).setTop g).pushFrame (.throwing q) := by
      refine e3.trans ?_
      rw [hf₂, State.calling_eq h.top, State.setFrames_setFrames, State.pushFrame, State.frames_setTop _ hr', State.setTop_of_frames _ hr', State.setFrames_setFrames, hr]
      rfl
    have hsame : U.sameButNew ({ U with heap := s₂.heap, slotsUsed := s₂.slotsUsed } : State) L mc ms := by
      refine ⟨?_, q2, q3, q4, q5, q6⟩
      obtain ⟨t, ht, -⟩ := State.frames_cons hr
      show ({ U with heap := s₂.heap, slotsUsed := s₂.slotsUsed } : State) = { U.setFrames U.frames with heap := s₂.heap, slotsUsed := s₂.slotsUsed }
      rw [State.setFrames_self ht]
    subst hg
    refine Or.inr ⟨q, ⟨(({ U with heap := s₂.heap, slotsUsed := s₂.slotsUsed } : State).setVm s₂.vm), Ls ++ L, c0 + mc, s0 + ms⟩,
      ⟨X.admits, X.cas, X.clock, X.frames, X.room, X.hears, X.method, X.code, (X.here.setHeapUsed s₂.heap s₂.slotsUsed).setVm hW'.alike, X.tail, State.WarmedH.trans X.warmed hW', X.limits, X.bytes, X.same.trans (hsame.setVm s.vm)⟩,
      ⟨g, mk, s₂, L, E, ce, rfl, rfl, hx, hce, hcv, hcl, rfl, hL, rfl, rfl⟩, ?_⟩
    show Steps p.tables e below _ (((({ U with heap := s₂.heap, slotsUsed := s₂.slotsUsed } : State).setVm s₂.vm).setTop g).pushFrame (.throwing q))
    rw [← hs₂]
    exact hsteps
end Payer
section Calls
variable {p : Program} {l : Launch} {e : Env} {R : Room} {s : State} {m : MethodId} {args : Array Value} {below : List Frame} {meth : Method} {c : Code} {T : State} {locs : List Loc} {cells slots : Nat}
theorem vx_callV (X : Stand p l e R s m args below meth c T locs cells slots) (hexec : p.tables.exec = Jvm.exec) {own C : String} {index : Nat} {y : MethodName} {bytes : ByteArray} {maxL : Nat} {ret : Option FieldType}
    (hown : s.vm.findClass own = some m.cls) (hlink : (Cond.methodLink own index y).before args s = true) (hinst : (Cond.instanceMethod y).before args s = true) (hsel : (Cond.selects C y y).before args s = true)
    (hcode : (Cond.code y bytes maxL ret).before args s = true) (hy : y.cls ≠ "java/lang/invoke/MethodHandle" ∧ y.cls ≠ "java/lang/invoke/VarHandle")
    {W9 : Nat} {Pre : Pt → Array Value → Prop} {Post : Pt → Array Value → Option Value → Pt → Prop} {PostX : Pt → Array Value → Addr → Pt → Prop} (hK : vx_Back l R p e below s args y 3 W9 Pre Post PostX)
    {b : Addr} {cellB : Cell} (hcell : T.heap[b]? = some cellB) (hobj : cellB.vm.isStatics = false) (hcls : s.vm.findClass C = some cellB.cls)
    {g : JFrame} (hg : g.method = m) (hsize : g.locals.size = c.maxLocals) {argsL rest : List Value} (hlen : ∀ sig, parseMethodDescriptor y.desc = some sig → argsL.length = sig.parameters.length)
    (hstack : g.stack = argsL.reverse ++ .ref b :: rest) (hW : 2 * g.monitorRoom + (rest.map fun v => v.category).sum ≤ W9) (hdg : decode c.code g.pc = .ok (.invokevirtual index, 3))
    (hpre : ∀ vm₁, s.WarmedH vm₁ → Pre ⟨T.setVm vm₁, locs, cells, slots⟩ (Value.ref b :: argsL).toArray) :
    (∃ (v : Option Value) (vm₁ : Vm) (B : Pt), s.WarmedH vm₁ ∧ Stand p l e R s m args below meth c B.U B.locs B.cells B.slots ∧ Post ⟨T.setVm vm₁, locs, cells, slots⟩ (Value.ref b :: argsL).toArray v B ∧
      ∀ target, Steps p.tables e below (B.U.setTop { g with pc := g.pc + 3, stack := v.toList ++ rest }) target → Steps p.tables e below (T.setTop g) target) ∨
    (∃ (q : Addr) (vm₁ : Vm) (B : Pt), s.WarmedH vm₁ ∧ Stand p l e R s m args below meth c B.U B.locs B.cells B.slots ∧ PostX ⟨T.setVm vm₁, locs, cells, slots⟩ (Value.ref b :: argsL).toArray q B ∧
      Steps p.tables e below (T.setTop g) ((B.U.setTop { g with stack := rest }).pushFrame (.throwing q))) := by
  obtain ⟨mk, methM, hnamed, hmethM, hstM, habM⟩ := Cond.instanceMethod_spec hinst
  obtain ⟨methM', cM, hmethM', -, -, -, -, -, -, hsigM⟩ := Cond.code_spec hnamed hcode
  cases hmethM.symm.trans hmethM'
  obtain ⟨c2, r2, m2, q1, q2, q3, q4, kP, hkP, hkPi⟩ := Cond.selects_spec hsel
  cases hcls.symm.trans q1
  cases (State.methodFound?_of_named hnamed hy).symm.trans q2
  cases hnamed.symm.trans q3
  have hselP : selectMethod e.platform s.vm cellB.cls mk = .method mk := by rw [Launch.admits_selectMethod X.admits]; exact q4
  obtain ⟨vm₁, X₁, hstep₁⟩ := X.invokevirtual hexec hown hlink hnamed hmethM hstM hkP hkPi hy (a := b) (cell := cellB) hcell
    (fun z h => by rw [h] at hobj; cases hobj) hselP hmethM habM hkP hkPi (g := g) hg (argsL := argsL) (rest := rest) (hlen _ hsigM) hstack hdg
  rcases hK m meth c ⟨T.setVm vm₁, locs, cells, slots⟩ { g with stack := rest } (.invokevirtual index) mk (Value.ref b :: argsL).toArray X₁ hg hsize hdg hW (X₁.named hnamed) (hpre vm₁ X₁.warmed) with ⟨v, B, X', hpost, hsteps⟩ | ⟨q, B, X', hpost, hsteps⟩
  · exact Or.inl ⟨v, vm₁, B, X₁.warmed, X', hpost, fun target h => hstep₁ _ fun acts => by rw [doInvoke_state]; exact hsteps.trans h⟩
  · exact Or.inr ⟨q, vm₁, B, X₁.warmed, X', hpost, hstep₁ _ fun acts => by rw [doInvoke_state]; exact hsteps⟩
theorem vx_callS (X : Stand p l e R s m args below meth c T locs cells slots) (hexec : p.tables.exec = Jvm.exec) {own : String} {index : Nat} {y : MethodName} {bytes : ByteArray} {maxL : Nat} {ret : Option FieldType}
    (hown : s.vm.findClass own = some m.cls) (hlink : (Cond.methodLink own index y).before args s = true) (hstat : (Cond.static y).before args s = true) (hinit : (Cond.initialized y.cls).before args s = true)
    (hcode : (Cond.code y bytes maxL ret).before args s = true) (hy : y.cls ≠ "java/lang/invoke/MethodHandle" ∧ y.cls ≠ "java/lang/invoke/VarHandle")
    {W9 : Nat} {Pre : Pt → Array Value → Prop} {Post : Pt → Array Value → Option Value → Pt → Prop} {PostX : Pt → Array Value → Addr → Pt → Prop} (hK : vx_Back l R p e below s args y 3 W9 Pre Post PostX)
    {g : JFrame} (hg : g.method = m) (hsize : g.locals.size = c.maxLocals) {argsL rest : List Value} (hlen : ∀ sig, parseMethodDescriptor y.desc = some sig → argsL.length = sig.parameters.length)
    (hstack : g.stack = argsL.reverse ++ rest) (hW : 2 * g.monitorRoom + (rest.map fun v => v.category).sum ≤ W9) (hdg : decode c.code g.pc = .ok (.invokestatic index, 3))
    (hpre : ∀ vm₁, s.WarmedH vm₁ → Pre ⟨T.setVm vm₁, locs, cells, slots⟩ argsL.toArray) :
    (∃ (v : Option Value) (vm₁ : Vm) (B : Pt), s.WarmedH vm₁ ∧ Stand p l e R s m args below meth c B.U B.locs B.cells B.slots ∧ Post ⟨T.setVm vm₁, locs, cells, slots⟩ argsL.toArray v B ∧
      ∀ target, Steps p.tables e below (B.U.setTop { g with pc := g.pc + 3, stack := v.toList ++ rest }) target → Steps p.tables e below (T.setTop g) target) ∨
    (∃ (q : Addr) (vm₁ : Vm) (B : Pt), s.WarmedH vm₁ ∧ Stand p l e R s m args below meth c B.U B.locs B.cells B.slots ∧ PostX ⟨T.setVm vm₁, locs, cells, slots⟩ argsL.toArray q B ∧
      Steps p.tables e below (T.setTop g) ((B.U.setTop { g with stack := rest }).pushFrame (.throwing q))) := by
  obtain ⟨mk, hnamed⟩ := Cond.code_named hcode
  obtain ⟨methM, cM, hmethM, -, -, -, -, -, -, hsigM⟩ := Cond.code_spec hnamed hcode
  have hstatic : methM.isStatic = true := Cond.static_spec hnamed hmethM hstat
  obtain ⟨kP, hkP, -⟩ := className_of_methodNamed hnamed
  have hinitP : kP.init = .initialized := Cond.initialized_spec (findClass_of_methodNamed hnamed) hkP hinit
  obtain ⟨vm₁, X₁, hstep₁⟩ := X.invokestatic hexec hown hlink hnamed hmethM hstatic hkP hinitP hy (g := g) hg (argsL := argsL) (rest := rest) (hlen _ hsigM) hstack hdg
  rcases hK m meth c ⟨T.setVm vm₁, locs, cells, slots⟩ { g with stack := rest } (.invokestatic index) mk argsL.toArray X₁ hg hsize hdg hW (X₁.named hnamed) (hpre vm₁ X₁.warmed) with ⟨v, B, X', hpost, hsteps⟩ | ⟨q, B, X', hpost, hsteps⟩
  · exact Or.inl ⟨v, vm₁, B, X₁.warmed, X', hpost, fun target h => hstep₁ _ fun acts => by rw [doInvoke_state]; exact hsteps.trans h⟩
  · exact Or.inr ⟨q, vm₁, B, X₁.warmed, X', hpost, hstep₁ _ fun acts => by rw [doInvoke_state]; exact hsteps⟩
end Calls
theorem vx_cls {s : State} {T : State} {vm₁ : Vm} {E : String} {k : ClassId} (hW : s.WarmedH vm₁) (h : (T.setVm vm₁).vm.findClass E = some k) : s.vm.findClass E = some k := by
  have h1 : vm₁.findClass E = some k := h
  rw [hW.alike.findClass] at h1
  exact h1
/-- the method's frame g, with q thrown over it -/
def vx_W (p : Program) (l : Launch) (e : Env) (R : Room) (s : State) (m : MethodId) (args : Array Value) (below : List Frame) (meth : Method) (c : Code) (H : Heap) (locs : List Loc) (cells slots : Nat) (Q : State → Prop) (g : JFrame) (q : Addr) : Prop :=
  ∀ T : State, T.heap = H → Stand p l e R s m args below meth c T locs cells slots → ∃ t, Steps p.tables e below ((T.setTop g).pushFrame (.throwing q)) t ∧ Q t
def vx_Run (p : Program) (l : Launch) (e : Env) (R : Room) (s : State) (m : MethodId) (args : Array Value) (below : List Frame) (meth : Method) (c : Code) (H : Heap) (locs : List Loc) (cells slots mc ms : Nat) (g : JFrame) (rest : List Value) (Qa : State → Outcome → State → Prop) (XC : String → State → State → Prop) (free : Addr → Prop) : Prop :=
  ∀ T : State, T.heap = H → Stand p l e R s m args below meth c T locs cells slots →
    (∃ (v : Option Value) (st₀ t T' : State) (L : List Loc), st₀.heap = H ∧ Stand p l e R s m args below meth c T' (locs ++ L) (cells + mc) (slots + ms) ∧ (∀ q ∈ L, free q.base) ∧ T'.heap = t.heap ∧ T'.vm = t.vm ∧ Qa st₀ (.returned v) t ∧
      Goes p e below T g T' { g with pc := g.pc + 3, stack := v.toList ++ rest }) ∨
    (∃ (q : Addr) (st₀ t T' : State) (L : List Loc) (E : String) (ce : Cell), st₀.heap = H ∧ Stand p l e R s m args below meth c T' (locs ++ L) (cells + mc) (slots + ms) ∧ (∀ z ∈ L, free z.base) ∧ T'.heap = t.heap ∧ T'.vm = t.vm ∧ XC E st₀ t ∧ t.heap[q]? = some ce ∧ ce.vm = .none ∧ s.vm.findClass E = some ce.cls ∧
      Steps p.tables e below (T.setTop g) ((T'.setTop { g with stack := rest }).pushFrame (.throwing q)))
def vx_X {S : Type} (px : S → Prop) (B : String → S → State → Prop) (A : Nat → Prop) : String → State → State → Prop := fun E st t => ∃ u : S, px u ∧ B E u t ∧ va_F A st t
section Runs
variable {p : Program} {l : Launch} {e : Env} {R : Room} {s : State} {m : MethodId} {args : Array Value} {below : List Frame} {meth : Method} {c : Code} {H : Heap} {locs : List Loc} {cells slots : Nat}
variable {y : MethodName} {bytes cc : ByteArray} {maxL nL mc ms n index : Nat} {ret : Option FieldType} {ws : List Cond} {rm : Room} {Pc : Array Value → State → Prop} {Qc : Array Value → State → Outcome → State → Prop} {XC : String → State → State → Prop} {free : Addr → Prop} {Ts : List Cond} {own C : String} {b : Addr} {As rest : List Value} {g : JFrame}
theorem vx_callBack (cb : CallB R s args own index y bytes maxL ret ws rm mc ms n) (hM : vx_Met l y ws rm Pc Qc XC mc ms free) (hbl : FrameBlind Pc) : vx_Back l R p e below s args y 3 8 (PreOf R mc ms Pc) (PostOf Qc mc ms free) (vx_Post XC mc ms free) := by
  obtain ⟨hrc, hrs, hfr, hlo, hws, hcw, -, hini, -⟩ := cb
  exact vx_back (bytes := bytes) (maxL := maxL) (ret := ret) hM hbl hrc hrs hfr hlo hws hcw (fun a' U hW => word_at hW (Or.inl (by first | rfl | simp [Cond.onTables, Cond.keeps, Cond.steady])) hini)
theorem vx_runV (S : CallFix p m c cc nL s args Ts own) (hM : vx_Met l y ws rm Pc Qc XC mc ms free) (cw : CallW R s args own C index y bytes maxL ret ws rm mc ms n) (hp : PreV s H C b Pc As)
    (hg : g.method = m) (hn : As.length = n) (hsize : g.locals.size = nL) (hstack : g.stack = As.reverse ++ .ref b :: rest) (hW : 2 * g.monitorRoom + (rest.map fun v => v.category).sum ≤ 8) (hdg : decode cc g.pc = .ok (.invokevirtual index, 3)) (hf : cells + mc ≤ R.cells ∧ slots + ms ≤ R.slots) :
    vx_Run p l e R s m args below meth c H locs cells slots mc ms g rest (Qc (Value.ref b :: As).toArray) XC free := by
  have hK : vx_Back l R p e below s args y 3 8 (PreOf R mc ms Pc) (PostOf Qc mc ms free) (vx_Post XC mc ms free) := vx_callBack cw.1 hM hp.1
  obtain ⟨⟨-, -, -, -, -, -, hcode, -, hy, hlen, hl⟩, hin, hse⟩ := cw
  obtain ⟨hx, hb, hml, ho, -⟩ := S
  obtain ⟨-, ⟨cellB, hcB, hoB, hclB⟩, hPc⟩ := hp
  intro T hT X
  rcases vx_callV X hx (C := C) (bytes := bytes) (maxL := maxL) (ret := ret) ho hl hin hse hcode hy hK (by rw [hT]; exact hcB) hoB hclB hg (hsize.trans hml.symm) (argsL := As) (rest := rest) (fun sig h => hn.trans (hlen sig h)) hstack hW (by rw [hb]; exact hdg)
    (fun vm₁ hW₁ => ⟨hf.1, hf.2, hPc (T.setVm vm₁) hT hW₁⟩) with ⟨v, vm₁, ⟨U', l2, c2, s2⟩, hW₁, X', ⟨g', mk, t, L, e1, e2, hq, h1, hL, h2, h3⟩, st⟩ | ⟨q, vm₁, ⟨U', l2, c2, s2⟩, hW₁, X', ⟨g', mk, t, L, E, ce, e1, e2, hq, hce, hcv, hcl, h1, hL, h2, h3⟩, st⟩
  · dsimp only [Pt.U, Pt.locs, Pt.cells, Pt.slots] at X' e1 e2 h1 h2 h3 st
    subst h1; subst h2; subst h3
    exact Or.inl ⟨v, (T.setVm vm₁).calling g' mk (Value.ref b :: As).toArray, t, U', L, hT, X', hL, e1, e2, hq, st⟩
  · dsimp only [Pt.U, Pt.locs, Pt.cells, Pt.slots] at X' e1 e2 h1 h2 h3 st hcl
    subst h1; subst h2; subst h3
    exact Or.inr ⟨q, (T.setVm vm₁).calling g' mk (Value.ref b :: As).toArray, t, U', L, E, ce, hT, X', hL, e1, e2, hq, hce, hcv, vx_cls hW₁ hcl, st⟩
theorem vx_runS (S : CallFix p m c cc nL s args Ts own) (hM : vx_Met l y ws rm Pc Qc XC mc ms free) (cw : CallB R s args own index y bytes maxL ret ws rm mc ms n ∧ (Cond.static y).before args s = true) (hp : PreS s H Pc As)
    (hg : g.method = m) (hn : As.length = n) (hsize : g.locals.size = nL) (hstack : g.stack = As.reverse ++ rest) (hW : 2 * g.monitorRoom + (rest.map fun v => v.category).sum ≤ 8) (hdg : decode cc g.pc = .ok (.invokestatic index, 3)) (hf : cells + mc ≤ R.cells ∧ slots + ms ≤ R.slots) :
    vx_Run p l e R s m args below meth c H locs cells slots mc ms g rest (Qc As.toArray) XC free := by
  have hK : vx_Back l R p e below s args y 3 8 (PreOf R mc ms Pc) (PostOf Qc mc ms free) (vx_Post XC mc ms free) := vx_callBack cw.1 hM hp.1
  obtain ⟨⟨-, -, -, -, -, -, hcode, hini, hy, hlen, hl⟩, hstt⟩ := cw
  obtain ⟨hx, hb, hml, ho, -⟩ := S
  intro T hT X
  rcases vx_callS X hx (bytes := bytes) (maxL := maxL) (ret := ret) ho hl hstt hini hcode hy hK hg (hsize.trans hml.symm) (argsL := As) (rest := rest) (fun sig h => hn.trans (hlen sig h)) hstack hW (by rw [hb]; exact hdg)
    (fun vm₁ hW₁ => ⟨hf.1, hf.2, hp.2 (T.setVm vm₁) hT hW₁⟩) with ⟨v, vm₁, ⟨U', l2, c2, s2⟩, hW₁, X', ⟨g', mk, t, L, e1, e2, hq, h1, hL, h2, h3⟩, st⟩ | ⟨q, vm₁, ⟨U', l2, c2, s2⟩, hW₁, X', ⟨g', mk, t, L, E, ce, e1, e2, hq, hce, hcv, hcl, h1, hL, h2, h3⟩, st⟩
  · dsimp only [Pt.U, Pt.locs, Pt.cells, Pt.slots] at X' e1 e2 h1 h2 h3 st
    subst h1; subst h2; subst h3
    exact Or.inl ⟨v, (T.setVm vm₁).calling g' mk As.toArray, t, U', L, hT, X', hL, e1, e2, hq, st⟩
  · dsimp only [Pt.U, Pt.locs, Pt.cells, Pt.slots] at X' e1 e2 h1 h2 h3 st hcl
    subst h1; subst h2; subst h3
    exact Or.inr ⟨q, (T.setVm vm₁).calling g' mk As.toArray, t, U', L, E, ce, hT, X', hL, e1, e2, hq, hce, hcv, vx_cls hW₁ hcl, st⟩
end Runs
section Rows
variable {p : Program} {l : Launch} {e : Env} {R : Room} {s : State} {m : MethodId} {args : Array Value} {below : List Frame} {meth : Method} {c : Code} {H : Heap} {locs : List Loc} {cells slots : Nat} {Q : State → Prop}
variable {mc ms : Nat} {free : Addr → Prop} {A0 A1 : Nat → Prop} {H0 : Heap} {a : Array Value} {pc : Nat} {ls : Array Slot} {st0 rest : List Value}
theorem vx_keep {st₀ t T' : State} {L : List Loc} (h0 : st₀.heap = H) (e1 : T'.heap = t.heap) (hS : va_S A0 H0 H locs) (hA : ∀ q, q < H.size → A1 q → A0 q) (hf : ∀ q, free q → A0 q) (hL : ∀ q ∈ L, free q.base) (hF : va_F A1 st₀ t) :
    H.size ≤ T'.heap.size ∧ (∀ q : Nat, q < H.size → ¬ A1 q → T'.heap[q]? = H[q]?) ∧ va_S A0 H0 T'.heap (locs ++ L) := by
  obtain ⟨hz, hk⟩ := hF
  rw [h0] at hz hk
  exact ⟨by rw [e1]; exact hz, fun q h1 h2 => by rw [e1]; exact hk q h1 h2,
    ⟨Nat.le_trans hS.1 (by rw [e1]; exact hz), fun q h1 h2 => by rw [e1, hk q (Nat.lt_of_lt_of_le h1 hS.1) (fun z => h2 (hA q (Nat.lt_of_lt_of_le h1 hS.1) z))]; exact hS.2.1 q h1 h2, fun q hq => by
      rcases List.mem_append.mp hq with h | h
      · exact hS.2.2 q h
      · exact hf _ (hL q h)⟩⟩
theorem vx_calli {S SX : Type} {post : Int32 → S → Prop} {px : SX → Prop} {B : S → State → Prop} {BX : String → SX → State → Prop} {AX : Nat → Prop} (hr : vx_Run p l e R s m args below meth c H locs cells slots mc ms (F0 m pc ls st0) rest (va_Qi post B A1 a) (vx_X px BX AX) free) (hS : va_S A0 H0 H locs) (hA : ∀ q, q < H.size → A1 q → A0 q) (hf : ∀ q, free q → A0 q) (hAX : ∀ q, q < H.size → AX q → A0 q)
    (kx : ∀ (E : String) (ce : Cell) (q9 : Addr) (u : SX) (t : State) (H1 : Heap) (locs1 : List Loc), t.heap = H1 → s.vm.Alike t.vm → px u → BX E u t → H.size ≤ H1.size → (∀ q : Nat, q < H.size → ¬ AX q → H1[q]? = H[q]?) → va_S A0 H0 H1 locs1 → H1[q9]? = some ce → ce.vm = .none → s.vm.findClass E = some ce.cls → vx_W p l e R s m args below meth c H1 locs1 (cells + mc) (slots + ms) Q (F0 m pc ls rest) q9)
    (kk : ∀ (r : Int32) (u : S) (t : State) (H1 : Heap) (locs1 : List Loc), t.heap = H1 → s.vm.Alike t.vm → post r u → B u t → H.size ≤ H1.size → (∀ q : Nat, q < H.size → ¬ A1 q → H1[q]? = H[q]?) → va_S A0 H0 H1 locs1 → W p l e R s m args below meth c H1 locs1 (cells + mc) (slots + ms) Q (F0 m (pc + 3) ls (.int r :: rest))) : W p l e R s m args below meth c H locs cells slots Q (F0 m pc ls st0) := by
  intro T hT X
  rcases hr T hT X with ⟨v, st₀, t, T', L, h0, X', hL, e1, e2, ⟨⟨r, u, hv, hp, hb⟩, hF⟩, st⟩ | ⟨q, st₀, t, T', L, E, ce, h0, X', hL, e1, e2, ⟨u, hp, hb, hF⟩, hce, hcv, hcl, st⟩
  · cases hv
    obtain ⟨k1, k2, k3⟩ := vx_keep h0 e1 hS hA hf hL hF
    obtain ⟨t2, a1, b1⟩ := kk r u t T'.heap (locs ++ L) e1.symm (by rw [← e2]; exact X'.warmed.alike) hp hb k1 k2 k3 T' rfl X'
    exact ⟨t2, st t2 a1, b1⟩
  · obtain ⟨k1, k2, k3⟩ := vx_keep h0 e1 hS hAX hf hL hF
    obtain ⟨t2, a1, b1⟩ := kx E ce q u t T'.heap (locs ++ L) e1.symm (by rw [← e2]; exact X'.warmed.alike) hp hb k1 k2 k3 (by rw [e1]; exact hce) hcv hcl T' rfl X'
    exact ⟨t2, st.trans a1, b1⟩
theorem vx_calll {S SX : Type} {post : Int64 → S → Prop} {px : SX → Prop} {B : S → State → Prop} {BX : String → SX → State → Prop} {AX : Nat → Prop} (hr : vx_Run p l e R s m args below meth c H locs cells slots mc ms (F0 m pc ls st0) rest (va_Ql post B A1 a) (vx_X px BX AX) free) (hS : va_S A0 H0 H locs) (hA : ∀ q, q < H.size → A1 q → A0 q) (hf : ∀ q, free q → A0 q) (hAX : ∀ q, q < H.size → AX q → A0 q)
    (kx : ∀ (E : String) (ce : Cell) (q9 : Addr) (u : SX) (t : State) (H1 : Heap) (locs1 : List Loc), t.heap = H1 → s.vm.Alike t.vm → px u → BX E u t → H.size ≤ H1.size → (∀ q : Nat, q < H.size → ¬ AX q → H1[q]? = H[q]?) → va_S A0 H0 H1 locs1 → H1[q9]? = some ce → ce.vm = .none → s.vm.findClass E = some ce.cls → vx_W p l e R s m args below meth c H1 locs1 (cells + mc) (slots + ms) Q (F0 m pc ls rest) q9)
    (kk : ∀ (r : Int64) (u : S) (t : State) (H1 : Heap) (locs1 : List Loc), t.heap = H1 → s.vm.Alike t.vm → post r u → B u t → H.size ≤ H1.size → (∀ q : Nat, q < H.size → ¬ A1 q → H1[q]? = H[q]?) → va_S A0 H0 H1 locs1 → W p l e R s m args below meth c H1 locs1 (cells + mc) (slots + ms) Q (F0 m (pc + 3) ls (.long r :: rest))) : W p l e R s m args below meth c H locs cells slots Q (F0 m pc ls st0) := by
  intro T hT X
  rcases hr T hT X with ⟨v, st₀, t, T', L, h0, X', hL, e1, e2, ⟨⟨r, u, hv, hp, hb⟩, hF⟩, st⟩ | ⟨q, st₀, t, T', L, E, ce, h0, X', hL, e1, e2, ⟨u, hp, hb, hF⟩, hce, hcv, hcl, st⟩
  · cases hv
    obtain ⟨k1, k2, k3⟩ := vx_keep h0 e1 hS hA hf hL hF
    obtain ⟨t2, a1, b1⟩ := kk r u t T'.heap (locs ++ L) e1.symm (by rw [← e2]; exact X'.warmed.alike) hp hb k1 k2 k3 T' rfl X'
    exact ⟨t2, st t2 a1, b1⟩
  · obtain ⟨k1, k2, k3⟩ := vx_keep h0 e1 hS hAX hf hL hF
    obtain ⟨t2, a1, b1⟩ := kx E ce q u t T'.heap (locs ++ L) e1.symm (by rw [← e2]; exact X'.warmed.alike) hp hb k1 k2 k3 (by rw [e1]; exact hce) hcv hcl T' rfl X'
    exact ⟨t2, st.trans a1, b1⟩
theorem vx_callf {S SX : Type} {post : UInt32 → S → Prop} {px : SX → Prop} {B : S → State → Prop} {BX : String → SX → State → Prop} {AX : Nat → Prop} (hr : vx_Run p l e R s m args below meth c H locs cells slots mc ms (F0 m pc ls st0) rest (va_Qf post B A1 a) (vx_X px BX AX) free) (hS : va_S A0 H0 H locs) (hA : ∀ q, q < H.size → A1 q → A0 q) (hf : ∀ q, free q → A0 q) (hAX : ∀ q, q < H.size → AX q → A0 q)
    (kx : ∀ (E : String) (ce : Cell) (q9 : Addr) (u : SX) (t : State) (H1 : Heap) (locs1 : List Loc), t.heap = H1 → s.vm.Alike t.vm → px u → BX E u t → H.size ≤ H1.size → (∀ q : Nat, q < H.size → ¬ AX q → H1[q]? = H[q]?) → va_S A0 H0 H1 locs1 → H1[q9]? = some ce → ce.vm = .none → s.vm.findClass E = some ce.cls → vx_W p l e R s m args below meth c H1 locs1 (cells + mc) (slots + ms) Q (F0 m pc ls rest) q9)
    (kk : ∀ (r : UInt32) (u : S) (t : State) (H1 : Heap) (locs1 : List Loc), t.heap = H1 → s.vm.Alike t.vm → post r u → B u t → H.size ≤ H1.size → (∀ q : Nat, q < H.size → ¬ A1 q → H1[q]? = H[q]?) → va_S A0 H0 H1 locs1 → W p l e R s m args below meth c H1 locs1 (cells + mc) (slots + ms) Q (F0 m (pc + 3) ls (.float r :: rest))) : W p l e R s m args below meth c H locs cells slots Q (F0 m pc ls st0) := by
  intro T hT X
  rcases hr T hT X with ⟨v, st₀, t, T', L, h0, X', hL, e1, e2, ⟨⟨r, u, hv, hp, hb⟩, hF⟩, st⟩ | ⟨q, st₀, t, T', L, E, ce, h0, X', hL, e1, e2, ⟨u, hp, hb, hF⟩, hce, hcv, hcl, st⟩
  · cases hv
    obtain ⟨k1, k2, k3⟩ := vx_keep h0 e1 hS hA hf hL hF
    obtain ⟨t2, a1, b1⟩ := kk r u t T'.heap (locs ++ L) e1.symm (by rw [← e2]; exact X'.warmed.alike) hp hb k1 k2 k3 T' rfl X'
    exact ⟨t2, st t2 a1, b1⟩
  · obtain ⟨k1, k2, k3⟩ := vx_keep h0 e1 hS hAX hf hL hF
    obtain ⟨t2, a1, b1⟩ := kx E ce q u t T'.heap (locs ++ L) e1.symm (by rw [← e2]; exact X'.warmed.alike) hp hb k1 k2 k3 (by rw [e1]; exact hce) hcv hcl T' rfl X'
    exact ⟨t2, st.trans a1, b1⟩
theorem vx_calld {S SX : Type} {post : UInt64 → S → Prop} {px : SX → Prop} {B : S → State → Prop} {BX : String → SX → State → Prop} {AX : Nat → Prop} (hr : vx_Run p l e R s m args below meth c H locs cells slots mc ms (F0 m pc ls st0) rest (va_Qd post B A1 a) (vx_X px BX AX) free) (hS : va_S A0 H0 H locs) (hA : ∀ q, q < H.size → A1 q → A0 q) (hf : ∀ q, free q → A0 q) (hAX : ∀ q, q < H.size → AX q → A0 q)
    (kx : ∀ (E : String) (ce : Cell) (q9 : Addr) (u : SX) (t : State) (H1 : Heap) (locs1 : List Loc), t.heap = H1 → s.vm.Alike t.vm → px u → BX E u t → H.size ≤ H1.size → (∀ q : Nat, q < H.size → ¬ AX q → H1[q]? = H[q]?) → va_S A0 H0 H1 locs1 → H1[q9]? = some ce → ce.vm = .none → s.vm.findClass E = some ce.cls → vx_W p l e R s m args below meth c H1 locs1 (cells + mc) (slots + ms) Q (F0 m pc ls rest) q9)
    (kk : ∀ (r : UInt64) (u : S) (t : State) (H1 : Heap) (locs1 : List Loc), t.heap = H1 → s.vm.Alike t.vm → post r u → B u t → H.size ≤ H1.size → (∀ q : Nat, q < H.size → ¬ A1 q → H1[q]? = H[q]?) → va_S A0 H0 H1 locs1 → W p l e R s m args below meth c H1 locs1 (cells + mc) (slots + ms) Q (F0 m (pc + 3) ls (.double r :: rest))) : W p l e R s m args below meth c H locs cells slots Q (F0 m pc ls st0) := by
  intro T hT X
  rcases hr T hT X with ⟨v, st₀, t, T', L, h0, X', hL, e1, e2, ⟨⟨r, u, hv, hp, hb⟩, hF⟩, st⟩ | ⟨q, st₀, t, T', L, E, ce, h0, X', hL, e1, e2, ⟨u, hp, hb, hF⟩, hce, hcv, hcl, st⟩
  · cases hv
    obtain ⟨k1, k2, k3⟩ := vx_keep h0 e1 hS hA hf hL hF
    obtain ⟨t2, a1, b1⟩ := kk r u t T'.heap (locs ++ L) e1.symm (by rw [← e2]; exact X'.warmed.alike) hp hb k1 k2 k3 T' rfl X'
    exact ⟨t2, st t2 a1, b1⟩
  · obtain ⟨k1, k2, k3⟩ := vx_keep h0 e1 hS hAX hf hL hF
    obtain ⟨t2, a1, b1⟩ := kx E ce q u t T'.heap (locs ++ L) e1.symm (by rw [← e2]; exact X'.warmed.alike) hp hb k1 k2 k3 (by rw [e1]; exact hce) hcv hcl T' rfl X'
    exact ⟨t2, st.trans a1, b1⟩
theorem vx_callv {S SX : Type} {post : S → Prop} {px : SX → Prop} {B : S → State → Prop} {BX : String → SX → State → Prop} {AX : Nat → Prop} (hr : vx_Run p l e R s m args below meth c H locs cells slots mc ms (F0 m pc ls st0) rest (va_Qv post B A1 a) (vx_X px BX AX) free) (hS : va_S A0 H0 H locs) (hA : ∀ q, q < H.size → A1 q → A0 q) (hf : ∀ q, free q → A0 q) (hAX : ∀ q, q < H.size → AX q → A0 q)
    (kx : ∀ (E : String) (ce : Cell) (q9 : Addr) (u : SX) (t : State) (H1 : Heap) (locs1 : List Loc), t.heap = H1 → s.vm.Alike t.vm → px u → BX E u t → H.size ≤ H1.size → (∀ q : Nat, q < H.size → ¬ AX q → H1[q]? = H[q]?) → va_S A0 H0 H1 locs1 → H1[q9]? = some ce → ce.vm = .none → s.vm.findClass E = some ce.cls → vx_W p l e R s m args below meth c H1 locs1 (cells + mc) (slots + ms) Q (F0 m pc ls rest) q9)
    (kk : ∀ (u : S) (t : State) (H1 : Heap) (locs1 : List Loc), t.heap = H1 → s.vm.Alike t.vm → post u → B u t → H.size ≤ H1.size → (∀ q : Nat, q < H.size → ¬ A1 q → H1[q]? = H[q]?) → va_S A0 H0 H1 locs1 → W p l e R s m args below meth c H1 locs1 (cells + mc) (slots + ms) Q (F0 m (pc + 3) ls (rest))) : W p l e R s m args below meth c H locs cells slots Q (F0 m pc ls st0) := by
  intro T hT X
  rcases hr T hT X with ⟨v, st₀, t, T', L, h0, X', hL, e1, e2, ⟨⟨u, hv, hp, hb⟩, hF⟩, st⟩ | ⟨q, st₀, t, T', L, E, ce, h0, X', hL, e1, e2, ⟨u, hp, hb, hF⟩, hce, hcv, hcl, st⟩
  · cases hv
    obtain ⟨k1, k2, k3⟩ := vx_keep h0 e1 hS hA hf hL hF
    obtain ⟨t2, a1, b1⟩ := kk u t T'.heap (locs ++ L) e1.symm (by rw [← e2]; exact X'.warmed.alike) hp hb k1 k2 k3 T' rfl X'
    exact ⟨t2, st t2 a1, b1⟩
  · obtain ⟨k1, k2, k3⟩ := vx_keep h0 e1 hS hAX hf hL hF
    obtain ⟨t2, a1, b1⟩ := kx E ce q u t T'.heap (locs ++ L) e1.symm (by rw [← e2]; exact X'.warmed.alike) hp hb k1 k2 k3 (by rw [e1]; exact hce) hcv hcl T' rfl X'
    exact ⟨t2, st.trans a1, b1⟩
/-- caught by the row x of this method's table; the rows ahead don't take it -/
theorem vx_catch {own name : String} {E : String} {ce : Cell} {q : Addr} (hown : s.vm.findClass own = some m.cls) (pre : List ExceptionTableEntry) (x : ExceptionTableEntry) (suf : List ExceptionTableEntry) (hsplit : c.exceptionTable.toList = pre ++ x :: suf)
    (hpass : ∀ z ∈ pre, covers z pc = false ∨ (z.catchType ≠ 0 ∧ ∃ nm : String, (Cond.classLink own z.catchType nm).before args s = true ∧ va_Nc E nm s)) (hx : covers x pc = true) (h0 : x.catchType ≠ 0)
    (hlink : (Cond.classLink own x.catchType name).before args s = true) (hcast : (Cond.castable E name).before args s = true) (hcell : H[q]? = some ce) (hv : ce.vm = .none) (hcl : s.vm.findClass E = some ce.cls)
    (kk : W p l e R s m args below meth c H locs cells slots Q (F0 m x.handlerPc ls [.ref q])) : vx_W p l e R s m args below meth c H locs cells slots Q (F0 m pc ls rest) q := by
  intro T hT X
  have hpl : e.platform.magicAccessors = ({} : Platform).magicAccessors := by rw [X.admits.platform]
  obtain ⟨c3, c4, hc3, hc4, hasg⟩ := Cond.castable_spec hcast
  cases Option.some.inj (hc3.symm.trans hcl)
  obtain ⟨c5, hc5, hcl5⟩ := Cond.classLink_spec hown hlink e.platform hpl
  cases Option.some.inj (hc4.symm.trans hc5)
  obtain ⟨vm', X', st⟩ := X.thenCaughtThrough q (g := F0 m pc ls rest) rfl (Steps.refl _) (by rw [hT]; exact hcell) (by rw [hv]; rfl) (by obtain ⟨k9, h9, -⟩ := Vm.findClass_spec hcl; exact ⟨k9, h9⟩) pre x suf hsplit
    (fun z hz => by
      rcases hpass z hz with h | ⟨hz0, nm, hl1, hn1⟩
      · exact Or.inl h
      · obtain ⟨c6, hc6, hcl6⟩ := Cond.classLink_spec hown hl1 e.platform hpl
        obtain ⟨a8, b8, h1, h2, h3⟩ := hn1
        cases Option.some.inj (h1.symm.trans hcl)
        cases Option.some.inj (h2.symm.trans hc6)
        exact Or.inr ⟨hz0, _, hcl6, h3⟩) hx (Or.inr ⟨h0, c4, hcl5, hasg⟩)
  obtain ⟨t, a1, b1⟩ := kk (T.setVm vm') hT X'
  exact ⟨t, st.trans a1, b1⟩
end Rows
section Ends
variable {p : Program} {l : Launch} {e : Env} {R : Room} {s : State} {m : MethodId} {args : Array Value} {below : List Frame} {meth : Method} {c : Code} {H : Heap} {locs : List Loc} {cells slots : Nat} {Q : State → Prop}
variable {mc ms : Nat} {free : Addr → Prop} {A0 A1 : Nat → Prop} {H0 : Heap} {a : Array Value} {ls : Array Slot} {st0 rest : List Value}
variable {Qc : Array Value → State → Outcome → State → Prop} {XC : String → State → State → Prop}
/-- what a body that may throw owes at its end -/
def vx_MQ (below : List Frame) (Qc : Array Value → State → Outcome → State → Prop) (XC : String → State → State → Prop) (a : Array Value) (s : State) (mc ms : Nat) (free : Addr → Prop) : State → Prop := fun t =>
  ∃ o, t.status = .running ∧ Ended t below o ∧ vx_Q Qc XC mc ms free a s o t
theorem vx_ret {g : JFrame} {mc ms : Nat} (k : W p l e R s m args below meth c H locs cells slots (MQ below Qc args s mc ms free) g) : W p l e R s m args below meth c H locs cells slots (vx_MQ below Qc XC args s mc ms free) g := by
  intro T hT X
  obtain ⟨t, a1, o, b1, b2, b3, b4⟩ := k T hT X
  exact ⟨t, a1, o, b1, b2, Or.inl ⟨b3, b4⟩⟩
/-- not caught here: it goes on to the caller -/
theorem vx_widen {g : JFrame} {q : Addr} {k n : Nat} (h1 : cells ≤ k) (h2 : slots ≤ n) (kk : vx_W p l e R s m args below meth c H locs k n Q g q) : vx_W p l e R s m args below meth c H locs cells slots Q g q := fun T hT X => kk T hT (stand_widen X h1 h2)
theorem vx_out {pc : Nat} {E : String} {ce : Cell} {q : Addr} {mc ms : Nat} (hout : ∀ x ∈ c.exceptionTable.toList, covers x pc = false) (hlocks : meth.locks = false) (hcell : H[q]? = some ce) (hv : ce.vm = .none) (hcl : s.vm.findClass E = some ce.cls)
    (hx : ∀ t : State, t.heap = H → s.vm.Alike t.vm → XC E s t) (hf : ∀ z ∈ locs, free z.base) (hc : cells ≤ mc) (hs : slots ≤ ms) :
    vx_W p l e R s m args below meth c H locs cells slots (vx_MQ below Qc XC args s mc ms free) (F0 m pc ls rest) q := by
  intro T hT X
  obtain ⟨st1, hrun, hend, hW, hsm⟩ := X.leaveThrown q (g := F0 m pc ls rest) rfl rfl rfl hout hlocks
  have hcell9 : (T.setFrames (.throwing q :: below)).heap[q]? = some ce := by
    show T.heap[q]? = some ce
    rw [hT]; exact hcell
  exact ⟨_, st1, .threw q, hrun, hend, Or.inr ⟨q, rfl, E, ce, locs, hx _ hT hW.alike, hcell9, hv, hcl, hW, hsm.mono hc hs, hf⟩⟩
theorem vx_frame {U : State} {k n : Nat} (h : s.sameButNew ({ U with vm := s.vm } : State) locs k n) : s.heap.size ≤ U.heap.size ∧ ∀ q : Nat, q < s.heap.size → (∀ z ∈ locs, z.base ≠ q) → U.heap[q]? = s.heap[q]? := by
  obtain ⟨-, h2, -, -, -, h6⟩ := h
  refine ⟨h2, fun q hq hz => ?_⟩
  obtain ⟨c9, e1, e2, e3, e4⟩ := h6 q _ (Array.getElem?_eq_getElem hq)
  have hs : c9.slots = (s.heap[q]).slots := Array.ext_getElem? fun i => e4 i fun hm => hz _ hm rfl
  have h9 : c9 = s.heap[q] := by
    rw [hs] at e2
    exact e2
  have e5 : U.heap[q]? = some c9 := e1
  rw [e5, h9, Array.getElem?_eq_getElem hq]
/-- the words of a throw but the four that speak of the heap -/
def vx_no (w : Cond) : Bool := decide (w ≠ .isRef (.static Bundle.tN "UNASSIGNED_STACK" Bundle.steD)) && decide (w ≠ .isRef (.static Bundle.tN "SUPPRESSED_SENTINEL" Bundle.listD)) && decide (w ≠ .laysStatic Bundle.tN "UNASSIGNED_STACK" Bundle.steD) && decide (w ≠ .laysStatic Bundle.tN "SUPPRESSED_SENTINEL" Bundle.listD)
def vx_at0 (own : String) (ic : Nat) (X : String) (names : List String) : List Cond := (Bundle.ownAtoms0 own ic X names).filter vx_no
def vx_atS (own : String) (ic : Nat) (X : String) (names : List String) : List Cond := (Bundle.ownAtoms own ic X names).filter vx_no
/-- a word that the tables alone decide, or a good one -/
def vx_ot (w : Cond) : Bool := w.onTables || goodWord w
theorem vx_ot_at {args a' : Array Value} {s U : State} {w : Cond} (hW : s.WarmedH U.vm) (hvm : s.vm = U.vm) (hg : vx_ot w = true) (h : w.before args s = true) : w.before a' U = true := by
  simp only [vx_ot, Bool.or_eq_true] at hg
  rcases hg with hg | hg
  · exact va_tabs hg hvm h
  · exact word_at hW (good_of_word hg) h
/-- a list's words: the good ones out of the method's own list, the others by premises of their own -/
theorem vx_hat {args : Array Value} {s : State} {L B : List Cond} (h1 : ∀ w ∈ L.filter goodWord, w.before args s = true) (h2 : ∀ w ∈ L.filter (fun w => !goodWord w), w ∈ B) (h3 : ∀ w ∈ B, w.before args s = true) : ∀ w ∈ L, w.before args s = true := by
  intro w hw
  by_cases g : goodWord w = true
  · exact h1 w (List.mem_filter.mpr ⟨hw, g⟩)
  · refine h3 w (h2 w (List.mem_filter.mpr ⟨hw, ?_⟩))
    show (!goodWord w) = true
    cases hgw : goodWord w
    · rfl
    · exact absurd hgw g
theorem vx_c {args : Array Value} {s : State} {w : Cond} {B : List Cond} (h : w.before args s = true) (t : ∀ w ∈ B, w.before args s = true) : ∀ w' ∈ w :: B, w'.before args s = true := fun w' h' => (List.mem_cons.mp h').elim (fun e => by rw [e]; exact h) (t w')
theorem vx_n {args : Array Value} {s : State} : ∀ w ∈ ([] : List Cond), w.before args s = true := fun _ h => nomatch h
theorem vx_own {args : Array Value} {s : State} {L : List Cond} (h1 : ∀ w ∈ L.filter vx_no, w.before args s = true)
    (hU : (Cond.isRef (.static Bundle.tN "UNASSIGNED_STACK" Bundle.steD)).before args s = true) (hN : (Cond.isRef (.static Bundle.tN "SUPPRESSED_SENTINEL" Bundle.listD)).before args s = true)
    (lU : (Cond.laysStatic Bundle.tN "UNASSIGNED_STACK" Bundle.steD).before args s = true) (lN : (Cond.laysStatic Bundle.tN "SUPPRESSED_SENTINEL" Bundle.listD).before args s = true) : ∀ w ∈ L, w.before args s = true := by
  intro w hw
  by_cases e1 : w = .isRef (.static Bundle.tN "UNASSIGNED_STACK" Bundle.steD)
  · rw [e1]; exact hU
  · by_cases e2 : w = .isRef (.static Bundle.tN "SUPPRESSED_SENTINEL" Bundle.listD)
    · rw [e2]; exact hN
    · by_cases e3 : w = .laysStatic Bundle.tN "UNASSIGNED_STACK" Bundle.steD
      · rw [e3]; exact lU
      · by_cases e4 : w = .laysStatic Bundle.tN "SUPPRESSED_SENTINEL" Bundle.listD
        · rw [e4]; exact lN
        · exact h1 w (List.mem_filter.mpr ⟨hw, by unfold vx_no; rw [decide_eq_true e1, decide_eq_true e2, decide_eq_true e3, decide_eq_true e4]; rfl⟩)
/-- where a static field lies, its class's statics cell in H -/
def vx_L (C n d : String) (A : Nat → Prop) (U : State) (H : Heap) : Prop := ∃ (c : ClassId) (k : Class) (i : Nat) (f : Field) (a : Nat) (cell : Cell), U.vm.findClass C = some c ∧ U.fieldFound? C n d = some (c, k, i, f) ∧ f.isStatic = true ∧ k.statics = some a ∧ H[a]? = some cell ∧ cell.vm.isStatics = true ∧ cell.cls = c ∧ f.slot < cell.slots.size ∧ k.staticTypes[f.slot]? = some f.type ∧ ¬ A a
theorem vx_L.moved {C n d : String} {A : Nat → Prop} {u U : State} {H : Heap} (hvm : u.vm.Alike U.vm) (h : vx_L C n d A u H) : vx_L C n d A U H := by
  obtain ⟨c, k, i, f, a, cell, h1, h2, h3, h4, h5, h6, h7, h8, h9, h10⟩ := h
  obtain ⟨k', hi', he⟩ := State.fieldFound?_setVm hvm h2
  exact ⟨c, k', i, f, a, cell, by rw [hvm.findClass]; exact h1, hi', h3, by rw [he]; exact h4, h5, h6, h7, h8, by rw [he]; exact h9, h10⟩
theorem vx_L.kept {C n d : String} {A : Nat → Prop} {U : State} {H H1 : Heap} (h : vx_L C n d A U H) (hq : ∀ a : Nat, a < H.size → ¬ A a → H1[a]? = H[a]?) : vx_L C n d A U H1 := by
  obtain ⟨c, k, i, f, a, cell, h1, h2, h3, h4, h5, h6, h7, h8, h9, h10⟩ := h
  exact ⟨c, k, i, f, a, cell, h1, h2, h3, h4, by rw [hq a (Array.getElem?_eq_some_iff.mp h5).1 h10]; exact h5, h6, h7, h8, h9, h10⟩
theorem vx_L.narrow {C n d : String} {A B : Nat → Prop} {U : State} {H : Heap} (h : vx_L C n d A U H) (hAB : ∀ q, B q → A q) : vx_L C n d B U H := by
  obtain ⟨c, k, i, f, a, cell, h1, h2, h3, h4, h5, h6, h7, h8, h9, h10⟩ := h
  exact ⟨c, k, i, f, a, cell, h1, h2, h3, h4, h5, h6, h7, h8, h9, fun z => h10 (hAB _ z)⟩
theorem vx_L.word {C n d : String} {A : Nat → Prop} {s : State} {args : Array Value} (h : vx_L C n d A s s.heap) : (Cond.laysStatic C n d).before args s = true := by
  obtain ⟨c, k, i, f, a, cell, h1, h2, h3, h4, h5, h6, h7, h8, h9, -⟩ := h
  show (Cond.laysStatic C n d).holds args s none s [] = true
  exact Cond.laysStatic_of h1 h2 h3 h4 h5 h6 h7 h8 h9
/-- .. and what it holds: null or some reference -/
def vx_Zq (C n d : String) (A : Nat → Prop) (U : State) (H : Heap) : Prop := va_Zq C n d A U H ∧ vx_L C n d A U H
theorem vx_Zq.moved {C n d : String} {A : Nat → Prop} {u U : State} {H : Heap} (hvm : u.vm.Alike U.vm) (h : vx_Zq C n d A u H) : vx_Zq C n d A U H := ⟨va_Zq.moved hvm h.1, vx_L.moved hvm h.2⟩
theorem vx_Zq.kept {C n d : String} {A : Nat → Prop} {U : State} {H H1 : Heap} (h : vx_Zq C n d A U H) (hq : ∀ a : Nat, a < H.size → ¬ A a → H1[a]? = H[a]?) : vx_Zq C n d A U H1 := ⟨va_Zq.kept h.1 hq, vx_L.kept h.2 hq⟩
theorem vx_Zq.narrow {C n d : String} {A B : Nat → Prop} {U : State} {H : Heap} (h : vx_Zq C n d A U H) (hAB : ∀ q, B q → A q) : vx_Zq C n d B U H := ⟨va_Zq.narrow h.1 hAB, vx_L.narrow h.2 hAB⟩
theorem vx_Zqof {args : Array Value} {s : State} {C n d : String} {A : Nat → Prop} (hl : (Cond.laysStatic C n d).before args s = true) (hini : (Cond.initialized C).before args s = true) (h : (Cond.isRef (.static C n d)).before args s = true) (hA : ∀ a : Nat, a < s.heap.size → ¬ A a) : vx_Zq C n d A s s.heap := by
  refine ⟨va_Zqof hl hini h hA, ?_⟩
  obtain ⟨c, k, i, f, a, cell, h1, h2, h3, h4, h5, h6, h7, h8, h9⟩ := Cond.laysStatic_spec hl
  exact ⟨c, k, i, f, a, cell, h1, h2, h3, h4, h5, h6, h7, h8, h9, hA a (Array.getElem?_eq_some_iff.mp h5).1⟩
theorem vx_isRef {C n d : String} {v : Value} {A : Nat → Prop} {s : State} {args : Array Value} (h : va_Z C n d v A s s.heap) (hv : v.isRef = true) : (Cond.isRef (.static C n d)).before args s = true := by
  obtain ⟨cf, kf, fi, f, a, cell, h1, h2, h3, h4, h5, h6, h7, -⟩ := h
  have he : (Term.static C n d).eval args s none [] s = some v := by
    simp [Term.eval, State.fieldNamed?, h1, h2, h4, h5, h6, h7]
  simp only [Cond.before, Cond.holds, Cond.value, he]
  cases v <;> simp_all [Value.isRef]
theorem vx_isRefq {C n d : String} {A : Nat → Prop} {s : State} {args : Array Value} (h : va_Zq C n d A s s.heap) : (Cond.isRef (.static C n d)).before args s = true := by
  rcases h with h | ⟨t, h⟩
  · exact vx_isRef h rfl
  · exact vx_isRef h rfl
/-- the same frame, seen from here: as if the method were called anew in this heap -/
theorem vx_rebase {T : State} (X : Stand p l e R s m args below meth c T locs cells slots) {R' : Room} (hf : R'.frames ≤ R.frames) (hl : R'.locals ≤ R.locals) (hc : cells + R'.cells ≤ R.cells) (hs : slots + R'.slots ≤ R.slots) :
    Stand p l e R' ((T.setVm s.vm).setFrames (.invoking m args :: below)) m args below meth c T [] 0 0 := by
  have htop : (T.setVm s.vm).topJava?.isSome := X.here.top
  have hF : ((T.setVm s.vm).setFrames (.invoking m args :: below)).frames = .invoking m args :: below := State.frames_setFrames _ (State.cur_lt_of_top htop)
  obtain ⟨g₀, hg0⟩ := Option.isSome_iff_exists.mp htop
  obtain ⟨r, hr⟩ := State.topJava?_eq_some.mp hg0
  have hl9 : e.platform.stackLimits (T.setVm s.vm).me = e.platform.stackLimits s.me := X.limits
  have hb9 : (T.setVm s.vm).me.stackBytes = s.me.stackBytes := X.bytes
  refine ⟨X.admits, X.cas, X.clock, hF, ?_, X.hears, X.method, X.code, X.here, X.tail, X.warmed, ?_, ?_, ?_⟩
  · have h := X.room
    have hU : ((T.setVm s.vm).setFrames (.invoking m args :: below)).localsInUse = s.localsInUse := by
      rw [State.localsInUse_invoking hF (meth := meth) (c := c) X.method X.code, State.localsInUse_invoking X.frames X.method X.code]
    simp only [State.hasRoom, Bool.and_eq_true, decide_eq_true_eq] at h ⊢
    obtain ⟨⟨⟨⟨h1, h2, h3, h4, h5, h6⟩, h7⟩, h8⟩, h9⟩ := h
    rw [X.frames, List.length_cons] at h2 h3
    have q1 := X.heapSize
    have q2 := X.used
    simp only [hF, hU, List.length_cons, State.stackLimits_setFrames, State.stackBytes_setFrames, hl9, hb9]
    refine ⟨⟨⟨⟨by omega, by omega, by omega, by omega, by omega, h6⟩, ?_⟩, ?_⟩, X.book⟩
    · show T.heap.size + R'.cells ≤ e.platform.maxCells
      omega
    · show T.slotsUsed + R'.slots ≤ e.platform.maxSlots
      omega
  · rw [State.stackLimits_setFrames]; rfl
  · rw [State.stackBytes_setFrames]; rfl
  · refine ⟨?_, Nat.le_refl _, Nat.le_refl _, ?_, ?_, fun a c9 h9 => ⟨c9, h9, rfl, rfl, fun _ _ => rfl⟩⟩
    · obtain ⟨t, ht, -⟩ := State.frames_cons hr
      show T.setVm s.vm = { ((T.setVm s.vm).setFrames (.invoking m args :: below)).setFrames (T.setVm s.vm).frames with heap := T.heap, slotsUsed := T.slotsUsed }
      rw [State.setFrames_setFrames, State.setFrames_self ht]
      rfl
    · show T.slotsUsed = T.slotsUsed + ((T.heap.toList.drop T.heap.size).map (·.slots.size)).sum
      rw [List.drop_eq_nil_of_le (Nat.le_of_eq Array.length_toList)]
      rfl
    · show ((T.heap.toList.drop T.heap.size).map (·.slots.size)).sum ≤ 0
      rw [List.drop_eq_nil_of_le (Nat.le_of_eq Array.length_toList)]
      exact Nat.le_refl _
/-- 'throw new E()': new; dup; invokespecial; athrow -/
theorem vx_throw0 {cc : ByteArray} {pc : Nat} (hexec : p.tables.exec = Jvm.exec) (hb : c.code = cc) (hl : l.stackTraces = false) {own cls : String} {names : List String} {ik ic mc ms : Nat} {A : Nat → Prop}
    (hown : s.vm.findClass own = some m.cls) (hcls : Bundle.fit cls = true) (hnames : ∀ n ∈ names, Bundle.fit n = true)
    (hk : (Cond.classLink own ik cls).before args s = true) (hini : (Cond.initialized cls).before args s = true) (hat : ∀ w ∈ vx_at0 own ic cls names, w.before args s = true)
    (hgood : ∀ w ∈ Cond.classLink own ik cls :: Cond.initialized cls :: vx_at0 own ic cls names, vx_ot w = true)
    (hU : vx_Zq Bundle.tN "UNASSIGNED_STACK" Bundle.steD A s s.heap) (hN : vx_Zq Bundle.tN "SUPPRESSED_SENTINEL" Bundle.listD A s s.heap) (hS : va_S A s.heap H locs) (hsize : ls.size = c.maxLocals)
    (d0 : decode cc pc = .ok (.new ik, 3)) (d3 : decode cc (pc + 3) = .ok (.dup, 1)) (d4 : decode cc (pc + 4) = .ok (.invokespecial ic, 3)) (d7 : decode cc (pc + 7) = .ok (.athrow, 1))
    (hout : ∀ x ∈ c.exceptionTable.toList, covers x (pc + 7) = false)
    (hRframes : names.length + 3 < R.frames) (hRlocals : (rest.map fun v => v.category).sum + (13 * (names.length + 1) + 42) ≤ R.locals) (hRcells : cells + 1 ≤ R.cells) (hRslots : slots + 6 ≤ R.slots) (hlocks : meth.locks = false)
    (hx : ∀ t : State, s.vm.Alike t.vm → H.size ≤ t.heap.size → (∀ q : Nat, q < H.size → t.heap[q]? = H[q]?) → XC cls s t)
    (hf : ∀ z ∈ locs, free z.base) (hc : cells + 1 ≤ mc) (hs : slots + 6 ≤ ms) :
    W p l e R s m args below meth c H locs cells slots (vx_MQ below Qc XC args s mc ms free) (F0 m pc ls rest) := by
  intro T hT X
  have htr : e.platform.stackTraces = false := (show e.platform.stackTraces = l.stackTraces by rw [X.admits.platform]).trans hl
  have Y := vx_rebase X (R' := { frames := R.frames, locals := R.locals, cells := 1, slots := 6 }) (Nat.le_refl _) (Nat.le_refl _) hRcells hRslots
  obtain ⟨s', hA⟩ : ∃ z, z = (T.setVm s.vm).setFrames (.invoking m args :: below) := ⟨_, rfl⟩
  rw [← hA] at Y
  have hvm : s'.vm = s.vm := by rw [hA]; rfl
  have hhp : s'.heap = H := by rw [hA]; exact hT
  have hW0 : s.WarmedH s'.vm := by rw [hvm]; exact State.WarmedH.refl s
  have hat' : ∀ w ∈ vx_at0 own ic cls names, w.before args s' = true := fun w hw => vx_ot_at hW0 hvm.symm (hgood w (List.mem_cons_of_mem _ (List.mem_cons_of_mem _ hw))) (hat w hw)
  have hk' : (Cond.classLink own ik cls).before args s' = true := vx_ot_at hW0 hvm.symm (hgood _ List.mem_cons_self) hk
  have hini' : (Cond.initialized cls).before args s' = true := vx_ot_at hW0 hvm.symm (hgood _ (List.mem_cons_of_mem _ List.mem_cons_self)) hini
  have hU' : vx_Zq Bundle.tN "UNASSIGNED_STACK" Bundle.steD A s' s'.heap := by rw [hhp]; exact vx_Zq.moved hW0.alike (hU.kept hS.2.1)
  have hN' : vx_Zq Bundle.tN "SUPPRESSED_SENTINEL" Bundle.listD A s' s'.heap := by rw [hhp]; exact vx_Zq.moved hW0.alike (hN.kept hS.2.1)
  have h : ∀ w ∈ Bundle.ownAtoms0 own ic cls names, w.before args s' = true := vx_own hat' (vx_isRefq hU'.1) (vx_isRefq hN'.1) hU'.2.word hN'.2.word
  have hown' : s'.vm.findClass own = some m.cls := by rw [hvm]; exact hown
  have hins : (Cond.instantiable cls 6).before args s' = true := h _ (by simp [Bundle.ownAtoms0])
  obtain ⟨vm₁, cX, kX, hfX, hkX, -, -, X₁, st1⟩ := Y.newCold hexec (own := own) (C := cls) (index := ik) (n := 6) hown' hk' hins hini'
    (g := F0 m pc ls rest) rfl (by rw [hb]; exact d0) (Nat.le_refl _) (Nat.le_refl _)
  generalize hT1 : (T.setVm vm₁).pushCell { cls := cX, slots := kX.instanceTypes.map defaultValue, vm := .none } = T1 at X₁ st1
  have hcat : (Value.ref T.heap.size).category = 1 := rfl
  have hcellA : T1.heap[T.heap.size]? = some (freshCell cX kX) := by rw [← hT1]; exact State.heap_pushCell_size _ _
  have d3' : decode c.code (pc + 3) = .ok (.dup, 1) := by rw [hb]; exact d3
  obtain ⟨U, hsteps, hrun, hend, hW, hsame, ce, hce, hO⟩ := X₁.ctorThrow0 hexec htr (own := own) (cls := cls) (names := names) (ic := ic) hown' hcls hnames h (fun x hx => nomatch hx) hfX hkX hcellA (by rw [hhp, hT]; exact Nat.le_refl _)
    (g := { method := m, pc := pc + 4, locals := ls, stack := .ref T.heap.size :: .ref T.heap.size :: rest, locked := none }) rfl hsize rfl rfl (rest := rest) rfl
    (by rw [hb]; exact d4) (by rw [hb]; exact d7) hout hRframes (by simp only [List.map_cons, List.sum_cons, hcat]; omega) hlocks
  obtain ⟨f1, f2⟩ := vx_frame hsame
  rw [hhp] at f1 f2
  have hWs : s.WarmedH U.vm := State.WarmedH.trans hW0 hW
  have hcl : s.vm.findClass cls = some ce.cls := by
    have h9 := hO.cls
    rw [hvm] at h9
    exact h9
  have hall : s.sameButNew ({ U with vm := s.vm } : State) locs mc ms := by
    subst hA
    obtain ⟨e1, e2⟩ := hsame
    rw [State.setFrames_setFrames] at e1
    have h2 : (T.setVm s.vm).sameButNew ({ U with vm := s.vm } : State) [] (0 + 1) (0 + 6) := ⟨e1, e2⟩
    have h3 := X.same.trans h2
    rw [List.append_nil] at h3
    exact h3.mono hc hs
  refine ⟨U, ?_, .threw T.heap.size, hrun, hend, Or.inr ⟨T.heap.size, rfl, cls, ce, locs, hx U hWs.alike f1 (fun q hq => f2 q hq (fun z hz => nomatch hz)), hce, hO.vm, hcl, hWs, hall, hf⟩⟩
  refine st1 _ ?_
  show Steps p.tables e below (T1.setTop { method := m, pc := pc + 3, locals := ls, stack := .ref T.heap.size :: rest, locked := none }) _
  jvm_step X₁.here [X₁.here.top, hexec, d3', Value.category]
  exact hsteps
/-- 'throw new E("text")': new; dup; ldc; invokespecial; athrow -/
theorem vx_throwS {cc : ByteArray} {pc : Nat} (hexec : p.tables.exec = Jvm.exec) (hb : c.code = cc) (hl : l.stackTraces = false) {own cls text : String} {names : List String} {ik is ic mc ms sa : Nat} {A : Nat → Prop}
    (hown : s.vm.findClass own = some m.cls) (hcls : Bundle.fit cls = true) (hnames : ∀ n ∈ names, Bundle.fit n = true)
    (hk : (Cond.classLink own ik cls).before args s = true) (hini : (Cond.initialized cls).before args s = true) (hstr : vk_R own is text sa s) (hat : ∀ w ∈ vx_atS own ic cls names, w.before args s = true)
    (hgood : ∀ w ∈ Cond.classLink own ik cls :: Cond.initialized cls :: vx_atS own ic cls names, vx_ot w = true)
    (hU : vx_Zq Bundle.tN "UNASSIGNED_STACK" Bundle.steD A s s.heap) (hN : vx_Zq Bundle.tN "SUPPRESSED_SENTINEL" Bundle.listD A s s.heap) (hS : va_S A s.heap H locs) (hsize : ls.size = c.maxLocals)
    (d0 : decode cc pc = .ok (.new ik, 3)) (d3 : decode cc (pc + 3) = .ok (.dup, 1)) (d4 : decode cc (pc + 4) = .ok (.ldc is, 2)) (d6 : decode cc (pc + 6) = .ok (.invokespecial ic, 3)) (d9 : decode cc (pc + 9) = .ok (.athrow, 1))
    (hout : ∀ x ∈ c.exceptionTable.toList, covers x (pc + 9) = false)
    (hRframes : names.length + 3 < R.frames) (hRlocals : (rest.map fun v => v.category).sum + (13 * (names.length + 1) + 43) ≤ R.locals) (hRcells : cells + 1 ≤ R.cells) (hRslots : slots + 6 ≤ R.slots) (hlocks : meth.locks = false)
    (hx : ∀ t : State, s.vm.Alike t.vm → H.size ≤ t.heap.size → (∀ q : Nat, q < H.size → t.heap[q]? = H[q]?) → XC cls s t)
    (hf : ∀ z ∈ locs, free z.base) (hc : cells + 1 ≤ mc) (hs : slots + 6 ≤ ms) :
    W p l e R s m args below meth c H locs cells slots (vx_MQ below Qc XC args s mc ms free) (F0 m pc ls rest) := by
  intro T hT X
  have htr : e.platform.stackTraces = false := (show e.platform.stackTraces = l.stackTraces by rw [X.admits.platform]).trans hl
  have Y := vx_rebase X (R' := { frames := R.frames, locals := R.locals, cells := 1, slots := 6 }) (Nat.le_refl _) (Nat.le_refl _) hRcells hRslots
  obtain ⟨s', hA⟩ : ∃ z, z = (T.setVm s.vm).setFrames (.invoking m args :: below) := ⟨_, rfl⟩
  rw [← hA] at Y
  have hvm : s'.vm = s.vm := by rw [hA]; rfl
  have hhp : s'.heap = H := by rw [hA]; exact hT
  have hW0 : s.WarmedH s'.vm := by rw [hvm]; exact State.WarmedH.refl s
  have hat' : ∀ w ∈ vx_atS own ic cls names, w.before args s' = true := fun w hw => vx_ot_at hW0 hvm.symm (hgood w (List.mem_cons_of_mem _ (List.mem_cons_of_mem _ hw))) (hat w hw)
  have hk' : (Cond.classLink own ik cls).before args s' = true := vx_ot_at hW0 hvm.symm (hgood _ List.mem_cons_self) hk
  have hini' : (Cond.initialized cls).before args s' = true := vx_ot_at hW0 hvm.symm (hgood _ (List.mem_cons_of_mem _ List.mem_cons_self)) hini
  have hU' : vx_Zq Bundle.tN "UNASSIGNED_STACK" Bundle.steD A s' s'.heap := by rw [hhp]; exact vx_Zq.moved hW0.alike (hU.kept hS.2.1)
  have hN' : vx_Zq Bundle.tN "SUPPRESSED_SENTINEL" Bundle.listD A s' s'.heap := by rw [hhp]; exact vx_Zq.moved hW0.alike (hN.kept hS.2.1)
  have h : ∀ w ∈ Bundle.ownAtoms own ic cls names, w.before args s' = true := vx_own hat' (vx_isRefq hU'.1) (vx_isRefq hN'.1) hU'.2.word hN'.2.word
  have hown' : s'.vm.findClass own = some m.cls := by rw [hvm]; exact hown
  have hins : (Cond.instantiable cls 6).before args s' = true := h _ (by simp [Bundle.ownAtoms])
  obtain ⟨vm₁, cX, kX, hfX, hkX, -, -, X₁, st1⟩ := Y.newCold hexec (own := own) (C := cls) (index := ik) (n := 6) hown' hk' hins hini'
    (g := F0 m pc ls rest) rfl (by rw [hb]; exact d0) (Nat.le_refl _) (Nat.le_refl _)
  generalize hT1 : (T.setVm vm₁).pushCell { cls := cX, slots := kX.instanceTypes.map defaultValue, vm := .none } = T1 at X₁ st1
  have hcat : (Value.ref T.heap.size).category = 1 := rfl
  have hcellA : T1.heap[T.heap.size]? = some (freshCell cX kX) := by rw [← hT1]; exact State.heap_pushCell_size _ _
  have d3' : decode c.code (pc + 3) = .ok (.dup, 1) := by rw [hb]; exact d3
  have d4' : decode c.code (pc + 4) = .ok (.ldc is, 2) := by rw [hb]; exact d4
  have hstr' : vk_R own is text sa s' := vk_R.warm hW0 hstr
  obtain ⟨U, hsteps, hrun, hend, hW, hsame, ce, hce, hO⟩ := X₁.ctorThrowS hexec htr (own := own) (cls := cls) (names := names) (ic := ic) hown' hcls hnames h (fun x hx => nomatch hx) hfX hkX hcellA (by rw [hhp, hT]; exact Nat.le_refl _) (msg := .ref sa) rfl
    (g := { method := m, pc := pc + 6, locals := ls, stack := .ref sa :: .ref T.heap.size :: .ref T.heap.size :: rest, locked := none }) rfl hsize rfl rfl (rest := rest) rfl
    (by rw [hb]; exact d6) (by rw [hb]; exact d9) hout hRframes (by simp only [List.map_cons, List.sum_cons, hcat]; omega) hlocks
  obtain ⟨f1, f2⟩ := vx_frame hsame
  rw [hhp] at f1 f2
  have hWs : s.WarmedH U.vm := State.WarmedH.trans hW0 hW
  have hcl : s.vm.findClass cls = some ce.cls := by
    have h9 := hO.cls
    rw [hvm] at h9
    exact h9
  have hall : s.sameButNew ({ U with vm := s.vm } : State) locs mc ms := by
    subst hA
    obtain ⟨e1, e2⟩ := hsame
    rw [State.setFrames_setFrames] at e1
    have h2 : (T.setVm s.vm).sameButNew ({ U with vm := s.vm } : State) [] (0 + 1) (0 + 6) := ⟨e1, e2⟩
    have h3 := X.same.trans h2
    rw [List.append_nil] at h3
    exact h3.mono hc hs
  refine ⟨U, ?_, .threw T.heap.size, hrun, hend, Or.inr ⟨T.heap.size, rfl, cls, ce, locs, hx U hWs.alike f1 (fun q hq => f2 q hq (fun z hz => nomatch hz)), hce, hO.vm, hcl, hWs, hall, hf⟩⟩
  refine st1 _ ?_
  show Steps p.tables e below (T1.setTop { method := m, pc := pc + 3, locals := ls, stack := .ref T.heap.size :: rest, locked := none }) _
  jvm_step X₁.here [X₁.here.top, hexec, d3', Value.category]
  exact X₁.ldcString hexec (own := own) (text := text) (index := is) (a := sa) hown' hstr'.1 hstr'.2
    (g := { method := m, pc := pc + 4, locals := ls, stack := .ref T.heap.size :: .ref T.heap.size :: rest, locked := none }) rfl d4' _ hsteps
/-- 'throw new E("text")', the text by a wide index -/
theorem vx_throwSW {cc : ByteArray} {pc : Nat} (hexec : p.tables.exec = Jvm.exec) (hb : c.code = cc) (hl : l.stackTraces = false) {own cls text : String} {names : List String} {ik is ic mc ms sa : Nat} {A : Nat → Prop}
    (hown : s.vm.findClass own = some m.cls) (hcls : Bundle.fit cls = true) (hnames : ∀ n ∈ names, Bundle.fit n = true)
    (hk : (Cond.classLink own ik cls).before args s = true) (hini : (Cond.initialized cls).before args s = true) (hstr : vk_R own is text sa s) (hat : ∀ w ∈ vx_atS own ic cls names, w.before args s = true)
    (hgood : ∀ w ∈ Cond.classLink own ik cls :: Cond.initialized cls :: vx_atS own ic cls names, vx_ot w = true)
    (hU : vx_Zq Bundle.tN "UNASSIGNED_STACK" Bundle.steD A s s.heap) (hN : vx_Zq Bundle.tN "SUPPRESSED_SENTINEL" Bundle.listD A s s.heap) (hS : va_S A s.heap H locs) (hsize : ls.size = c.maxLocals)
    (d0 : decode cc pc = .ok (.new ik, 3)) (d3 : decode cc (pc + 3) = .ok (.dup, 1)) (d4 : decode cc (pc + 4) = .ok (.ldc_w is, 3)) (d7 : decode cc (pc + 7) = .ok (.invokespecial ic, 3)) (d10 : decode cc (pc + 10) = .ok (.athrow, 1))
    (hout : ∀ x ∈ c.exceptionTable.toList, covers x (pc + 10) = false)
    (hRframes : names.length + 3 < R.frames) (hRlocals : (rest.map fun v => v.category).sum + (13 * (names.length + 1) + 43) ≤ R.locals) (hRcells : cells + 1 ≤ R.cells) (hRslots : slots + 6 ≤ R.slots) (hlocks : meth.locks = false)
    (hx : ∀ t : State, s.vm.Alike t.vm → H.size ≤ t.heap.size → (∀ q : Nat, q < H.size → t.heap[q]? = H[q]?) → XC cls s t)
    (hf : ∀ z ∈ locs, free z.base) (hc : cells + 1 ≤ mc) (hs : slots + 6 ≤ ms) :
    W p l e R s m args below meth c H locs cells slots (vx_MQ below Qc XC args s mc ms free) (F0 m pc ls rest) := by
  intro T hT X
  have htr : e.platform.stackTraces = false := (show e.platform.stackTraces = l.stackTraces by rw [X.admits.platform]).trans hl
  have Y := vx_rebase X (R' := { frames := R.frames, locals := R.locals, cells := 1, slots := 6 }) (Nat.le_refl _) (Nat.le_refl _) hRcells hRslots
  obtain ⟨s', hA⟩ : ∃ z, z = (T.setVm s.vm).setFrames (.invoking m args :: below) := ⟨_, rfl⟩
  rw [← hA] at Y
  have hvm : s'.vm = s.vm := by rw [hA]; rfl
  have hhp : s'.heap = H := by rw [hA]; exact hT
  have hW0 : s.WarmedH s'.vm := by rw [hvm]; exact State.WarmedH.refl s
  have hat' : ∀ w ∈ vx_atS own ic cls names, w.before args s' = true := fun w hw => vx_ot_at hW0 hvm.symm (hgood w (List.mem_cons_of_mem _ (List.mem_cons_of_mem _ hw))) (hat w hw)
  have hk' : (Cond.classLink own ik cls).before args s' = true := vx_ot_at hW0 hvm.symm (hgood _ List.mem_cons_self) hk
  have hini' : (Cond.initialized cls).before args s' = true := vx_ot_at hW0 hvm.symm (hgood _ (List.mem_cons_of_mem _ List.mem_cons_self)) hini
  have hU' : vx_Zq Bundle.tN "UNASSIGNED_STACK" Bundle.steD A s' s'.heap := by rw [hhp]; exact vx_Zq.moved hW0.alike (hU.kept hS.2.1)
  have hN' : vx_Zq Bundle.tN "SUPPRESSED_SENTINEL" Bundle.listD A s' s'.heap := by rw [hhp]; exact vx_Zq.moved hW0.alike (hN.kept hS.2.1)
  have h : ∀ w ∈ Bundle.ownAtoms own ic cls names, w.before args s' = true := vx_own hat' (vx_isRefq hU'.1) (vx_isRefq hN'.1) hU'.2.word hN'.2.word
  have hown' : s'.vm.findClass own = some m.cls := by rw [hvm]; exact hown
  have hins : (Cond.instantiable cls 6).before args s' = true := h _ (by simp [Bundle.ownAtoms])
  obtain ⟨vm₁, cX, kX, hfX, hkX, -, -, X₁, st1⟩ := Y.newCold hexec (own := own) (C := cls) (index := ik) (n := 6) hown' hk' hins hini'
    (g := F0 m pc ls rest) rfl (by rw [hb]; exact d0) (Nat.le_refl _) (Nat.le_refl _)
  generalize hT1 : (T.setVm vm₁).pushCell { cls := cX, slots := kX.instanceTypes.map defaultValue, vm := .none } = T1 at X₁ st1
  have hcat : (Value.ref T.heap.size).category = 1 := rfl
  have hcellA : T1.heap[T.heap.size]? = some (freshCell cX kX) := by rw [← hT1]; exact State.heap_pushCell_size _ _
  have d3' : decode c.code (pc + 3) = .ok (.dup, 1) := by rw [hb]; exact d3
  have d4' : decode c.code (pc + 4) = .ok (.ldc_w is, 3) := by rw [hb]; exact d4
  have hstr' : vk_R own is text sa s' := vk_R.warm hW0 hstr
  obtain ⟨U, hsteps, hrun, hend, hW, hsame, ce, hce, hO⟩ := X₁.ctorThrowS hexec htr (own := own) (cls := cls) (names := names) (ic := ic) hown' hcls hnames h (fun x hx => nomatch hx) hfX hkX hcellA (by rw [hhp, hT]; exact Nat.le_refl _) (msg := .ref sa) rfl
    (g := { method := m, pc := pc + 7, locals := ls, stack := .ref sa :: .ref T.heap.size :: .ref T.heap.size :: rest, locked := none }) rfl hsize rfl rfl (rest := rest) rfl
    (by rw [hb]; exact d7) (by rw [hb]; exact d10) hout hRframes (by simp only [List.map_cons, List.sum_cons, hcat]; omega) hlocks
  obtain ⟨f1, f2⟩ := vx_frame hsame
  rw [hhp] at f1 f2
  have hWs : s.WarmedH U.vm := State.WarmedH.trans hW0 hW
  have hcl : s.vm.findClass cls = some ce.cls := by
    have h9 := hO.cls
    rw [hvm] at h9
    exact h9
  have hall : s.sameButNew ({ U with vm := s.vm } : State) locs mc ms := by
    subst hA
    obtain ⟨e1, e2⟩ := hsame
    rw [State.setFrames_setFrames] at e1
    have h2 : (T.setVm s.vm).sameButNew ({ U with vm := s.vm } : State) [] (0 + 1) (0 + 6) := ⟨e1, e2⟩
    have h3 := X.same.trans h2
    rw [List.append_nil] at h3
    exact h3.mono hc hs
  refine ⟨U, ?_, .threw T.heap.size, hrun, hend, Or.inr ⟨T.heap.size, rfl, cls, ce, locs, hx U hWs.alike f1 (fun q hq => f2 q hq (fun z hz => nomatch hz)), hce, hO.vm, hcl, hWs, hall, hf⟩⟩
  refine st1 _ ?_
  show Steps p.tables e below (T1.setTop { method := m, pc := pc + 3, locals := ls, stack := .ref T.heap.size :: rest, locked := none }) _
  jvm_step X₁.here [X₁.here.top, hexec, d3', Value.category]
  exact X₁.ldcStringW hexec (own := own) (text := text) (index := is) (a := sa) hown' hstr'.1 hstr'.2
    (g := { method := m, pc := pc + 4, locals := ls, stack := .ref T.heap.size :: .ref T.heap.size :: rest, locked := none }) rfl d4' _ hsteps
end Ends
section Bodies
variable {l : Launch}
theorem vx_ofW {y : MethodName} {ws ws' : List Cond} {rm : Room} {Pc : Array Value → State → Prop} {Qc : Array Value → State → Outcome → State → Prop} {XC : String → State → State → Prop} {mc ms : Nat} {free : Addr → Prop} {cc : ByteArray} {maxL : Nat} {ret : Option FieldType}
    (hy : plainName y.cls = true) (hw : ws = Cond.code y cc maxL ret :: ws')
    (body : ∀ p e s m args below meth c s₁, BodyLoose p l y (headSpec ws rm) cc maxL ret e s m args below meth c s₁ → c.maxLocals = maxL → (∀ x ∈ c.exceptionTable.toList, False) → Pc args s →
      W p l e (headSpec ws rm).room s m args below meth c s.heap [] 0 0 (vx_MQ below Qc XC args s mc ms free) (entryFrame m args maxL)) : vx_Met l y ws rm Pc Qc XC mc ms free := by
  refine MetFree.of_bodyS (code := cc) (maxLocals := maxL) (ret := ret) hy ?_ ?_
  · intro args s m h hn
    obtain ⟨meth, c, h1, h2, h3, h4, h5, h6, -, -⟩ := Cond.code_spec hn (atoms_spec (ws := ws) h _ (by rw [hw]; exact List.mem_cons_self))
    exact ⟨meth, c, h1, h2, h3, h4, h5, h6⟩
  · intro p e s m args below meth c s₁ B hml hP _
    have hh0 : s₁.heap = s.heap := by rw [B.state]; rfl
    have ht : ∀ x ∈ c.exceptionTable.toList, False := by
      obtain ⟨meth9, c9, h1, h2, -, -, -, -, h7, -⟩ := Cond.code_spec B.named (atoms_spec (ws := ws) B.pre _ (by rw [hw]; exact List.mem_cons_self))
      cases Option.some.inj (h1.symm.trans B.method)
      cases Option.some.inj (h2.symm.trans (Stand.of_body B).code)
      intro x hx
      rw [Array.isEmpty_iff.mp h7] at hx
      cases hx
    obtain ⟨t, a1, o, b1, b2, b3⟩ := body p e s m args below meth c s₁ B hml ht hP s₁ hh0 (Stand.of_body B)
    exact ⟨t, o, a1, b1, b2, b3⟩
/-- the table of a body with handlers -/
theorem vx_table {p : Program} {x y : MethodName} {S : Spec} {cc bytes : ByteArray} {maxL maxL' : Nat} {ret ret' : Option FieldType} {e : Env} {s s₁ : State} {m : MethodId} {args : Array Value} {below : List Frame} {meth : Method} {c : Code} {hh : List (Nat × Nat × Nat × Nat)}
    (B : BodyLoose p l y S cc maxL ret e s m args below meth c s₁) (h : (Cond.codeWith y bytes maxL' ret' hh).before args s = true) : c.exceptionTable.toList = tableOf hh := by
  obtain ⟨m9, meth9, c9, hn9, h1, h2, -, -, h6, -⟩ := Cond.codeWith_spec h
  cases Option.some.inj (hn9.symm.trans B.named)
  cases Option.some.inj (h1.symm.trans B.method)
  cases Option.some.inj (h2.symm.trans (Stand.of_body B).code)
  rw [← h6, table_eq]
end Bodies
end VXA
/-! ===== END ===== -/
/-! ===== BEGIN a static call of a method with an exception table ===== -/
section VXS
variable {p : Program} {l : Launch} {e : Env} {R : Room} {s : State} {m : MethodId} {args : Array Value} {below : List Frame} {meth : Method} {c : Code} {T : State} {H : Heap} {locs : List Loc} {cells slots : Nat}
abbrev vx_CSW (R : Room) (s : State) (args : Array Value) (own : String) (index : Nat) (y : MethodName) (bytes : ByteArray) (maxL : Nat) (ret : Option FieldType) (hh : List (Nat × Nat × Nat × Nat)) (ws : List Cond) (rm : Room) (mc ms n : Nat) : Prop :=
  (rm.cells = mc ∧ rm.slots = ms ∧ rm.frames + 1 ≤ R.frames ∧ 8 + (maxL + 11) + rm.locals ≤ R.locals ∧ (∀ w ∈ ws, ∀ (a' : Array Value) (U : State), s.WarmedH U.vm → w.before a' U = true) ∧ Cond.codeWith y bytes maxL ret hh ∈ ws) ∧
  (Cond.codeWith y bytes maxL ret hh).before args s = true ∧ (Cond.initialized y.cls).before args s = true ∧ (y.cls ≠ "java/lang/invoke/MethodHandle" ∧ y.cls ≠ "java/lang/invoke/VarHandle") ∧
  (∀ sig, parseMethodDescriptor y.desc = some sig → n = sig.parameters.length) ∧ (Cond.methodLink own index y).before args s = true ∧ (Cond.static y).before args s = true
theorem vx_cwSW {own : String} {index maxL mc ms : Nat} {y : MethodName} {bytes : ByteArray} {ret : Option FieldType} {hh : List (Nat × Nat × Nat × Nat)} {Ts ws ws' : List Cond} {rm : Room} (n : Nat) (ht : ∀ w ∈ Ts, w.before args s = true) (hT : GoodIn Ts (va_wsS own index y ws)) (hw : ws = Cond.codeWith y bytes maxL ret hh :: ws') (hrc : rm.cells = mc) (hrs : rm.slots = ms)
    (hd : y.cls ≠ "java/lang/invoke/MethodHandle" ∧ y.cls ≠ "java/lang/invoke/VarHandle" ∧ (parseMethodDescriptor y.desc).map (fun d => d.parameters.length) = some n) (hR : rm.frames + 1 ≤ R.frames ∧ 8 + (maxL + 11) + rm.locals ≤ R.locals) :
    vx_CSW R s args own index y bytes maxL ret hh ws rm mc ms n := by
  have ok : ∀ w ∈ va_wsS own index y ws, w.before args s = true := fun w h => ht w (hT w h).1
  have hG : GoodIn Ts ws := fun w h => hT w (by unfold va_wsS; exact List.mem_append_right _ h)
  have hc : Cond.codeWith y bytes maxL ret hh ∈ ws := by rw [hw]; exact List.mem_cons_self
  refine ⟨⟨hrc, hrs, hR.1, hR.2, pay_in ht hG, hc⟩, ht _ (hG _ hc).1, ok _ (by simp [va_wsS]), ⟨hd.1, hd.2.1⟩, fun sig h => ?_, ok _ (by simp [va_wsS]), ok _ (by simp [va_wsS])⟩
  have h2 := hd.2.2
  rw [h] at h2
  exact (Option.some.inj h2).symm
theorem vx_callSW (X : Stand p l e R s m args below meth c T locs cells slots) (hexec : p.tables.exec = Jvm.exec) {own : String} {index : Nat} {y : MethodName} {bytes : ByteArray} {maxL : Nat} {ret : Option FieldType} {hh : List (Nat × Nat × Nat × Nat)}
    (hown : s.vm.findClass own = some m.cls) (hlink : (Cond.methodLink own index y).before args s = true) (hstat : (Cond.static y).before args s = true) (hinit : (Cond.initialized y.cls).before args s = true)
    (hcode : (Cond.codeWith y bytes maxL ret hh).before args s = true) (hy : y.cls ≠ "java/lang/invoke/MethodHandle" ∧ y.cls ≠ "java/lang/invoke/VarHandle")
    {W9 : Nat} {Pre : Pt → Array Value → Prop} {Post : Pt → Array Value → Option Value → Pt → Prop} (hK : Back l R p e below s args y 3 W9 Pre Post)
    {g : JFrame} (hg : g.method = m) (hsize : g.locals.size = c.maxLocals) {argsL rest : List Value} (hlen : ∀ sig, parseMethodDescriptor y.desc = some sig → argsL.length = sig.parameters.length)
    (hstack : g.stack = argsL.reverse ++ rest) (hW : 2 * g.monitorRoom + (rest.map fun v => v.category).sum ≤ W9) (hdg : decode c.code g.pc = .ok (.invokestatic index, 3))
    (hpre : ∀ vm₁, s.WarmedH vm₁ → Pre ⟨T.setVm vm₁, locs, cells, slots⟩ argsL.toArray) :
    ∃ (v : Option Value) (vm₁ : Vm) (B : Pt), s.WarmedH vm₁ ∧ Stand p l e R s m args below meth c B.U B.locs B.cells B.slots ∧ Post ⟨T.setVm vm₁, locs, cells, slots⟩ argsL.toArray v B ∧
      ∀ target, Steps p.tables e below (B.U.setTop { g with pc := g.pc + 3, stack := v.toList ++ rest }) target → Steps p.tables e below (T.setTop g) target := by
  obtain ⟨mk, methM, cM, hnamed, hmethM, -, -, -, -, -, -, hsigM⟩ := Cond.codeWith_spec hcode
  have hstatic : methM.isStatic = true := Cond.static_spec hnamed hmethM hstat
  obtain ⟨kP, hkP, -⟩ := className_of_methodNamed hnamed
  have hinitP : kP.init = .initialized := Cond.initialized_spec (findClass_of_methodNamed hnamed) hkP hinit
  obtain ⟨vm₁, X₁, hstep₁⟩ := X.invokestatic hexec hown hlink hnamed hmethM hstatic hkP hinitP hy (g := g) hg (argsL := argsL) (rest := rest) (hlen _ hsigM) hstack hdg
  obtain ⟨v, B, X', hpost, hsteps⟩ := hK m meth c ⟨T.setVm vm₁, locs, cells, slots⟩ { g with stack := rest } (.invokestatic index) mk argsL.toArray X₁ hg hsize hdg hW (X₁.named hnamed) (hpre vm₁ X₁.warmed)
  exact ⟨v, vm₁, B, X₁.warmed, X', hpost, fun target h => hstep₁ _ fun acts => by rw [doInvoke_state]; exact hsteps.trans h⟩
theorem vx_runSW {y : MethodName} {bytes cc : ByteArray} {maxL nL mc ms n index : Nat} {ret : Option FieldType} {hh : List (Nat × Nat × Nat × Nat)} {ws : List Cond} {rm : Room} {Pc : Array Value → State → Prop} {Qc : Array Value → State → Outcome → State → Prop} {free : Addr → Prop} {Ts : List Cond} {own : String} {As rest : List Value} {g : JFrame}
    (S : CallFix p m c cc nL s args Ts own) (hM : Met l y ws rm Pc Qc mc ms free) (cw : vx_CSW R s args own index y bytes maxL ret hh ws rm mc ms n) (hp : PreS s H Pc As)
    (hg : g.method = m) (hn : As.length = n) (hsize : g.locals.size = nL) (hstack : g.stack = As.reverse ++ rest) (hW : 2 * g.monitorRoom + (rest.map fun v => v.category).sum ≤ 8) (hdg : decode cc g.pc = .ok (.invokestatic index, 3)) (hf : cells + mc ≤ R.cells ∧ slots + ms ≤ R.slots) :
    va_Run p l e R s m args below meth c H locs cells slots mc ms g rest (Qc As.toArray) (free) := by
  obtain ⟨⟨hrc, hrs, hfr, hlo, hws, hcw⟩, hcode, hini, hy, hlen, hl, hstt⟩ := cw
  have hK : Back l R p e below s args y 3 8 (PreOf R mc ms Pc) (PostOf Qc mc ms free) := va_backW (hh := hh) (bytes := bytes) (maxL := maxL) (ret := ret) hM hp.1 hrc hrs hfr hlo hws hcw (fun a' U hW => word_at hW (Or.inl (by first | rfl | simp [Cond.onTables, Cond.keeps, Cond.steady])) hini)
  obtain ⟨hx, hb, hml, ho, -⟩ := S
  intro T hT X
  obtain ⟨v, vm₁, ⟨U', l2, c2, s2⟩, hW₁, X', ⟨g', mk, t, L, e1, e2, hq, h1, hL, h2, h3⟩, st⟩ := vx_callSW X hx (hh := hh) (bytes := bytes) (maxL := maxL) (ret := ret) ho hl hstt hini hcode hy hK hg (hsize.trans hml.symm) (argsL := As) (rest := rest) (fun sig h => hn.trans (hlen sig h)) hstack hW (by rw [hb]; exact hdg)
    (fun vm₁ hW₁ => ⟨hf.1, hf.2, hp.2 (T.setVm vm₁) hT hW₁⟩)
  dsimp only [Pt.U, Pt.locs, Pt.cells, Pt.slots] at X' e1 e2 h1 h2 h3 st
  subst h1; subst h2; subst h3
  exact ⟨v, (T.setVm vm₁).calling g' mk As.toArray, t, U', L, hT, X', hL, e1, e2, hq, st⟩
/-- not caught here, past rows that name other classes: it goes on to the caller -/
theorem vx_outP {p : Program} {l : Launch} {e : Env} {R : Room} {s : State} {m : MethodId} {args : Array Value} {below : List Frame} {meth : Method} {c : Code} {H : Heap} {locs : List Loc} {cells slots : Nat} {free : Addr → Prop} {ls : Array Slot} {rest : List Value} {Qc : Array Value → State → Outcome → State → Prop} {XC : String → State → State → Prop}
    {pc : Nat} {own E : String} {ce : Cell} {q : Addr} {mc ms : Nat} (hown : s.vm.findClass own = some m.cls) (hlocks : meth.locks = false)
    (hpass : ∀ z ∈ c.exceptionTable.toList, covers z pc = false ∨ (z.catchType ≠ 0 ∧ ∃ nm : String, (Cond.classLink own z.catchType nm).before args s = true ∧ va_Nc E nm s)) (hcell : H[q]? = some ce) (hv : ce.vm = .none) (hcl : s.vm.findClass E = some ce.cls)
    (hx : ∀ t : State, t.heap = H → s.vm.Alike t.vm → XC E s t) (hf : ∀ z ∈ locs, free z.base) (hc : cells ≤ mc) (hs : slots ≤ ms) :
    vx_W p l e R s m args below meth c H locs cells slots (vx_MQ below Qc XC args s mc ms free) (F0 m pc ls rest) q := by
  intro T hT X
  have hpl : e.platform.magicAccessors = ({} : Platform).magicAccessors := by rw [X.admits.platform]
  obtain ⟨vm', hW', X', st⟩ := X.outThrough hlocks q (g := F0 m pc ls rest) rfl rfl rfl (cell := ce) (by rw [hT]; exact hcell) (by rw [hv]; rfl)
    (by obtain ⟨k9, h9, -⟩ := Vm.findClass_spec hcl; exact ⟨k9, h9⟩) (fun z hz => by
      rcases hpass z hz with h | ⟨hz0, nm, hl1, hn1⟩
      · exact Or.inl h
      · obtain ⟨c6, hc6, hcl6⟩ := Cond.classLink_spec hown hl1 e.platform hpl
        obtain ⟨a8, b8, h1, h2, h3⟩ := hn1
        cases Option.some.inj (h1.symm.trans hcl)
        cases Option.some.inj (h2.symm.trans hc6)
        exact Or.inr ⟨hz0, _, hcl6, h3⟩)
  obtain ⟨g₀, hfr⟩ := X'.frames_eq
  have hcell9 : ((T.setVm vm').setFrames (.throwing q :: below)).heap[q]? = some ce := by
    show T.heap[q]? = some ce
    rw [hT]; exact hcell
  have hend : Ended ((T.setVm vm').setFrames (.throwing q :: below)) below (.threw q) := State.frames_setFrames _ (State.cur_lt_of_frames hfr)
  refine ⟨(T.setVm vm').setFrames (.throwing q :: below), ?_, .threw q, X'.here.running, hend, Or.inr ⟨q, rfl, E, ce, locs, hx _ hT (X'.ends _).1.alike, hcell9, hv, hcl, (X'.ends _).1, (X'.ends _).2.mono hc hs, hf⟩⟩
  rw [X.pushThrowing_eq]
  exact st
/-- a thing of a world lies in the heap -/
theorem vx_lt {D : va_G} {cl : List vw_C} {ws : va_W} {H1 : Heap} (h : va_P D cl ws H1) {k : Nat} {q : Nat × va_E} (hk : ws[k]? = some q) : q.1 < H1.size := (h k q hk).lt
end VXS
/-! ===== END ===== -/
/-! ===== BEGIN methods with a table of their own: called by a name, returning or throwing ===== -/
section VXH
/-! vx_backW, vx_callVX, vx_callSX, vx_callVW, vx_runVW, vx_runVX, vx_runSX, vx_ofWH follow the same proofs as their sisters above (Free/Laws.lean, Shelf42/LK1.lean); vx_outP calls Shelf42/NT130.lean (outThrough). -/
section
variable {l : Launch} {R : Room} {p : Program} {e : Env} {below : List Frame} {s : State} {sargs : Array Value} {y : MethodName} {len W9 : Nat}
theorem vx_backW {ws : List Cond} {rm : Room} {Pc : Array Value → State → Prop} {Qc : Array Value → State → Outcome → State → Prop} {XC : String → State → State → Prop} {mc ms : Nat} {free : Addr → Prop} {bytes : ByteArray} {maxL : Nat} {ret : Option FieldType} {hh : List (Nat × Nat × Nat × Nat)}
    (hM : vx_Met l y ws rm Pc Qc XC mc ms free) (hblind : FrameBlind Pc) (hrc : rm.cells = mc) (hrs : rm.slots = ms)
    (hframes : rm.frames + 1 ≤ R.frames) (hlocals : W9 + (maxL + 11) + rm.locals ≤ R.locals)
    (hws : ∀ w ∈ ws, ∀ a' U, s.WarmedH U.vm → w.before a' U = true) (hcode : Cond.codeWith y bytes maxL ret hh ∈ ws) (hinit : ∀ a' U, s.WarmedH U.vm → (Cond.initialized y.cls).before a' U = true) :
    vx_Back l R p e below s sargs y len W9 (PreOf R mc ms Pc) (PostOf Qc mc ms free) (vx_Post XC mc ms free) := by
  intro m meth c A g ig mk a X hg hsize hdg hW hn hp
  have h1 : (headSpec ws rm).pre.before a A.U = true := atoms_intro fun w hw => hws w hw _ _ X.warmed
  have h2 : (Cond.codeWith y bytes maxL ret hh).before a A.U = true := hws _ hcode _ _ X.warmed
  have h3 : (Cond.initialized y.cls).before a A.U = true := hinit _ _ X.warmed
  have h4 : A.cells + (headSpec ws rm).room.cells ≤ R.cells := by rw [show (headSpec ws rm).room.cells = mc from hrc]; exact hp.1
  have h5 : A.slots + (headSpec ws rm).room.slots ≤ R.slots := by rw [show (headSpec ws rm).room.slots = ms from hrs]; exact hp.2.1
  have hPc : Pc a (A.U.calling g mk a) := hblind _ _ _ _ hp.2.2
  obtain ⟨U, Ls, c0, s0⟩ := A
  dsimp only [Pt.U, Pt.locs, Pt.cells, Pt.slots] at h1 h2 h3 h4 h5 X hn hPc ⊢
  obtain ⟨m9, methY, cY, hn9, hmY, hcY, -, hlY, -⟩ := Cond.codeWith_spec h2
  cases Option.some.inj (hn9.symm.trans hn)
  obtain ⟨kY, hkY, -⟩ := className_of_methodNamed hn
  have hinitY : kY.init = .initialized := Cond.initialized_spec (findClass_of_methodNamed hn) hkY h3
  have h : At U g.method c below := by rw [hg]; exact X.here
  have hlocals9 : W9 + (maxL + 11) + (headSpec ws rm).room.locals ≤ R.locals := hlocals
  have happ : (headSpec ws rm).appliesLoose y e.platform (U.calling g mk a) = true :=
    Spec.appliesLoose_calling (g := g) h hdg hn hkY hinitY
      (X.room_calling (g := g) (R' := (headSpec ws rm).room) hsize hmY hcY hframes (by rw [hlY]; omega) h4 h5) h1
  obtain ⟨mid, hmid⟩ := h.above
  have hfr : (U.setTop g).frames = (.java g :: mid) ++ below := by rw [State.frames_setTop' g h.top, hmid]; rfl
  obtain ⟨o, s₂, hsteps, -, hend, hq⟩ := Steps.callFree hM p X.admits X.cas X.clock (acts := []) hfr happ hPc trivial
  have hq' : vx_Q Qc XC mc ms free a (U.calling g mk a) o s₂ := hq
  rw [State.frames_setTop' g h.top] at hend
  obtain ⟨g₀, hg0⟩ := Option.isSome_iff_exists.mp h.top
  obtain ⟨r, hr⟩ := State.topJava?_eq_some.mp hg0
  have hr' : (({ U with heap := s₂.heap, slotsUsed := s₂.slotsUsed } : State).setVm s₂.vm).frames = .java g₀ :: r := hr
  rcases hq' with ⟨hqc, L, hfe, hL⟩ | ⟨q, rfl, E, ce, L, hx, hce, hcv, hcl, hW₂, hsm, hL⟩
  · obtain ⟨⟨v, rfl⟩, hW₂, e2, q2, q3, q4, q5, q6⟩ := id hfe
    have e3 : s₂ = ({ (U.calling g mk a).setFrames s₂.frames with heap := s₂.heap, slotsUsed := s₂.slotsUsed } : State).setVm s₂.vm := by
      have : s₂ = ({ s₂ with vm := (U.calling g mk a).vm } : State).setVm s₂.vm := rfl
      rw [e2] at this
      exact this
    obtain ⟨c₂, i₂, len₂, hc₂, hd₂, hf₂⟩ := hend
    have hW' : U.WarmedH s₂.vm := hW₂
    have hcc : c₂ = c := by
      have h1 : s₂.code? g.method = U.code? g.method := by
        rw [State.code?_eq, State.code?_eq, hW'.alike.method?]
      exact Option.some.inj (hc₂.symm.trans (h1.trans h.code))
    subst hcc
    have hlen : len₂ = len := by rw [hdg] at hd₂; cases hd₂; rfl
    subst hlen
    have hs₂ : s₂ = (({ U with heap := s₂.heap, slotsUsed := s₂.slotsUsed } : State).setVm s₂.vm).setTop { g with pc := g.pc + len₂, stack := v.toList ++ g.stack } := by
      refine e3.trans ?_
      rw [hf₂, State.calling_eq h.top, State.setFrames_setFrames, State.setTop_of_frames _ hr', hr]
      rfl
    have hsame : U.sameButNew ({ U with heap := s₂.heap, slotsUsed := s₂.slotsUsed } : State) L mc ms := by
      refine ⟨?_, q2, q3, q4, q5, q6⟩
      obtain ⟨t, ht, -⟩ := State.frames_cons hr
      show ({ U with heap := s₂.heap, slotsUsed := s₂.slotsUsed } : State) = { U.setFrames U.frames with heap := s₂.heap, slotsUsed := s₂.slotsUsed }
      rw [State.setFrames_self ht]
    subst hg
    refine Or.inl ⟨v, ⟨(({ U with heap := s₂.heap, slotsUsed := s₂.slotsUsed } : State).setVm s₂.vm), Ls ++ L, c0 + mc, s0 + ms⟩,
      ⟨X.admits, X.cas, X.clock, X.frames, X.room, X.hears, X.method, X.code, (X.here.setHeapUsed s₂.heap s₂.slotsUsed).setVm hW'.alike, X.tail, State.WarmedH.trans X.warmed hW', X.limits, X.bytes, X.same.trans (hsame.setVm s.vm)⟩,
      ⟨g, mk, s₂, L, rfl, rfl, hqc, rfl, hL, rfl, rfl⟩, ?_⟩
    show Steps p.tables e below _ ((({ U with heap := s₂.heap, slotsUsed := s₂.slotsUsed } : State).setVm s₂.vm).setTop { g with pc := g.pc + len₂, stack := v.toList ++ g.stack })
    rw [← hs₂]
    exact hsteps
  · obtain ⟨e2, q2, q3, q4, q5, q6⟩ := id hsm
    have e3 : s₂ = ({ (U.calling g mk a).setFrames s₂.frames with heap := s₂.heap, slotsUsed := s₂.slotsUsed } : State).setVm s₂.vm := by
      have : s₂ = ({ s₂ with vm := (U.calling g mk a).vm } : State).setVm s₂.vm := rfl
      rw [e2] at this
      exact this
    have hf₂ : s₂.frames = .throwing q :: .java g :: U.frames.tail := hend
    have hW' : U.WarmedH s₂.vm := hW₂
    have hs₂ : s₂ = ((({ U with heap := s₂.heap, slotsUsed := s₂.slotsUsed } : State).setVm s₂.vm).setTop g).pushFrame (.throwing q) := by
      refine e3.trans ?_
      rw [hf₂, State.calling_eq h.top, State.setFrames_setFrames, State.pushFrame, State.frames_setTop _ hr', State.setTop_of_frames _ hr', State.setFrames_setFrames, hr]
      rfl
    have hsame : U.sameButNew ({ U with heap := s₂.heap, slotsUsed := s₂.slotsUsed } : State) L mc ms := by
      refine ⟨?_, q2, q3, q4, q5, q6⟩
      obtain ⟨t, ht, -⟩ := State.frames_cons hr
      show ({ U with heap := s₂.heap, slotsUsed := s₂.slotsUsed } : State) = { U.setFrames U.frames with heap := s₂.heap, slotsUsed := s₂.slotsUsed }
      rw [State.setFrames_self ht]
    subst hg
    refine Or.inr ⟨q, ⟨(({ U with heap := s₂.heap, slotsUsed := s₂.slotsUsed } : State).setVm s₂.vm), Ls ++ L, c0 + mc, s0 + ms⟩,
      ⟨X.admits, X.cas, X.clock, X.frames, X.room, X.hears, X.method, X.code, (X.here.setHeapUsed s₂.heap s₂.slotsUsed).setVm hW'.alike, X.tail, State.WarmedH.trans X.warmed hW', X.limits, X.bytes, X.same.trans (hsame.setVm s.vm)⟩,
      ⟨g, mk, s₂, L, E, ce, rfl, rfl, hx, hce, hcv, hcl, rfl, hL, rfl, rfl⟩, ?_⟩
    show Steps p.tables e below _ (((({ U with heap := s₂.heap, slotsUsed := s₂.slotsUsed } : State).setVm s₂.vm).setTop g).pushFrame (.throwing q))
    rw [← hs₂]
    exact hsteps
end
variable {p : Program} {l : Launch} {e : Env} {R : Room} {s : State} {m : MethodId} {args : Array Value} {below : List Frame} {meth : Method} {c : Code} {T : State} {H : Heap} {locs : List Loc} {cells slots : Nat}
theorem vx_callVX (X : Stand p l e R s m args below meth c T locs cells slots) (hexec : p.tables.exec = Jvm.exec) {own C : String} {index : Nat} {y : MethodName} {bytes : ByteArray} {maxL : Nat} {ret : Option FieldType} {hh : List (Nat × Nat × Nat × Nat)}
    (hown : s.vm.findClass own = some m.cls) (hlink : (Cond.methodLink own index y).before args s = true) (hinst : (Cond.instanceMethod y).before args s = true) (hsel : (Cond.selects C y y).before args s = true)
    (hcode : (Cond.codeWith y bytes maxL ret hh).before args s = true) (hy : y.cls ≠ "java/lang/invoke/MethodHandle" ∧ y.cls ≠ "java/lang/invoke/VarHandle")
    {W9 : Nat} {Pre : Pt → Array Value → Prop} {Post : Pt → Array Value → Option Value → Pt → Prop} {PostX : Pt → Array Value → Addr → Pt → Prop} (hK : vx_Back l R p e below s args y 3 W9 Pre Post PostX)
    {b : Addr} {cellB : Cell} (hcell : T.heap[b]? = some cellB) (hobj : cellB.vm.isStatics = false) (hcls : s.vm.findClass C = some cellB.cls)
    {g : JFrame} (hg : g.method = m) (hsize : g.locals.size = c.maxLocals) {argsL rest : List Value} (hlen : ∀ sig, parseMethodDescriptor y.desc = some sig → argsL.length = sig.parameters.length)
    (hstack : g.stack = argsL.reverse ++ .ref b :: rest) (hW : 2 * g.monitorRoom + (rest.map fun v => v.category).sum ≤ W9) (hdg : decode c.code g.pc = .ok (.invokevirtual index, 3))
    (hpre : ∀ vm₁, s.WarmedH vm₁ → Pre ⟨T.setVm vm₁, locs, cells, slots⟩ (Value.ref b :: argsL).toArray) :
    (∃ (v : Option Value) (vm₁ : Vm) (B : Pt), s.WarmedH vm₁ ∧ Stand p l e R s m args below meth c B.U B.locs B.cells B.slots ∧ Post ⟨T.setVm vm₁, locs, cells, slots⟩ (Value.ref b :: argsL).toArray v B ∧
      ∀ target, Steps p.tables e below (B.U.setTop { g with pc := g.pc + 3, stack := v.toList ++ rest }) target → Steps p.tables e below (T.setTop g) target) ∨
    (∃ (q : Addr) (vm₁ : Vm) (B : Pt), s.WarmedH vm₁ ∧ Stand p l e R s m args below meth c B.U B.locs B.cells B.slots ∧ PostX ⟨T.setVm vm₁, locs, cells, slots⟩ (Value.ref b :: argsL).toArray q B ∧
      Steps p.tables e below (T.setTop g) ((B.U.setTop { g with stack := rest }).pushFrame (.throwing q))) := by
  obtain ⟨mk, methM, hnamed, hmethM, hstM, habM⟩ := Cond.instanceMethod_spec hinst
  obtain ⟨m8, methM', cM, hn8, hmethM', -, -, -, -, -, -, hsigM⟩ := Cond.codeWith_spec hcode
  cases Option.some.inj (hn8.symm.trans hnamed)
  cases hmethM.symm.trans hmethM'
  obtain ⟨c2, r2, m2, q1, q2, q3, q4, kP, hkP, hkPi⟩ := Cond.selects_spec hsel
  cases hcls.symm.trans q1
  cases (State.methodFound?_of_named hnamed hy).symm.trans q2
  cases hnamed.symm.trans q3
  have hselP : selectMethod e.platform s.vm cellB.cls mk = .method mk := by rw [Launch.admits_selectMethod X.admits]; exact q4
  obtain ⟨vm₁, X₁, hstep₁⟩ := X.invokevirtual hexec hown hlink hnamed hmethM hstM hkP hkPi hy (a := b) (cell := cellB) hcell
    (fun z h => by rw [h] at hobj; cases hobj) hselP hmethM habM hkP hkPi (g := g) hg (argsL := argsL) (rest := rest) (hlen _ hsigM) hstack hdg
  rcases hK m meth c ⟨T.setVm vm₁, locs, cells, slots⟩ { g with stack := rest } (.invokevirtual index) mk (Value.ref b :: argsL).toArray X₁ hg hsize hdg hW (X₁.named hnamed) (hpre vm₁ X₁.warmed) with ⟨v, B, X', hpost, hsteps⟩ | ⟨q, B, X', hpost, hsteps⟩
  · exact Or.inl ⟨v, vm₁, B, X₁.warmed, X', hpost, fun target h => hstep₁ _ fun acts => by rw [doInvoke_state]; exact hsteps.trans h⟩
  · exact Or.inr ⟨q, vm₁, B, X₁.warmed, X', hpost, hstep₁ _ fun acts => by rw [doInvoke_state]; exact hsteps⟩
theorem vx_callSX (X : Stand p l e R s m args below meth c T locs cells slots) (hexec : p.tables.exec = Jvm.exec) {own : String} {index : Nat} {y : MethodName} {bytes : ByteArray} {maxL : Nat} {ret : Option FieldType} {hh : List (Nat × Nat × Nat × Nat)}
    (hown : s.vm.findClass own = some m.cls) (hlink : (Cond.methodLink own index y).before args s = true) (hstat : (Cond.static y).before args s = true) (hinit : (Cond.initialized y.cls).before args s = true)
    (hcode : (Cond.codeWith y bytes maxL ret hh).before args s = true) (hy : y.cls ≠ "java/lang/invoke/MethodHandle" ∧ y.cls ≠ "java/lang/invoke/VarHandle")
    {W9 : Nat} {Pre : Pt → Array Value → Prop} {Post : Pt → Array Value → Option Value → Pt → Prop} {PostX : Pt → Array Value → Addr → Pt → Prop} (hK : vx_Back l R p e below s args y 3 W9 Pre Post PostX)
    {g : JFrame} (hg : g.method = m) (hsize : g.locals.size = c.maxLocals) {argsL rest : List Value} (hlen : ∀ sig, parseMethodDescriptor y.desc = some sig → argsL.length = sig.parameters.length)
    (hstack : g.stack = argsL.reverse ++ rest) (hW : 2 * g.monitorRoom + (rest.map fun v => v.category).sum ≤ W9) (hdg : decode c.code g.pc = .ok (.invokestatic index, 3))
    (hpre : ∀ vm₁, s.WarmedH vm₁ → Pre ⟨T.setVm vm₁, locs, cells, slots⟩ argsL.toArray) :
    (∃ (v : Option Value) (vm₁ : Vm) (B : Pt), s.WarmedH vm₁ ∧ Stand p l e R s m args below meth c B.U B.locs B.cells B.slots ∧ Post ⟨T.setVm vm₁, locs, cells, slots⟩ argsL.toArray v B ∧
      ∀ target, Steps p.tables e below (B.U.setTop { g with pc := g.pc + 3, stack := v.toList ++ rest }) target → Steps p.tables e below (T.setTop g) target) ∨
    (∃ (q : Addr) (vm₁ : Vm) (B : Pt), s.WarmedH vm₁ ∧ Stand p l e R s m args below meth c B.U B.locs B.cells B.slots ∧ PostX ⟨T.setVm vm₁, locs, cells, slots⟩ argsL.toArray q B ∧
      Steps p.tables e below (T.setTop g) ((B.U.setTop { g with stack := rest }).pushFrame (.throwing q))) := by
  obtain ⟨mk, methM, cM, hnamed, hmethM, -, -, -, -, -, -, hsigM⟩ := Cond.codeWith_spec hcode
  have hstatic : methM.isStatic = true := Cond.static_spec hnamed hmethM hstat
  obtain ⟨kP, hkP, -⟩ := className_of_methodNamed hnamed
  have hinitP : kP.init = .initialized := Cond.initialized_spec (findClass_of_methodNamed hnamed) hkP hinit
  obtain ⟨vm₁, X₁, hstep₁⟩ := X.invokestatic hexec hown hlink hnamed hmethM hstatic hkP hinitP hy (g := g) hg (argsL := argsL) (rest := rest) (hlen _ hsigM) hstack hdg
  rcases hK m meth c ⟨T.setVm vm₁, locs, cells, slots⟩ { g with stack := rest } (.invokestatic index) mk argsL.toArray X₁ hg hsize hdg hW (X₁.named hnamed) (hpre vm₁ X₁.warmed) with ⟨v, B, X', hpost, hsteps⟩ | ⟨q, B, X', hpost, hsteps⟩
  · exact Or.inl ⟨v, vm₁, B, X₁.warmed, X', hpost, fun target h => hstep₁ _ fun acts => by rw [doInvoke_state]; exact hsteps.trans h⟩
  · exact Or.inr ⟨q, vm₁, B, X₁.warmed, X', hpost, hstep₁ _ fun acts => by rw [doInvoke_state]; exact hsteps⟩
theorem vx_callVW (X : Stand p l e R s m args below meth c T locs cells slots) (hexec : p.tables.exec = Jvm.exec) {own C : String} {index : Nat} {y : MethodName} {bytes : ByteArray} {maxL : Nat} {ret : Option FieldType} {hh : List (Nat × Nat × Nat × Nat)}
    (hown : s.vm.findClass own = some m.cls) (hlink : (Cond.methodLink own index y).before args s = true) (hinst : (Cond.instanceMethod y).before args s = true) (hsel : (Cond.selects C y y).before args s = true)
    (hcode : (Cond.codeWith y bytes maxL ret hh).before args s = true) (hy : y.cls ≠ "java/lang/invoke/MethodHandle" ∧ y.cls ≠ "java/lang/invoke/VarHandle")
    {W9 : Nat} {Pre : Pt → Array Value → Prop} {Post : Pt → Array Value → Option Value → Pt → Prop} (hK : Back l R p e below s args y 3 W9 Pre Post)
    {b : Addr} {cellB : Cell} (hcell : T.heap[b]? = some cellB) (hobj : cellB.vm.isStatics = false) (hcls : s.vm.findClass C = some cellB.cls)
    {g : JFrame} (hg : g.method = m) (hsize : g.locals.size = c.maxLocals) {argsL rest : List Value} (hlen : ∀ sig, parseMethodDescriptor y.desc = some sig → argsL.length = sig.parameters.length)
    (hstack : g.stack = argsL.reverse ++ .ref b :: rest) (hW : 2 * g.monitorRoom + (rest.map fun v => v.category).sum ≤ W9) (hdg : decode c.code g.pc = .ok (.invokevirtual index, 3))
    (hpre : ∀ vm₁, s.WarmedH vm₁ → Pre ⟨T.setVm vm₁, locs, cells, slots⟩ (Value.ref b :: argsL).toArray) :
    ∃ (v : Option Value) (vm₁ : Vm) (B : Pt), s.WarmedH vm₁ ∧ Stand p l e R s m args below meth c B.U B.locs B.cells B.slots ∧ Post ⟨T.setVm vm₁, locs, cells, slots⟩ (Value.ref b :: argsL).toArray v B ∧
      ∀ target, Steps p.tables e below (B.U.setTop { g with pc := g.pc + 3, stack := v.toList ++ rest }) target → Steps p.tables e below (T.setTop g) target := by
  obtain ⟨mk, methM, hnamed, hmethM, hstM, habM⟩ := Cond.instanceMethod_spec hinst
  obtain ⟨m8, methM', cM, hn8, hmethM', -, -, -, -, -, -, hsigM⟩ := Cond.codeWith_spec hcode
  cases Option.some.inj (hn8.symm.trans hnamed)
  cases hmethM.symm.trans hmethM'
  obtain ⟨c2, r2, m2, q1, q2, q3, q4, kP, hkP, hkPi⟩ := Cond.selects_spec hsel
  cases hcls.symm.trans q1
  cases (State.methodFound?_of_named hnamed hy).symm.trans q2
  cases hnamed.symm.trans q3
  have hselP : selectMethod e.platform s.vm cellB.cls mk = .method mk := by rw [Launch.admits_selectMethod X.admits]; exact q4
  obtain ⟨vm₁, X₁, hstep₁⟩ := X.invokevirtual hexec hown hlink hnamed hmethM hstM hkP hkPi hy (a := b) (cell := cellB) hcell
    (fun z h => by rw [h] at hobj; cases hobj) hselP hmethM habM hkP hkPi (g := g) hg (argsL := argsL) (rest := rest) (hlen _ hsigM) hstack hdg
  obtain ⟨v, B, X', hpost, hsteps⟩ := hK m meth c ⟨T.setVm vm₁, locs, cells, slots⟩ { g with stack := rest } (.invokevirtual index) mk (Value.ref b :: argsL).toArray X₁ hg hsize hdg hW (X₁.named hnamed) (hpre vm₁ X₁.warmed)
  exact ⟨v, vm₁, B, X₁.warmed, X', hpost, fun target h => hstep₁ _ fun acts => by rw [doInvoke_state]; exact hsteps.trans h⟩
abbrev vx_CVW (R : Room) (s : State) (args : Array Value) (own C : String) (index : Nat) (y : MethodName) (bytes : ByteArray) (maxL : Nat) (ret : Option FieldType) (hh : List (Nat × Nat × Nat × Nat)) (ws : List Cond) (rm : Room) (mc ms n : Nat) : Prop :=
  (rm.cells = mc ∧ rm.slots = ms ∧ rm.frames + 1 ≤ R.frames ∧ 8 + (maxL + 11) + rm.locals ≤ R.locals ∧ (∀ w ∈ ws, ∀ (a' : Array Value) (U : State), s.WarmedH U.vm → w.before a' U = true) ∧ Cond.codeWith y bytes maxL ret hh ∈ ws) ∧
  (Cond.codeWith y bytes maxL ret hh).before args s = true ∧ (Cond.initialized y.cls).before args s = true ∧ (y.cls ≠ "java/lang/invoke/MethodHandle" ∧ y.cls ≠ "java/lang/invoke/VarHandle") ∧
  (∀ sig, parseMethodDescriptor y.desc = some sig → n = sig.parameters.length) ∧ (Cond.methodLink own index y).before args s = true ∧ (Cond.instanceMethod y).before args s = true ∧ (Cond.selects C y y).before args s = true
theorem vx_cwVW {own C : String} {index maxL mc ms : Nat} {y : MethodName} {bytes : ByteArray} {ret : Option FieldType} {hh : List (Nat × Nat × Nat × Nat)} {Ts ws ws' : List Cond} {rm : Room} (n : Nat) (ht : ∀ w ∈ Ts, w.before args s = true) (hT : GoodIn Ts (wsV own index C y ws)) (hw : ws = Cond.codeWith y bytes maxL ret hh :: ws') (hrc : rm.cells = mc) (hrs : rm.slots = ms)
    (hd : y.cls = C ∧ y.cls ≠ "java/lang/invoke/MethodHandle" ∧ y.cls ≠ "java/lang/invoke/VarHandle" ∧ (parseMethodDescriptor y.desc).map (fun d => d.parameters.length) = some n) (hR : rm.frames + 1 ≤ R.frames ∧ 8 + (maxL + 11) + rm.locals ≤ R.locals) :
    vx_CVW R s args own C index y bytes maxL ret hh ws rm mc ms n := by
  obtain ⟨hC, hd⟩ := hd
  subst hC
  have ok : ∀ w ∈ wsV own index y.cls y ws, w.before args s = true := fun w h => ht w (hT w h).1
  have hG : GoodIn Ts ws := fun w h => hT w (by unfold wsV; exact List.mem_append_right _ h)
  have hc : Cond.codeWith y bytes maxL ret hh ∈ ws := by rw [hw]; exact List.mem_cons_self
  refine ⟨⟨hrc, hrs, hR.1, hR.2, pay_in ht hG, hc⟩, ht _ (hG _ hc).1, ok _ (by simp [wsV]), ⟨hd.1, hd.2.1⟩, fun sig h => ?_, ok _ (by simp [wsV]), ok _ (by simp [wsV]), ok _ (by simp [wsV])⟩
  have h2 := hd.2.2
  rw [h] at h2
  exact (Option.some.inj h2).symm
theorem vx_runVW {y : MethodName} {bytes cc : ByteArray} {maxL nL mc ms n index : Nat} {ret : Option FieldType} {hh : List (Nat × Nat × Nat × Nat)} {ws : List Cond} {rm : Room} {Pc : Array Value → State → Prop} {Qc : Array Value → State → Outcome → State → Prop} {free : Addr → Prop} {Ts : List Cond} {own C : String} {b : Addr} {As rest : List Value} {g : JFrame}
    (S : CallFix p m c cc nL s args Ts own) (hM : Met l y ws rm Pc Qc mc ms free) (cw : vx_CVW R s args own C index y bytes maxL ret hh ws rm mc ms n) (hp : PreV s H C b Pc As)
    (hg : g.method = m) (hn : As.length = n) (hsize : g.locals.size = nL) (hstack : g.stack = As.reverse ++ .ref b :: rest) (hW : 2 * g.monitorRoom + (rest.map fun v => v.category).sum ≤ 8) (hdg : decode cc g.pc = .ok (.invokevirtual index, 3)) (hf : cells + mc ≤ R.cells ∧ slots + ms ≤ R.slots) :
    va_Run p l e R s m args below meth c H locs cells slots mc ms g rest (Qc (Value.ref b :: As).toArray) free := by
  obtain ⟨⟨hrc, hrs, hfr, hlo, hws, hcw⟩, hcode, hini, hy, hlen, hl, hin, hse⟩ := cw
  have hK : Back l R p e below s args y 3 8 (PreOf R mc ms Pc) (PostOf Qc mc ms free) := va_backW (hh := hh) (bytes := bytes) (maxL := maxL) (ret := ret) hM hp.1 hrc hrs hfr hlo hws hcw (fun a' U hW => word_at hW (Or.inl (by first | rfl | simp [Cond.onTables, Cond.keeps, Cond.steady])) hini)
  obtain ⟨hx, hb, hml, ho, -⟩ := S
  obtain ⟨-, ⟨cellB, hcB, hoB, hclB⟩, hPc⟩ := hp
  intro T hT X
  obtain ⟨v, vm₁, ⟨U', l2, c2, s2⟩, hW₁, X', ⟨g', mk, t, L, e1, e2, hq, h1, hL, h2, h3⟩, st⟩ := vx_callVW X hx (C := C) (hh := hh) (bytes := bytes) (maxL := maxL) (ret := ret) ho hl hin hse hcode hy hK (by rw [hT]; exact hcB) hoB hclB hg (hsize.trans hml.symm) (argsL := As) (rest := rest) (fun sig h => hn.trans (hlen sig h)) hstack hW (by rw [hb]; exact hdg)
    (fun vm₁ hW₁ => ⟨hf.1, hf.2, hPc (T.setVm vm₁) hT hW₁⟩)
  dsimp only [Pt.U, Pt.locs, Pt.cells, Pt.slots] at X' e1 e2 h1 h2 h3 st
  subst h1; subst h2; subst h3
  exact ⟨v, (T.setVm vm₁).calling g' mk (Value.ref b :: As).toArray, t, U', L, hT, X', hL, e1, e2, hq, st⟩
section
variable {y : MethodName} {bytes cc : ByteArray} {maxL nL mc ms n index : Nat} {ret : Option FieldType} {ws : List Cond} {rm : Room} {Pc : Array Value → State → Prop} {Qc : Array Value → State → Outcome → State → Prop} {XC : String → State → State → Prop} {free : Addr → Prop} {Ts : List Cond} {own C : String} {b : Addr} {As rest : List Value} {g : JFrame}
theorem vx_runVX {hh : List (Nat × Nat × Nat × Nat)} (S : CallFix p m c cc nL s args Ts own) (hM : vx_Met l y ws rm Pc Qc XC mc ms free) (cw : vx_CVW R s args own C index y bytes maxL ret hh ws rm mc ms n) (hp : PreV s H C b Pc As)
    (hg : g.method = m) (hn : As.length = n) (hsize : g.locals.size = nL) (hstack : g.stack = As.reverse ++ .ref b :: rest) (hW : 2 * g.monitorRoom + (rest.map fun v => v.category).sum ≤ 8) (hdg : decode cc g.pc = .ok (.invokevirtual index, 3)) (hf : cells + mc ≤ R.cells ∧ slots + ms ≤ R.slots) :
    vx_Run p l e R s m args below meth c H locs cells slots mc ms g rest (Qc (Value.ref b :: As).toArray) XC free := by
  obtain ⟨⟨hrc, hrs, hfr, hlo, hws, hcw⟩, hcode, hini, hy, hlen, hl, hin, hse⟩ := cw
  have hK : vx_Back l R p e below s args y 3 8 (PreOf R mc ms Pc) (PostOf Qc mc ms free) (vx_Post XC mc ms free) := vx_backW (hh := hh) (bytes := bytes) (maxL := maxL) (ret := ret) hM hp.1 hrc hrs hfr hlo hws hcw (fun a' U hW => word_at hW (Or.inl (by first | rfl | simp [Cond.onTables, Cond.keeps, Cond.steady])) hini)
  obtain ⟨hx, hb, hml, ho, -⟩ := S
  obtain ⟨-, ⟨cellB, hcB, hoB, hclB⟩, hPc⟩ := hp
  intro T hT X
  rcases vx_callVX X hx (C := C) (hh := hh) (bytes := bytes) (maxL := maxL) (ret := ret) ho hl hin hse hcode hy hK (by rw [hT]; exact hcB) hoB hclB hg (hsize.trans hml.symm) (argsL := As) (rest := rest) (fun sig h => hn.trans (hlen sig h)) hstack hW (by rw [hb]; exact hdg)
    (fun vm₁ hW₁ => ⟨hf.1, hf.2, hPc (T.setVm vm₁) hT hW₁⟩) with ⟨v, vm₁, ⟨U', l2, c2, s2⟩, hW₁, X', ⟨g', mk, t, L, e1, e2, hq, h1, hL, h2, h3⟩, st⟩ | ⟨q, vm₁, ⟨U', l2, c2, s2⟩, hW₁, X', ⟨g', mk, t, L, E, ce, e1, e2, hq, hce, hcv, hcl, h1, hL, h2, h3⟩, st⟩
  · dsimp only [Pt.U, Pt.locs, Pt.cells, Pt.slots] at X' e1 e2 h1 h2 h3 st
    subst h1; subst h2; subst h3
    exact Or.inl ⟨v, (T.setVm vm₁).calling g' mk (Value.ref b :: As).toArray, t, U', L, hT, X', hL, e1, e2, hq, st⟩
  · dsimp only [Pt.U, Pt.locs, Pt.cells, Pt.slots] at X' e1 e2 h1 h2 h3 st hcl
    subst h1; subst h2; subst h3
    exact Or.inr ⟨q, (T.setVm vm₁).calling g' mk (Value.ref b :: As).toArray, t, U', L, E, ce, hT, X', hL, e1, e2, hq, hce, hcv, vx_cls hW₁ hcl, st⟩
theorem vx_runSX {hh : List (Nat × Nat × Nat × Nat)} (S : CallFix p m c cc nL s args Ts own) (hM : vx_Met l y ws rm Pc Qc XC mc ms free) (cw : vx_CSW R s args own index y bytes maxL ret hh ws rm mc ms n) (hp : PreS s H Pc As)
    (hg : g.method = m) (hn : As.length = n) (hsize : g.locals.size = nL) (hstack : g.stack = As.reverse ++ rest) (hW : 2 * g.monitorRoom + (rest.map fun v => v.category).sum ≤ 8) (hdg : decode cc g.pc = .ok (.invokestatic index, 3)) (hf : cells + mc ≤ R.cells ∧ slots + ms ≤ R.slots) :
    vx_Run p l e R s m args below meth c H locs cells slots mc ms g rest (Qc As.toArray) XC free := by
  obtain ⟨⟨hrc, hrs, hfr, hlo, hws, hcw⟩, hcode, hini, hy, hlen, hl, hstt⟩ := cw
  have hK : vx_Back l R p e below s args y 3 8 (PreOf R mc ms Pc) (PostOf Qc mc ms free) (vx_Post XC mc ms free) := vx_backW (hh := hh) (bytes := bytes) (maxL := maxL) (ret := ret) hM hp.1 hrc hrs hfr hlo hws hcw (fun a' U hW => word_at hW (Or.inl (by first | rfl | simp [Cond.onTables, Cond.keeps, Cond.steady])) hini)
  obtain ⟨hx, hb, hml, ho, -⟩ := S
  intro T hT X
  rcases vx_callSX X hx (hh := hh) (bytes := bytes) (maxL := maxL) (ret := ret) ho hl hstt hini hcode hy hK hg (hsize.trans hml.symm) (argsL := As) (rest := rest) (fun sig h => hn.trans (hlen sig h)) hstack hW (by rw [hb]; exact hdg)
    (fun vm₁ hW₁ => ⟨hf.1, hf.2, hp.2 (T.setVm vm₁) hT hW₁⟩) with ⟨v, vm₁, ⟨U', l2, c2, s2⟩, hW₁, X', ⟨g', mk, t, L, e1, e2, hq, h1, hL, h2, h3⟩, st⟩ | ⟨q, vm₁, ⟨U', l2, c2, s2⟩, hW₁, X', ⟨g', mk, t, L, E, ce, e1, e2, hq, hce, hcv, hcl, h1, hL, h2, h3⟩, st⟩
  · dsimp only [Pt.U, Pt.locs, Pt.cells, Pt.slots] at X' e1 e2 h1 h2 h3 st
    subst h1; subst h2; subst h3
    exact Or.inl ⟨v, (T.setVm vm₁).calling g' mk As.toArray, t, U', L, hT, X', hL, e1, e2, hq, st⟩
  · dsimp only [Pt.U, Pt.locs, Pt.cells, Pt.slots] at X' e1 e2 h1 h2 h3 st hcl
    subst h1; subst h2; subst h3
    exact Or.inr ⟨q, (T.setVm vm₁).calling g' mk As.toArray, t, U', L, E, ce, hT, X', hL, e1, e2, hq, hce, hcv, vx_cls hW₁ hcl, st⟩
end
end VXH
theorem vx_ofWH {l : Launch} {y : MethodName} {ws ws' : List Cond} {rm : Room} {Pc : Array Value → State → Prop} {Qc : Array Value → State → Outcome → State → Prop} {XC : String → State → State → Prop} {mc ms : Nat} {free : Addr → Prop} {cc : ByteArray} {maxL : Nat} {ret : Option FieldType} {hh : List (Nat × Nat × Nat × Nat)}
    (hy : plainName y.cls = true) (hw : ws = Cond.codeWith y cc maxL ret hh :: ws')
    (body : ∀ p e s m args below meth c s₁, BodyLoose p l y (headSpec ws rm) cc maxL ret e s m args below meth c s₁ → c.maxLocals = maxL → Pc args s →
      W p l e (headSpec ws rm).room s m args below meth c s.heap [] 0 0 (vx_MQ below Qc XC args s mc ms free) (entryFrame m args maxL)) : vx_Met l y ws rm Pc Qc XC mc ms free := by
  refine MetFree.of_bodyS (code := cc) (maxLocals := maxL) (ret := ret) hy ?_ ?_
  · intro args s m h hn
    obtain ⟨m9, meth, c, hn9, h1, h2, h3, h4, -, h5, h6, -⟩ := Cond.codeWith_spec (atoms_spec (ws := ws) h _ (by rw [hw]; exact List.mem_cons_self))
    cases hn.symm.trans hn9
    exact ⟨meth, c, h1, h2, h3, h4, h5, h6⟩
  · intro p e s m args below meth c s₁ B hml hP _
    have hh0 : s₁.heap = s.heap := by rw [B.state]; rfl
    obtain ⟨t, a1, o, b1, b2, b3⟩ := body p e s m args below meth c s₁ B hml hP s₁ hh0 (Stand.of_body B)
    exact ⟨t, o, a1, b1, b2, b3⟩
/-! ===== END ===== -/
end
section
/-! ===== BEGIN printed: names, fields, word lists, decode rows ===== -/
def RX0 : String := "CaveRelay$Cave"
def TX0 : u_T := fun k => match k with
  | 0 => ("CaveRelay$Cave", "passages", "LCaveRelay$Passages;", true)
  | 1 => ("CaveRelay$Cave", "ropes", "LCaveRelay$Ropes;", true)
  | 2 => ("CaveRelay$Cave", "helpers", "[LCaveRelay$Helper;", true)
  | 3 => ("CaveRelay$Cave", "helperCount", "I", false)
  | 4 => ("CaveRelay$Cave", "messages", "LCaveRelay$Messages;", true)
  | 5 => ("CaveRelay$Cave", "log", "LCaveRelay$Log;", true)
  | 6 => ("CaveRelay$Cave", "time", "I", false)
  | 7 => ("CaveRelay$Cave", "stretcher", "I", false)
  | 8 => ("CaveRelay$Cave", "stretcherCarried", "Z", false)
  | 9 => ("CaveRelay$Cave", "silenceFirst", "I", false)
  | 10 => ("CaveRelay$Cave", "silenceLast", "I", false)
  | _ => ("CaveRelay$Cave", "minutesLate", "I", false)
def tyX0 : Nat → FieldType := fun k => match k with
  | 0 => .object "CaveRelay$Passages"
  | 1 => .object "CaveRelay$Ropes"
  | 2 => .array (.object "CaveRelay$Helper")
  | 3 => .int
  | 4 => .object "CaveRelay$Messages"
  | 5 => .object "CaveRelay$Log"
  | 6 => .int
  | 7 => .int
  | 8 => .boolean
  | 9 => .int
  | 10 => .int
  | _ => .int
abbrev wsX00 : List Cond := u_ws RX0 TX0 12
theorem nmX0 : ∀ a, a < 12 → ∀ b, b < 12 → a ≠ b → (TX0 a).2.1 ≠ (TX0 b).2.1 := by decide +kernel
theorem tyX0_ok : ∀ k, k < 12 → parseFieldDescriptor (TX0 k).2.2.1 = some (tyX0 k) := by decide +kernel
abbrev cX0_init : ByteArray := prog_2_method_1_code
def yX0_init : MethodName := ⟨RX0, "<init>", "()V"⟩
abbrev cX0_startAnew : ByteArray := prog_2_method_2_code
def yX0_startAnew : MethodName := ⟨RX0, "startAnew", "(I)V"⟩
abbrev cX0_copyFrom : ByteArray := prog_2_method_3_code
def yX0_copyFrom : MethodName := ⟨RX0, "copyFrom", "(LCaveRelay$Cave;)V"⟩
abbrev cX0_addOne : ByteArray := prog_2_method_4_code
def yX0_addOne : MethodName := ⟨RX0, "addOne", "(I)I"⟩
abbrev cX0_isStanding : ByteArray := prog_2_method_5_code
def yX0_isStanding : MethodName := ⟨RX0, "isStanding", "(I)Z"⟩
abbrev cX0_walkersThrough : ByteArray := prog_2_method_6_code
def yX0_walkersThrough : MethodName := ⟨RX0, "walkersThrough", "(I)I"⟩
abbrev cX0_riggerOf : ByteArray := prog_2_method_7_code
def yX0_riggerOf : MethodName := ⟨RX0, "riggerOf", "(I)I"⟩
abbrev cX0_isInUse : ByteArray := prog_2_method_8_code
def yX0_isInUse : MethodName := ⟨RX0, "isInUse", "(I)Z"⟩
abbrev cX0_isInTime : ByteArray := prog_2_method_9_code
def yX0_isInTime : MethodName := ⟨RX0, "isInTime", "(LCaveRelay$Helper;II)Z"⟩
abbrev cX0_refusal : ByteArray := prog_2_method_10_code
def yX0_refusal : MethodName := ⟨RX0, "refusal", "(LCaveRelay$Helper;I)I"⟩
abbrev cX0_canWalk : ByteArray := prog_2_method_11_code
def yX0_canWalk : MethodName := ⟨RX0, "canWalk", "(II)Z"⟩
abbrev cX0_startWalk : ByteArray := prog_2_method_12_code
def yX0_startWalk : MethodName := ⟨RX0, "startWalk", "(II)I"⟩
abbrev cX0_canTake : ByteArray := prog_2_method_13_code
def yX0_canTake : MethodName := ⟨RX0, "canTake", "(II)Z"⟩
abbrev cX0_takeRope : ByteArray := prog_2_method_14_code
def yX0_takeRope : MethodName := ⟨RX0, "takeRope", "(II)V"⟩
abbrev cX0_canLay : ByteArray := prog_2_method_15_code
def yX0_canLay : MethodName := ⟨RX0, "canLay", "(I)Z"⟩
abbrev cX0_layRope : ByteArray := prog_2_method_16_code
def yX0_layRope : MethodName := ⟨RX0, "layRope", "(I)I"⟩
abbrev cX0_canRig : ByteArray := prog_2_method_17_code
def yX0_canRig : MethodName := ⟨RX0, "canRig", "(I)Z"⟩
abbrev cX0_startRig : ByteArray := prog_2_method_18_code
def yX0_startRig : MethodName := ⟨RX0, "startRig", "(I)I"⟩
abbrev cX0_canUnrig : ByteArray := prog_2_method_19_code
def yX0_canUnrig : MethodName := ⟨RX0, "canUnrig", "(I)Z"⟩
abbrev cX0_unrig : ByteArray := prog_2_method_20_code
def yX0_unrig : MethodName := ⟨RX0, "unrig", "(I)I"⟩
abbrev cX0_isTeam : ByteArray := prog_2_method_21_code
def yX0_isTeam : MethodName := ⟨RX0, "isTeam", "(I)Z"⟩
abbrev cX0_canCarry : ByteArray := prog_2_method_22_code
def yX0_canCarry : MethodName := ⟨RX0, "canCarry", "(I)Z"⟩
abbrev cX0_fitCarriers : ByteArray := prog_2_method_23_code
def yX0_fitCarriers : MethodName := ⟨RX0, "fitCarriers", "()I"⟩
abbrev cX0_startCarry : ByteArray := prog_2_method_24_code
def yX0_startCarry : MethodName := ⟨RX0, "startCarry", "(I)I"⟩
abbrev cX0_canSend : ByteArray := prog_2_method_25_code
def yX0_canSend : MethodName := ⟨RX0, "canSend", "(I)Z"⟩
abbrev cX0_sendFrom : ByteArray := prog_2_method_26_code
def yX0_sendFrom : MethodName := ⟨RX0, "sendFrom", "(I)V"⟩
abbrev cX0_canPass : ByteArray := prog_2_method_27_code
def yX0_canPass : MethodName := ⟨RX0, "canPass", "(I)Z"⟩
abbrev cX0_letPass : ByteArray := prog_2_method_28_code
def yX0_letPass : MethodName := ⟨RX0, "letPass", "(I)I"⟩
abbrev cX0_letMinutePass : ByteArray := prog_2_method_29_code
def yX0_letMinutePass : MethodName := ⟨RX0, "letMinutePass", "(I)V"⟩
abbrev cX0_walkOn : ByteArray := prog_2_method_30_code
def yX0_walkOn : MethodName := ⟨RX0, "walkOn", "(LCaveRelay$Helper;)V"⟩
abbrev cX0_rigOn : ByteArray := prog_2_method_31_code
def yX0_rigOn : MethodName := ⟨RX0, "rigOn", "(LCaveRelay$Helper;)V"⟩
abbrev cX0_wayUpOf : ByteArray := prog_2_method_32_code
def yX0_wayUpOf : MethodName := ⟨RX0, "wayUpOf", "(LCaveRelay$Helper;)I"⟩
abbrev cX0_spareOf : ByteArray := prog_2_method_33_code
def yX0_spareOf : MethodName := ⟨RX0, "spareOf", "(LCaveRelay$Helper;)I"⟩
abbrev cX0_reachOf : ByteArray := prog_2_method_34_code
def yX0_reachOf : MethodName := ⟨RX0, "reachOf", "(LCaveRelay$Helper;)I"⟩
abbrev cX0_sumOfTiredness : ByteArray := prog_2_method_35_code
def yX0_sumOfTiredness : MethodName := ⟨RX0, "sumOfTiredness", "()I"⟩
abbrev cX0_countOfBelow : ByteArray := prog_2_method_36_code
def yX0_countOfBelow : MethodName := ⟨RX0, "countOfBelow", "()I"⟩
abbrev cX0_aboutPassage : ByteArray := prog_2_method_37_code
def yX0_aboutPassage : MethodName := ⟨RX0, "aboutPassage", "(II)I"⟩
abbrev cX0_about : ByteArray := prog_2_method_38_code
def yX0_about : MethodName := ⟨RX0, "about", "(I)I"⟩
abbrev cX0_hash : ByteArray := prog_2_method_39_code
def yX0_hash : MethodName := ⟨RX0, "hash", "(J)J"⟩
def RX1 : String := "CaveRelay$Helper"
def TX1 : u_T := fun k => match k with
  | 0 => ("CaveRelay$Helper", "limit", "I", false)
  | 1 => ("CaveRelay$Helper", "station", "I", false)
  | 2 => ("CaveRelay$Helper", "deed", "I", false)
  | 3 => ("CaveRelay$Helper", "goal", "I", false)
  | 4 => ("CaveRelay$Helper", "minutesToGo", "I", false)
  | 5 => ("CaveRelay$Helper", "rope", "I", false)
  | 6 => ("CaveRelay$Helper", "tiredness", "I", false)
  | 7 => ("CaveRelay$Helper", "minutesBelow", "I", false)
  | _ => ("CaveRelay$Helper", "carrying", "Z", false)
def tyX1 : Nat → FieldType := fun k => match k with
  | 0 => .int
  | 1 => .int
  | 2 => .int
  | 3 => .int
  | 4 => .int
  | 5 => .int
  | 6 => .int
  | 7 => .int
  | _ => .boolean
abbrev wsX10 : List Cond := u_ws RX1 TX1 9
theorem nmX1 : ∀ a, a < 9 → ∀ b, b < 9 → a ≠ b → (TX1 a).2.1 ≠ (TX1 b).2.1 := by decide +kernel
theorem tyX1_ok : ∀ k, k < 9 → parseFieldDescriptor (TX1 k).2.2.1 = some (tyX1 k) := by decide +kernel
abbrev cX1_init : ByteArray := prog_3_method_1_code
def yX1_init : MethodName := ⟨RX1, "<init>", "()V"⟩
abbrev cX1_startAnew : ByteArray := prog_3_method_2_code
def yX1_startAnew : MethodName := ⟨RX1, "startAnew", "(I)V"⟩
abbrev cX1_copyFrom : ByteArray := prog_3_method_3_code
def yX1_copyFrom : MethodName := ⟨RX1, "copyFrom", "(LCaveRelay$Helper;)V"⟩
abbrev cX1_walkTo : ByteArray := prog_3_method_4_code
def yX1_walkTo : MethodName := ⟨RX1, "walkTo", "(II)V"⟩
abbrev cX1_arrive : ByteArray := prog_3_method_5_code
def yX1_arrive : MethodName := ⟨RX1, "arrive", "()V"⟩
abbrev cX1_walksThrough : ByteArray := prog_3_method_6_code
def yX1_walksThrough : MethodName := ⟨RX1, "walksThrough", "(I)Z"⟩
abbrev cX1_isBelow : ByteArray := prog_3_method_7_code
def yX1_isBelow : MethodName := ⟨RX1, "isBelow", "()Z"⟩
abbrev cX1_countBelow : ByteArray := prog_3_method_8_code
def yX1_countBelow : MethodName := ⟨RX1, "countBelow", "()Z"⟩
abbrev cX1_about : ByteArray := prog_3_method_9_code
def yX1_about : MethodName := ⟨RX1, "about", "(I)I"⟩
def RX2 : String := "CaveRelay$Log"
def TX2 : u_T := fun k => match k with
  | 0 => ("CaveRelay$Log", "times", "[I", true)
  | 1 => ("CaveRelay$Log", "stations", "[I", true)
  | 2 => ("CaveRelay$Log", "sets", "[I", true)
  | 3 => ("CaveRelay$Log", "kept", "I", false)
  | _ => ("CaveRelay$Log", "total", "I", false)
def tyX2 : Nat → FieldType := fun k => match k with
  | 0 => .array .int
  | 1 => .array .int
  | 2 => .array .int
  | 3 => .int
  | _ => .int
abbrev wsX20 : List Cond := u_ws RX2 TX2 5
theorem nmX2 : ∀ a, a < 5 → ∀ b, b < 5 → a ≠ b → (TX2 a).2.1 ≠ (TX2 b).2.1 := by decide +kernel
theorem tyX2_ok : ∀ k, k < 5 → parseFieldDescriptor (TX2 k).2.2.1 = some (tyX2 k) := by decide +kernel
abbrev cX2_init : ByteArray := prog_4_method_1_code
def yX2_init : MethodName := ⟨RX2, "<init>", "()V"⟩
abbrev cX2_copyFrom : ByteArray := prog_4_method_2_code
def yX2_copyFrom : MethodName := ⟨RX2, "copyFrom", "(LCaveRelay$Log;)V"⟩
abbrev cX2_add : ByteArray := prog_4_method_3_code
def yX2_add : MethodName := ⟨RX2, "add", "(III)V"⟩
abbrev cX2_about : ByteArray := prog_4_method_4_code
def yX2_about : MethodName := ⟨RX2, "about", "(II)I"⟩
def RX3 : String := "CaveRelay$Messages"
def TX3 : u_T := fun k => match k with
  | 0 => ("CaveRelay$Messages", "senders", "[I", true)
  | 1 => ("CaveRelay$Messages", "times", "[I", true)
  | 2 => ("CaveRelay$Messages", "stations", "[I", true)
  | 3 => ("CaveRelay$Messages", "count", "I", false)
  | _ => ("CaveRelay$Messages", "arrived", "I", false)
def tyX3 : Nat → FieldType := fun k => match k with
  | 0 => .array .int
  | 1 => .array .int
  | 2 => .array .int
  | 3 => .int
  | _ => .int
abbrev wsX30 : List Cond := u_ws RX3 TX3 5
theorem nmX3 : ∀ a, a < 5 → ∀ b, b < 5 → a ≠ b → (TX3 a).2.1 ≠ (TX3 b).2.1 := by decide +kernel
theorem tyX3_ok : ∀ k, k < 5 → parseFieldDescriptor (TX3 k).2.2.1 = some (tyX3 k) := by decide +kernel
abbrev cX3_init : ByteArray := prog_5_method_1_code
def yX3_init : MethodName := ⟨RX3, "<init>", "()V"⟩
abbrev cX3_copyFrom : ByteArray := prog_5_method_2_code
def yX3_copyFrom : MethodName := ⟨RX3, "copyFrom", "(LCaveRelay$Messages;)V"⟩
abbrev cX3_add : ByteArray := prog_5_method_3_code
def yX3_add : MethodName := ⟨RX3, "add", "(III)V"⟩
abbrev cX3_set : ByteArray := prog_5_method_4_code
def yX3_set : MethodName := ⟨RX3, "set", "(IIII)V"⟩
abbrev cX3_goUp : ByteArray := prog_5_method_5_code
def yX3_goUp : MethodName := ⟨RX3, "goUp", "()V"⟩
abbrev cX3_about : ByteArray := prog_5_method_6_code
def yX3_about : MethodName := ⟨RX3, "about", "(II)I"⟩
def RX4 : String := "CaveRelay$Passages"
def TX4 : u_T := fun k => match k with
  | 0 => ("CaveRelay$Passages", "drops", "[I", true)
  | 1 => ("CaveRelay$Passages", "minutes", "[I", true)
  | 2 => ("CaveRelay$Passages", "ropes", "[I", true)
  | _ => ("CaveRelay$Passages", "count", "I", false)
def tyX4 : Nat → FieldType := fun k => match k with
  | 0 => .array .int
  | 1 => .array .int
  | 2 => .array .int
  | _ => .int
abbrev wsX40 : List Cond := u_ws RX4 TX4 4
theorem nmX4 : ∀ a, a < 4 → ∀ b, b < 4 → a ≠ b → (TX4 a).2.1 ≠ (TX4 b).2.1 := by decide +kernel
theorem tyX4_ok : ∀ k, k < 4 → parseFieldDescriptor (TX4 k).2.2.1 = some (tyX4 k) := by decide +kernel
abbrev cX4_init : ByteArray := prog_6_method_1_code
def yX4_init : MethodName := ⟨RX4, "<init>", "()V"⟩
abbrev cX4_startAnew : ByteArray := prog_6_method_2_code
def yX4_startAnew : MethodName := ⟨RX4, "startAnew", "(I)V"⟩
abbrev cX4_copyFrom : ByteArray := prog_6_method_3_code
def yX4_copyFrom : MethodName := ⟨RX4, "copyFrom", "(LCaveRelay$Passages;)V"⟩
abbrev cX4_has : ByteArray := prog_6_method_4_code
def yX4_has : MethodName := ⟨RX4, "has", "(I)Z"⟩
abbrev cX4_dropOf : ByteArray := prog_6_method_5_code
def yX4_dropOf : MethodName := ⟨RX4, "dropOf", "(I)I"⟩
abbrev cX4_minutesOf : ByteArray := prog_6_method_6_code
def yX4_minutesOf : MethodName := ⟨RX4, "minutesOf", "(I)I"⟩
abbrev cX4_ropeOf : ByteArray := prog_6_method_7_code
def yX4_ropeOf : MethodName := ⟨RX4, "ropeOf", "(I)I"⟩
abbrev cX4_isPitch : ByteArray := prog_6_method_8_code
def yX4_isPitch : MethodName := ⟨RX4, "isPitch", "(I)Z"⟩
abbrev cX4_isOpen : ByteArray := prog_6_method_9_code
def yX4_isOpen : MethodName := ⟨RX4, "isOpen", "(I)Z"⟩
abbrev cX4_change : ByteArray := prog_6_method_10_code
def yX4_change : MethodName := ⟨RX4, "change", "(III)V"⟩
abbrev cX4_fix : ByteArray := prog_6_method_11_code
def yX4_fix : MethodName := ⟨RX4, "fix", "(II)V"⟩
abbrev cX4_wayUp : ByteArray := prog_6_method_12_code
def yX4_wayUp : MethodName := ⟨RX4, "wayUp", "(I)I"⟩
abbrev cX4_isOpenUp : ByteArray := prog_6_method_13_code
def yX4_isOpenUp : MethodName := ⟨RX4, "isOpenUp", "(I)Z"⟩
abbrev cX4_countOfClosed : ByteArray := prog_6_method_14_code
def yX4_countOfClosed : MethodName := ⟨RX4, "countOfClosed", "()I"⟩
def RX5 : String := "CaveRelay$Ropes"
def TX5 : u_T := fun k => match k with
  | 0 => ("CaveRelay$Ropes", "lengths", "[I", true)
  | 1 => ("CaveRelay$Ropes", "states", "[I", true)
  | 2 => ("CaveRelay$Ropes", "places", "[I", true)
  | _ => ("CaveRelay$Ropes", "count", "I", false)
def tyX5 : Nat → FieldType := fun k => match k with
  | 0 => .array .int
  | 1 => .array .int
  | 2 => .array .int
  | _ => .int
abbrev wsX50 : List Cond := u_ws RX5 TX5 4
theorem nmX5 : ∀ a, a < 4 → ∀ b, b < 4 → a ≠ b → (TX5 a).2.1 ≠ (TX5 b).2.1 := by decide +kernel
theorem tyX5_ok : ∀ k, k < 4 → parseFieldDescriptor (TX5 k).2.2.1 = some (tyX5 k) := by decide +kernel
abbrev cX5_init : ByteArray := prog_7_method_1_code
def yX5_init : MethodName := ⟨RX5, "<init>", "()V"⟩
abbrev cX5_copyFrom : ByteArray := prog_7_method_2_code
def yX5_copyFrom : MethodName := ⟨RX5, "copyFrom", "(LCaveRelay$Ropes;)V"⟩
abbrev cX5_addOne : ByteArray := prog_7_method_3_code
def yX5_addOne : MethodName := ⟨RX5, "addOne", "(I)I"⟩
abbrev cX5_has : ByteArray := prog_7_method_4_code
def yX5_has : MethodName := ⟨RX5, "has", "(I)Z"⟩
abbrev cX5_put : ByteArray := prog_7_method_5_code
def yX5_put : MethodName := ⟨RX5, "put", "(III)V"⟩
abbrev cX5_lengthOf : ByteArray := prog_7_method_6_code
def yX5_lengthOf : MethodName := ⟨RX5, "lengthOf", "(I)I"⟩
abbrev cX5_liesAt : ByteArray := prog_7_method_7_code
def yX5_liesAt : MethodName := ⟨RX5, "liesAt", "(II)Z"⟩
abbrev cX5_holds : ByteArray := prog_7_method_8_code
def yX5_holds : MethodName := ⟨RX5, "holds", "(II)Z"⟩
abbrev cX5_shortestFree : ByteArray := prog_7_method_9_code
def yX5_shortestFree : MethodName := ⟨RX5, "shortestFree", "(I)I"⟩
abbrev cX5_about : ByteArray := prog_7_method_10_code
def yX5_about : MethodName := ⟨RX5, "about", "(II)I"⟩
def RX6 : String := "CaveRelay$Text"
def TX6 : u_T := fun k => match k with
  | 0 => ("CaveRelay$Text", "bytes", "[I", true)
  | _ => ("CaveRelay$Text", "length", "I", false)
def tyX6 : Nat → FieldType := fun k => match k with
  | 0 => .array .int
  | _ => .int
abbrev wsX60 : List Cond := u_ws RX6 TX6 2
theorem nmX6 : ∀ a, a < 2 → ∀ b, b < 2 → a ≠ b → (TX6 a).2.1 ≠ (TX6 b).2.1 := by decide +kernel
theorem tyX6_ok : ∀ k, k < 2 → parseFieldDescriptor (TX6 k).2.2.1 = some (tyX6 k) := by decide +kernel
abbrev cX6_init : ByteArray := prog_8_method_1_code
def yX6_init : MethodName := ⟨RX6, "<init>", "()V"⟩
abbrev cX6_add : ByteArray := prog_8_method_2_code
def yX6_add : MethodName := ⟨RX6, "add", "(I)V"⟩
abbrev cX6_byteAt : ByteArray := prog_8_method_3_code
def yX6_byteAt : MethodName := ⟨RX6, "byteAt", "(I)I"⟩
abbrev cX6_digitAt : ByteArray := prog_8_method_4_code
def yX6_digitAt : MethodName := ⟨RX6, "digitAt", "(I)I"⟩
abbrev cX6_firstWrong : ByteArray := prog_8_method_5_code
def yX6_firstWrong : MethodName := ⟨RX6, "firstWrong", "()I"⟩
abbrev cX6_wrongAt : ByteArray := prog_8_method_6_code
def yX6_wrongAt : MethodName := ⟨RX6, "wrongAt", "(I)I"⟩
abbrev cX6_behindOrder : ByteArray := prog_8_method_7_code
def yX6_behindOrder : MethodName := ⟨RX6, "behindOrder", "(I)I"⟩
abbrev cX6_behindEnd : ByteArray := prog_8_method_8_code
def yX6_behindEnd : MethodName := ⟨RX6, "behindEnd", "(I)I"⟩
abbrev cX6_isUpTo : ByteArray := prog_8_method_9_code
def yX6_isUpTo : MethodName := ⟨RX6, "isUpTo", "(II)Z"⟩
abbrev cX6_behindTwoDigits : ByteArray := prog_8_method_10_code
def yX6_behindTwoDigits : MethodName := ⟨RX6, "behindTwoDigits", "(I)I"⟩
abbrev cX6_behindSet : ByteArray := prog_8_method_11_code
def yX6_behindSet : MethodName := ⟨RX6, "behindSet", "(I)I"⟩
abbrev cX6_digitsOfSet : ByteArray := prog_8_method_12_code
def yX6_digitsOfSet : MethodName := ⟨RX6, "digitsOfSet", "(I)I"⟩
abbrev cX6_setAt : ByteArray := prog_8_method_13_code
def yX6_setAt : MethodName := ⟨RX6, "setAt", "(I)I"⟩
abbrev cX6_behindNumber : ByteArray := prog_8_method_14_code
def yX6_behindNumber : MethodName := ⟨RX6, "behindNumber", "(I)I"⟩
abbrev cX6_digitsOfNumber : ByteArray := prog_8_method_15_code
def yX6_digitsOfNumber : MethodName := ⟨RX6, "digitsOfNumber", "(I)I"⟩
abbrev cX6_numberAt : ByteArray := prog_8_method_16_code
def yX6_numberAt : MethodName := ⟨RX6, "numberAt", "(I)I"⟩
def RX7 : String := "CaveRelay"
def TX7 : u_T := fun k => match k with
  | 0 => ("CaveRelay", "cave", "LCaveRelay$Cave;", true)
  | 1 => ("CaveRelay", "saved", "[LCaveRelay$Cave;", true)
  | 2 => ("CaveRelay", "savedCount", "I", false)
  | _ => ("CaveRelay", "text", "LCaveRelay$Text;", true)
def tyX7 : Nat → FieldType := fun k => match k with
  | 0 => .object "CaveRelay$Cave"
  | 1 => .array (.object "CaveRelay$Cave")
  | 2 => .int
  | _ => .object "CaveRelay$Text"
abbrev wsX70 : List Cond := u_ws RX7 TX7 4
theorem nmX7 : ∀ a, a < 4 → ∀ b, b < 4 → a ≠ b → (TX7 a).2.1 ≠ (TX7 b).2.1 := by decide +kernel
theorem tyX7_ok : ∀ k, k < 4 → parseFieldDescriptor (TX7 k).2.2.1 = some (tyX7 k) := by decide +kernel
abbrev cX7_init : ByteArray := prog_1_method_1_code
def yX7_init : MethodName := ⟨RX7, "<init>", "()V"⟩
abbrev cX7_begin : ByteArray := prog_1_method_2_code
def yX7_begin : MethodName := ⟨RX7, "begin", "(I)I"⟩
abbrev cX7_setPassage : ByteArray := prog_1_method_3_code
def yX7_setPassage : MethodName := ⟨RX7, "setPassage", "(III)I"⟩
abbrev cX7_addRope : ByteArray := prog_1_method_4_code
def yX7_addRope : MethodName := ⟨RX7, "addRope", "(I)I"⟩
abbrev cX7_addHelper : ByteArray := prog_1_method_5_code
def yX7_addHelper : MethodName := ⟨RX7, "addHelper", "(I)I"⟩
abbrev cX7_setSilence : ByteArray := prog_1_method_6_code
def yX7_setSilence : MethodName := ⟨RX7, "setSilence", "(II)I"⟩
abbrev cX7_go : ByteArray := prog_1_method_7_code
def yX7_go : MethodName := ⟨RX7, "go", "(II)I"⟩
abbrev cX7_take : ByteArray := prog_1_method_8_code
def yX7_take : MethodName := ⟨RX7, "take", "(II)I"⟩
abbrev cX7_lay : ByteArray := prog_1_method_9_code
def yX7_lay : MethodName := ⟨RX7, "lay", "(I)I"⟩
abbrev cX7_rig : ByteArray := prog_1_method_10_code
def yX7_rig : MethodName := ⟨RX7, "rig", "(I)I"⟩
abbrev cX7_takeOff : ByteArray := prog_1_method_11_code
def yX7_takeOff : MethodName := ⟨RX7, "takeOff", "(I)I"⟩
abbrev cX7_carry : ByteArray := prog_1_method_12_code
def yX7_carry : MethodName := ⟨RX7, "carry", "(I)I"⟩
abbrev cX7_send : ByteArray := prog_1_method_13_code
def yX7_send : MethodName := ⟨RX7, "send", "(I)I"⟩
abbrev cX7_pass : ByteArray := prog_1_method_14_code
def yX7_pass : MethodName := ⟨RX7, "pass", "(I)I"⟩
abbrev cX7_passage : ByteArray := prog_1_method_15_code
def yX7_passage : MethodName := ⟨RX7, "passage", "(II)I"⟩
abbrev cX7_rope : ByteArray := prog_1_method_16_code
def yX7_rope : MethodName := ⟨RX7, "rope", "(II)I"⟩
abbrev cX7_helper : ByteArray := prog_1_method_17_code
def yX7_helper : MethodName := ⟨RX7, "helper", "(II)I"⟩
abbrev cX7_value : ByteArray := prog_1_method_18_code
def yX7_value : MethodName := ⟨RX7, "value", "(I)I"⟩
abbrev cX7_message : ByteArray := prog_1_method_19_code
def yX7_message : MethodName := ⟨RX7, "message", "(II)I"⟩
abbrev cX7_carried : ByteArray := prog_1_method_20_code
def yX7_carried : MethodName := ⟨RX7, "carried", "(II)I"⟩
abbrev cX7_why : ByteArray := prog_1_method_21_code
def yX7_why : MethodName := ⟨RX7, "why", "(II)I"⟩
abbrev cX7_minutesUp : ByteArray := prog_1_method_22_code
def yX7_minutesUp : MethodName := ⟨RX7, "minutesUp", "(I)I"⟩
abbrev cX7_spare : ByteArray := prog_1_method_23_code
def yX7_spare : MethodName := ⟨RX7, "spare", "(I)I"⟩
abbrev cX7_bestRope : ByteArray := prog_1_method_24_code
def yX7_bestRope : MethodName := ⟨RX7, "bestRope", "(I)I"⟩
abbrev cX7_carryMinutes : ByteArray := prog_1_method_25_code
def yX7_carryMinutes : MethodName := ⟨RX7, "carryMinutes", "()I"⟩
abbrev cX7_team : ByteArray := prog_1_method_26_code
def yX7_team : MethodName := ⟨RX7, "team", "()I"⟩
abbrev cX7_reach : ByteArray := prog_1_method_27_code
def yX7_reach : MethodName := ⟨RX7, "reach", "(I)I"⟩
abbrev cX7_meanTiredness : ByteArray := prog_1_method_28_code
def yX7_meanTiredness : MethodName := ⟨RX7, "meanTiredness", "()D"⟩
abbrev cX7_append : ByteArray := prog_1_method_29_code
def yX7_append : MethodName := ⟨RX7, "append", "(I)I"⟩
abbrev cX7_clearText : ByteArray := prog_1_method_30_code
def yX7_clearText : MethodName := ⟨RX7, "clearText", "()I"⟩
abbrev cX7_carryOut : ByteArray := prog_1_method_31_code
def yX7_carryOut : MethodName := ⟨RX7, "carryOut", "()I"⟩
abbrev cX7_undo : ByteArray := prog_1_method_32_code
def yX7_undo : MethodName := ⟨RX7, "undo", "()I"⟩
abbrev cX7_digest : ByteArray := prog_1_method_33_code
def yX7_digest : MethodName := ⟨RX7, "digest", "()J"⟩
abbrev cX7_requireIndex : ByteArray := prog_1_method_34_code
def yX7_requireIndex : MethodName := ⟨RX7, "requireIndex", "(II)V"⟩
abbrev cX7_requireRange : ByteArray := prog_1_method_35_code
def yX7_requireRange : MethodName := ⟨RX7, "requireRange", "(III)V"⟩
abbrev cX7_requireArgument : ByteArray := prog_1_method_36_code
def yX7_requireArgument : MethodName := ⟨RX7, "requireArgument", "(Z)V"⟩
abbrev cX7_requirePossible : ByteArray := prog_1_method_37_code
def yX7_requirePossible : MethodName := ⟨RX7, "requirePossible", "(Z)V"⟩
abbrev cX7_save : ByteArray := prog_1_method_38_code
def yX7_save : MethodName := ⟨RX7, "save", "()V"⟩
abbrev cX7_dropOldest : ByteArray := prog_1_method_39_code
def yX7_dropOldest : MethodName := ⟨RX7, "dropOldest", "()V"⟩
abbrev cX7_canObey : ByteArray := prog_1_method_40_code
def yX7_canObey : MethodName := ⟨RX7, "canObey", "(I)Z"⟩
abbrev cX7_obey : ByteArray := prog_1_method_41_code
def yX7_obey : MethodName := ⟨RX7, "obey", "(I)V"⟩
def RX8 : String := "CaveRelayModel"
def TX8 : u_T := fun k => match k with
  | 0 => ("CaveRelayModel", "s", "[I", true)
  | 1 => ("CaveRelayModel", "past", "[I", true)
  | 2 => ("CaveRelayModel", "aside", "[I", true)
  | 3 => ("CaveRelayModel", "pasts", "I", false)
  | 4 => ("CaveRelayModel", "text", "[I", true)
  | 5 => ("CaveRelayModel", "typed", "I", false)
  | 6 => ("CaveRelayModel", "thrown", "I", false)
  | 7 => ("CaveRelayModel", "answer", "I", false)
  | 8 => ("CaveRelayModel", "spot", "I", false)
  | 9 => ("CaveRelayModel", "order", "I", false)
  | 10 => ("CaveRelayModel", "one", "I", false)
  | 11 => ("CaveRelayModel", "other", "I", false)
  | _ => ("CaveRelayModel", "h", "J", false)
def tyX8 : Nat → FieldType := fun k => match k with
  | 0 => .array .int
  | 1 => .array .int
  | 2 => .array .int
  | 3 => .int
  | 4 => .array .int
  | 5 => .int
  | 6 => .int
  | 7 => .int
  | 8 => .int
  | 9 => .int
  | 10 => .int
  | 11 => .int
  | _ => .long
abbrev wsX80 : List Cond := u_ws RX8 TX8 13
theorem nmX8 : ∀ a, a < 13 → ∀ b, b < 13 → a ≠ b → (TX8 a).2.1 ≠ (TX8 b).2.1 := by decide +kernel
theorem tyX8_ok : ∀ k, k < 13 → parseFieldDescriptor (TX8 k).2.2.1 = some (tyX8 k) := by decide +kernel
abbrev cX8_init : ByteArray := prog_10_method_1_code
def yX8_init : MethodName := ⟨RX8, "<init>", "()V"⟩
abbrev cX8_thrown : ByteArray := prog_10_method_2_code
def yX8_thrown : MethodName := ⟨RX8, "thrown", "()I"⟩
abbrev cX8_in : ByteArray := prog_10_method_3_code
def yX8_in : MethodName := ⟨RX8, "in", "(III)Z"⟩
abbrev cX8_fails : ByteArray := prog_10_method_4_code
def yX8_fails : MethodName := ⟨RX8, "fails", "(I)I"⟩
abbrev cX8_tells : ByteArray := prog_10_method_5_code
def yX8_tells : MethodName := ⟨RX8, "tells", "(I)I"⟩
abbrev cX8_hold : ByteArray := prog_10_method_6_code
def yX8_hold : MethodName := ⟨RX8, "hold", "()V"⟩
abbrev cX8_ends : ByteArray := prog_10_method_7_code
def yX8_ends : MethodName := ⟨RX8, "ends", "(I)I"⟩
abbrev cX8_begins : ByteArray := prog_10_method_8_code
def yX8_begins : MethodName := ⟨RX8, "begins", "(I)V"⟩
abbrev cX8_isPassage : ByteArray := prog_10_method_9_code
def yX8_isPassage : MethodName := ⟨RX8, "isPassage", "(I)Z"⟩
abbrev cX8_isRope : ByteArray := prog_10_method_10_code
def yX8_isRope : MethodName := ⟨RX8, "isRope", "(I)Z"⟩
abbrev cX8_isHelper : ByteArray := prog_10_method_11_code
def yX8_isHelper : MethodName := ⟨RX8, "isHelper", "(I)Z"⟩
abbrev cX8_of : ByteArray := prog_10_method_12_code
def yX8_of : MethodName := ⟨RX8, "of", "(II)I"⟩
abbrev cX8_lays : ByteArray := prog_10_method_13_code
def yX8_lays : MethodName := ⟨RX8, "lays", "(III)V"⟩
abbrev cX8_isShut : ByteArray := prog_10_method_14_code
def yX8_isShut : MethodName := ⟨RX8, "isShut", "(I)Z"⟩
abbrev cX8_stands : ByteArray := prog_10_method_15_code
def yX8_stands : MethodName := ⟨RX8, "stands", "(I)Z"⟩
abbrev cX8_isBelow : ByteArray := prog_10_method_16_code
def yX8_isBelow : MethodName := ⟨RX8, "isBelow", "(I)Z"⟩
abbrev cX8_passageOf : ByteArray := prog_10_method_17_code
def yX8_passageOf : MethodName := ⟨RX8, "passageOf", "(I)I"⟩
abbrev cX8_walkers : ByteArray := prog_10_method_18_code
def yX8_walkers : MethodName := ⟨RX8, "walkers", "(I)I"⟩
abbrev cX8_rigger : ByteArray := prog_10_method_19_code
def yX8_rigger : MethodName := ⟨RX8, "rigger", "(I)I"⟩
abbrev cX8_upFrom : ByteArray := prog_10_method_20_code
def yX8_upFrom : MethodName := ⟨RX8, "upFrom", "(I)I"⟩
abbrev cX8_isShutAbove : ByteArray := prog_10_method_21_code
def yX8_isShutAbove : MethodName := ⟨RX8, "isShutAbove", "(I)Z"⟩
abbrev cX8_isInTime : ByteArray := prog_10_method_22_code
def yX8_isInTime : MethodName := ⟨RX8, "isInTime", "(III)Z"⟩
abbrev cX8_begin : ByteArray := prog_10_method_23_code
def yX8_begin : MethodName := ⟨RX8, "begin", "(I)I"⟩
abbrev cX8_setPassage : ByteArray := prog_10_method_24_code
def yX8_setPassage : MethodName := ⟨RX8, "setPassage", "(III)I"⟩
abbrev cX8_addRope : ByteArray := prog_10_method_25_code
def yX8_addRope : MethodName := ⟨RX8, "addRope", "(I)I"⟩
abbrev cX8_addHelper : ByteArray := prog_10_method_26_code
def yX8_addHelper : MethodName := ⟨RX8, "addHelper", "(I)I"⟩
abbrev cX8_setSilence : ByteArray := prog_10_method_27_code
def yX8_setSilence : MethodName := ⟨RX8, "setSilence", "(II)I"⟩
abbrev cX8_effort : ByteArray := prog_10_method_28_code
def yX8_effort : MethodName := ⟨RX8, "effort", "(IZ)I"⟩
abbrev cX8_reason : ByteArray := prog_10_method_29_code
def yX8_reason : MethodName := ⟨RX8, "reason", "(II)I"⟩
abbrev cX8_walks : ByteArray := prog_10_method_30_code
def yX8_walks : MethodName := ⟨RX8, "walks", "(IIII)V"⟩
abbrev cX8_sets : ByteArray := prog_10_method_31_code
def yX8_sets : MethodName := ⟨RX8, "sets", "(II)V"⟩
abbrev cX8_goes : ByteArray := prog_10_method_32_code
def yX8_goes : MethodName := ⟨RX8, "goes", "(II)I"⟩
abbrev cX8_takes : ByteArray := prog_10_method_33_code
def yX8_takes : MethodName := ⟨RX8, "takes", "(II)I"⟩
abbrev cX8_gives : ByteArray := prog_10_method_34_code
def yX8_gives : MethodName := ⟨RX8, "gives", "(II)V"⟩
abbrev cX8_leaves : ByteArray := prog_10_method_35_code
def yX8_leaves : MethodName := ⟨RX8, "leaves", "(III)V"⟩
abbrev cX8_holdsAt : ByteArray := prog_10_method_36_code
def yX8_holdsAt : MethodName := ⟨RX8, "holdsAt", "(II)Z"⟩
abbrev cX8_rigsAt : ByteArray := prog_10_method_37_code
def yX8_rigsAt : MethodName := ⟨RX8, "rigsAt", "(I)I"⟩
abbrev cX8_canCarry : ByteArray := prog_10_method_38_code
def yX8_canCarry : MethodName := ⟨RX8, "canCarry", "(I)Z"⟩
abbrev cX8_isCarryable : ByteArray := prog_10_method_39_code
def yX8_isCarryable : MethodName := ⟨RX8, "isCarryable", "()Z"⟩
abbrev cX8_ones : ByteArray := prog_10_method_40_code
def yX8_ones : MethodName := ⟨RX8, "ones", "(I)I"⟩
abbrev cX8_carries : ByteArray := prog_10_method_41_code
def yX8_carries : MethodName := ⟨RX8, "carries", "(I)I"⟩
abbrev cX8_sends : ByteArray := prog_10_method_42_code
def yX8_sends : MethodName := ⟨RX8, "sends", "(I)I"⟩
abbrev cX8_arrives : ByteArray := prog_10_method_43_code
def yX8_arrives : MethodName := ⟨RX8, "arrives", "(I)V"⟩
abbrev cX8_hasRigged : ByteArray := prog_10_method_44_code
def yX8_hasRigged : MethodName := ⟨RX8, "hasRigged", "(I)V"⟩
abbrev cX8_minuteOf : ByteArray := prog_10_method_45_code
def yX8_minuteOf : MethodName := ⟨RX8, "minuteOf", "(I)V"⟩
abbrev cX8_minute : ByteArray := prog_10_method_46_code
def yX8_minute : MethodName := ⟨RX8, "minute", "()I"⟩
abbrev cX8_passes : ByteArray := prog_10_method_47_code
def yX8_passes : MethodName := ⟨RX8, "passes", "(I)I"⟩
abbrev cX8_done : ByteArray := prog_10_method_48_code
def yX8_done : MethodName := ⟨RX8, "done", "(I)I"⟩
abbrev cX8_go : ByteArray := prog_10_method_49_code
def yX8_go : MethodName := ⟨RX8, "go", "(II)I"⟩
abbrev cX8_take : ByteArray := prog_10_method_50_code
def yX8_take : MethodName := ⟨RX8, "take", "(II)I"⟩
abbrev cX8_lay : ByteArray := prog_10_method_51_code
def yX8_lay : MethodName := ⟨RX8, "lay", "(I)I"⟩
abbrev cX8_rig : ByteArray := prog_10_method_52_code
def yX8_rig : MethodName := ⟨RX8, "rig", "(I)I"⟩
abbrev cX8_takeOff : ByteArray := prog_10_method_53_code
def yX8_takeOff : MethodName := ⟨RX8, "takeOff", "(I)I"⟩
abbrev cX8_carry : ByteArray := prog_10_method_54_code
def yX8_carry : MethodName := ⟨RX8, "carry", "(I)I"⟩
abbrev cX8_send : ByteArray := prog_10_method_55_code
def yX8_send : MethodName := ⟨RX8, "send", "(I)I"⟩
abbrev cX8_pass : ByteArray := prog_10_method_56_code
def yX8_pass : MethodName := ⟨RX8, "pass", "(I)I"⟩
abbrev cX8_passageFact : ByteArray := prog_10_method_57_code
def yX8_passageFact : MethodName := ⟨RX8, "passageFact", "(II)I"⟩
abbrev cX8_passage : ByteArray := prog_10_method_58_code
def yX8_passage : MethodName := ⟨RX8, "passage", "(II)I"⟩
abbrev cX8_rope : ByteArray := prog_10_method_59_code
def yX8_rope : MethodName := ⟨RX8, "rope", "(II)I"⟩
abbrev cX8_helper : ByteArray := prog_10_method_60_code
def yX8_helper : MethodName := ⟨RX8, "helper", "(II)I"⟩
abbrev cX8_below : ByteArray := prog_10_method_61_code
def yX8_below : MethodName := ⟨RX8, "below", "()I"⟩
abbrev cX8_shut : ByteArray := prog_10_method_62_code
def yX8_shut : MethodName := ⟨RX8, "shut", "()I"⟩
abbrev cX8_valueOf : ByteArray := prog_10_method_63_code
def yX8_valueOf : MethodName := ⟨RX8, "valueOf", "(I)I"⟩
abbrev cX8_value : ByteArray := prog_10_method_64_code
def yX8_value : MethodName := ⟨RX8, "value", "(I)I"⟩
abbrev cX8_message : ByteArray := prog_10_method_65_code
def yX8_message : MethodName := ⟨RX8, "message", "(II)I"⟩
abbrev cX8_carried : ByteArray := prog_10_method_66_code
def yX8_carried : MethodName := ⟨RX8, "carried", "(II)I"⟩
abbrev cX8_why : ByteArray := prog_10_method_67_code
def yX8_why : MethodName := ⟨RX8, "why", "(II)I"⟩
abbrev cX8_timeUp : ByteArray := prog_10_method_68_code
def yX8_timeUp : MethodName := ⟨RX8, "timeUp", "(I)I"⟩
abbrev cX8_minutesUp : ByteArray := prog_10_method_69_code
def yX8_minutesUp : MethodName := ⟨RX8, "minutesUp", "(I)I"⟩
abbrev cX8_spare : ByteArray := prog_10_method_70_code
def yX8_spare : MethodName := ⟨RX8, "spare", "(I)I"⟩
abbrev cX8_bestRope : ByteArray := prog_10_method_71_code
def yX8_bestRope : MethodName := ⟨RX8, "bestRope", "(I)I"⟩
abbrev cX8_carryMinutes : ByteArray := prog_10_method_72_code
def yX8_carryMinutes : MethodName := ⟨RX8, "carryMinutes", "()I"⟩
abbrev cX8_team : ByteArray := prog_10_method_73_code
def yX8_team : MethodName := ⟨RX8, "team", "()I"⟩
abbrev cX8_reach : ByteArray := prog_10_method_74_code
def yX8_reach : MethodName := ⟨RX8, "reach", "(I)I"⟩
abbrev cX8_meanTiredness : ByteArray := prog_10_method_75_code
def yX8_meanTiredness : MethodName := ⟨RX8, "meanTiredness", "()D"⟩
abbrev cX8_append : ByteArray := prog_10_method_76_code
def yX8_append : MethodName := ⟨RX8, "append", "(I)I"⟩
abbrev cX8_clearText : ByteArray := prog_10_method_77_code
def yX8_clearText : MethodName := ⟨RX8, "clearText", "()I"⟩
abbrev cX8_digit : ByteArray := prog_10_method_78_code
def yX8_digit : MethodName := ⟨RX8, "digit", "(I)I"⟩
abbrev cX8_readsMinutes : ByteArray := prog_10_method_79_code
def yX8_readsMinutes : MethodName := ⟨RX8, "readsMinutes", "()Z"⟩
abbrev cX8_readsTeam : ByteArray := prog_10_method_80_code
def yX8_readsTeam : MethodName := ⟨RX8, "readsTeam", "()Z"⟩
abbrev cX8_readsRest : ByteArray := prog_10_method_81_code
def yX8_readsRest : MethodName := ⟨RX8, "readsRest", "()Z"⟩
abbrev cX8_readsOrder : ByteArray := prog_10_method_82_code
def yX8_readsOrder : MethodName := ⟨RX8, "readsOrder", "()Z"⟩
abbrev cX8_faultAt : ByteArray := prog_10_method_83_code
def yX8_faultAt : MethodName := ⟨RX8, "faultAt", "()I"⟩
abbrev cX8_does : ByteArray := prog_10_method_84_code
def yX8_does : MethodName := ⟨RX8, "does", "()I"⟩
abbrev cX8_carryOut : ByteArray := prog_10_method_85_code
def yX8_carryOut : MethodName := ⟨RX8, "carryOut", "()I"⟩
abbrev cX8_undo : ByteArray := prog_10_method_86_code
def yX8_undo : MethodName := ⟨RX8, "undo", "()I"⟩
abbrev cX8_mix : ByteArray := prog_10_method_87_code
def yX8_mix : MethodName := ⟨RX8, "mix", "(I)V"⟩
abbrev cX8_digest : ByteArray := prog_10_method_88_code
def yX8_digest : MethodName := ⟨RX8, "digest", "()J"⟩
def RJx8e188 : String := "java/lang/Cloneable"
def TJx8e188 : u_T := fun k => match k with
  | _ => ("", "", "", false)
def tyJx8e188 : Nat → FieldType := fun k => match k with
  | _ => .int
abbrev wsJx8e1880 : List Cond := u_ws RJx8e188 TJx8e188 0
theorem nmJx8e188 : ∀ a, a < 0 → ∀ b, b < 0 → a ≠ b → (TJx8e188 a).2.1 ≠ (TJx8e188 b).2.1 := by decide +kernel
theorem tyJx8e188_ok : ∀ k, k < 0 → parseFieldDescriptor (TJx8e188 k).2.2.1 = some (tyJx8e188 k) := by decide +kernel
def RJ6 : String := "java/lang/Integer"
def TJ6 : u_T := fun k => match k with
  | _ => ("", "", "", false)
def tyJ6 : Nat → FieldType := fun k => match k with
  | _ => .int
abbrev wsJ60 : List Cond := u_ws RJ6 TJ6 0
theorem nmJ6 : ∀ a, a < 0 → ∀ b, b < 0 → a ≠ b → (TJ6 a).2.1 ≠ (TJ6 b).2.1 := by decide +kernel
theorem tyJ6_ok : ∀ k, k < 0 → parseFieldDescriptor (TJ6 k).2.2.1 = some (tyJ6 k) := by decide +kernel
abbrev cJ6_bitCount_0f7a4 : ByteArray := prog_16_method_49_code
def yJ6_bitCount_0f7a4 : MethodName := ⟨RJ6, "bitCount", "(I)I"⟩
def RJ9 : String := "java/lang/Math"
def TJ9 : u_T := fun k => match k with
  | _ => ("", "", "", false)
def tyJ9 : Nat → FieldType := fun k => match k with
  | _ => .int
abbrev wsJ90 : List Cond := u_ws RJ9 TJ9 0
theorem nmJ9 : ∀ a, a < 0 → ∀ b, b < 0 → a ≠ b → (TJ9 a).2.1 ≠ (TJ9 b).2.1 := by decide +kernel
theorem tyJ9_ok : ∀ k, k < 0 → parseFieldDescriptor (TJ9 k).2.2.1 = some (tyJ9 k) := by decide +kernel
abbrev cJ9_max_7cf53 : ByteArray := prog_17_method_65_code
def yJ9_max_7cf53 : MethodName := ⟨RJ9, "max", "(II)I"⟩
abbrev cJ9_min_7cf53 : ByteArray := prog_17_method_69_code
def yJ9_min_7cf53 : MethodName := ⟨RJ9, "min", "(II)I"⟩
def RJ0 : String := "java/lang/String"
def TJ0 : u_T := fun k => match k with
  | _ => ("", "", "", false)
def tyJ0 : Nat → FieldType := fun k => match k with
  | _ => .int
abbrev wsJ00 : List Cond := u_ws RJ0 TJ0 0
theorem nmJ0 : ∀ a, a < 0 → ∀ b, b < 0 → a ≠ b → (TJ0 a).2.1 ≠ (TJ0 b).2.1 := by decide +kernel
theorem tyJ0_ok : ∀ k, k < 0 → parseFieldDescriptor (TJ0 k).2.2.1 = some (tyJ0 k) := by decide +kernel
def RL : String := "CaveRelayLaw"
abbrev cL_begin : ByteArray := method_3_code
def yL_begin : MethodName := ⟨RL, "begin", "(LCaveRelay;I[J)I"⟩
abbrev cL_setPassage : ByteArray := method_4_code
def yL_setPassage : MethodName := ⟨RL, "setPassage", "(LCaveRelay;III[J)I"⟩
abbrev cL_addRope : ByteArray := method_5_code
def yL_addRope : MethodName := ⟨RL, "addRope", "(LCaveRelay;I[J)I"⟩
abbrev cL_addHelper : ByteArray := method_6_code
def yL_addHelper : MethodName := ⟨RL, "addHelper", "(LCaveRelay;I[J)I"⟩
abbrev cL_setSilence : ByteArray := method_7_code
def yL_setSilence : MethodName := ⟨RL, "setSilence", "(LCaveRelay;II[J)I"⟩
abbrev cL_go : ByteArray := method_8_code
def yL_go : MethodName := ⟨RL, "go", "(LCaveRelay;II[J)I"⟩
abbrev cL_take : ByteArray := method_9_code
def yL_take : MethodName := ⟨RL, "take", "(LCaveRelay;II[J)I"⟩
abbrev cL_lay : ByteArray := method_10_code
def yL_lay : MethodName := ⟨RL, "lay", "(LCaveRelay;I[J)I"⟩
abbrev cL_rig : ByteArray := method_11_code
def yL_rig : MethodName := ⟨RL, "rig", "(LCaveRelay;I[J)I"⟩
abbrev cL_takeOff : ByteArray := method_12_code
def yL_takeOff : MethodName := ⟨RL, "takeOff", "(LCaveRelay;I[J)I"⟩
abbrev cL_carry : ByteArray := method_13_code
def yL_carry : MethodName := ⟨RL, "carry", "(LCaveRelay;I[J)I"⟩
abbrev cL_send : ByteArray := method_14_code
def yL_send : MethodName := ⟨RL, "send", "(LCaveRelay;I[J)I"⟩
abbrev cL_pass : ByteArray := method_15_code
def yL_pass : MethodName := ⟨RL, "pass", "(LCaveRelay;I[J)I"⟩
abbrev cL_passage : ByteArray := method_16_code
def yL_passage : MethodName := ⟨RL, "passage", "(LCaveRelay;II[J)I"⟩
abbrev cL_rope : ByteArray := method_17_code
def yL_rope : MethodName := ⟨RL, "rope", "(LCaveRelay;II[J)I"⟩
abbrev cL_helper : ByteArray := method_18_code
def yL_helper : MethodName := ⟨RL, "helper", "(LCaveRelay;II[J)I"⟩
abbrev cL_value : ByteArray := method_19_code
def yL_value : MethodName := ⟨RL, "value", "(LCaveRelay;I[J)I"⟩
abbrev cL_message : ByteArray := method_20_code
def yL_message : MethodName := ⟨RL, "message", "(LCaveRelay;II[J)I"⟩
abbrev cL_carried : ByteArray := method_21_code
def yL_carried : MethodName := ⟨RL, "carried", "(LCaveRelay;II[J)I"⟩
abbrev cL_why : ByteArray := method_22_code
def yL_why : MethodName := ⟨RL, "why", "(LCaveRelay;II[J)I"⟩
abbrev cL_minutesUp : ByteArray := method_23_code
def yL_minutesUp : MethodName := ⟨RL, "minutesUp", "(LCaveRelay;I[J)I"⟩
abbrev cL_spare : ByteArray := method_24_code
def yL_spare : MethodName := ⟨RL, "spare", "(LCaveRelay;I[J)I"⟩
abbrev cL_bestRope : ByteArray := method_25_code
def yL_bestRope : MethodName := ⟨RL, "bestRope", "(LCaveRelay;I[J)I"⟩
abbrev cL_reach : ByteArray := method_26_code
def yL_reach : MethodName := ⟨RL, "reach", "(LCaveRelay;I[J)I"⟩
abbrev cL_append : ByteArray := method_27_code
def yL_append : MethodName := ⟨RL, "append", "(LCaveRelay;I[J)I"⟩
abbrev cL_undo : ByteArray := method_28_code
def yL_undo : MethodName := ⟨RL, "undo", "(LCaveRelay;[J)I"⟩
abbrev cL_law : ByteArray := code
def yL_law : MethodName := ⟨RL, "law", "([I)Z"⟩
end
section
abbrev vwCl : List vw_C := [(RX0, TX0, 12), (RX1, TX1, 9), (RX2, TX2, 5), (RX3, TX3, 5), (RX4, TX4, 4), (RX5, TX5, 4), (RX6, TX6, 2), (RX7, TX7, 4), (RX8, TX8, 13)]
theorem dJ6_bitCount_0f7a4_0 : decode cJ6_bitCount_0f7a4 0 = .ok (.iload_n 0, 1) := by decide +kernel
theorem dJ6_bitCount_0f7a4_1 : decode cJ6_bitCount_0f7a4 1 = .ok (.iload_n 0, 1) := by decide +kernel
theorem dJ6_bitCount_0f7a4_2 : decode cJ6_bitCount_0f7a4 2 = .ok (.iconst 1, 1) := by decide +kernel
theorem dJ6_bitCount_0f7a4_3 : decode cJ6_bitCount_0f7a4 3 = .ok (.iushr, 1) := by decide +kernel
theorem dJ6_bitCount_0f7a4_4 : decode cJ6_bitCount_0f7a4 4 = .ok (.ldc_w 265, 3) := by decide +kernel
theorem dJ6_bitCount_0f7a4_7 : decode cJ6_bitCount_0f7a4 7 = .ok (.iand, 1) := by decide +kernel
theorem dJ6_bitCount_0f7a4_8 : decode cJ6_bitCount_0f7a4 8 = .ok (.isub, 1) := by decide +kernel
theorem dJ6_bitCount_0f7a4_9 : decode cJ6_bitCount_0f7a4 9 = .ok (.istore_n 0, 1) := by decide +kernel
theorem dJ6_bitCount_0f7a4_10 : decode cJ6_bitCount_0f7a4 10 = .ok (.iload_n 0, 1) := by decide +kernel
theorem dJ6_bitCount_0f7a4_11 : decode cJ6_bitCount_0f7a4 11 = .ok (.ldc_w 266, 3) := by decide +kernel
theorem dJ6_bitCount_0f7a4_14 : decode cJ6_bitCount_0f7a4 14 = .ok (.iand, 1) := by decide +kernel
theorem dJ6_bitCount_0f7a4_15 : decode cJ6_bitCount_0f7a4 15 = .ok (.iload_n 0, 1) := by decide +kernel
theorem dJ6_bitCount_0f7a4_16 : decode cJ6_bitCount_0f7a4 16 = .ok (.iconst 2, 1) := by decide +kernel
theorem dJ6_bitCount_0f7a4_17 : decode cJ6_bitCount_0f7a4 17 = .ok (.iushr, 1) := by decide +kernel
theorem dJ6_bitCount_0f7a4_18 : decode cJ6_bitCount_0f7a4 18 = .ok (.ldc_w 266, 3) := by decide +kernel
theorem dJ6_bitCount_0f7a4_21 : decode cJ6_bitCount_0f7a4 21 = .ok (.iand, 1) := by decide +kernel
theorem dJ6_bitCount_0f7a4_22 : decode cJ6_bitCount_0f7a4 22 = .ok (.iadd, 1) := by decide +kernel
theorem dJ6_bitCount_0f7a4_23 : decode cJ6_bitCount_0f7a4 23 = .ok (.istore_n 0, 1) := by decide +kernel
theorem dJ6_bitCount_0f7a4_24 : decode cJ6_bitCount_0f7a4 24 = .ok (.iload_n 0, 1) := by decide +kernel
theorem dJ6_bitCount_0f7a4_25 : decode cJ6_bitCount_0f7a4 25 = .ok (.iload_n 0, 1) := by decide +kernel
theorem dJ6_bitCount_0f7a4_26 : decode cJ6_bitCount_0f7a4 26 = .ok (.iconst 4, 1) := by decide +kernel
theorem dJ6_bitCount_0f7a4_27 : decode cJ6_bitCount_0f7a4 27 = .ok (.iushr, 1) := by decide +kernel
theorem dJ6_bitCount_0f7a4_28 : decode cJ6_bitCount_0f7a4 28 = .ok (.iadd, 1) := by decide +kernel
theorem dJ6_bitCount_0f7a4_29 : decode cJ6_bitCount_0f7a4 29 = .ok (.ldc_w 267, 3) := by decide +kernel
theorem dJ6_bitCount_0f7a4_32 : decode cJ6_bitCount_0f7a4 32 = .ok (.iand, 1) := by decide +kernel
theorem dJ6_bitCount_0f7a4_33 : decode cJ6_bitCount_0f7a4 33 = .ok (.istore_n 0, 1) := by decide +kernel
theorem dJ6_bitCount_0f7a4_34 : decode cJ6_bitCount_0f7a4 34 = .ok (.iload_n 0, 1) := by decide +kernel
theorem dJ6_bitCount_0f7a4_35 : decode cJ6_bitCount_0f7a4 35 = .ok (.iload_n 0, 1) := by decide +kernel
theorem dJ6_bitCount_0f7a4_36 : decode cJ6_bitCount_0f7a4 36 = .ok (.bipush 8, 2) := by decide +kernel
theorem dJ6_bitCount_0f7a4_38 : decode cJ6_bitCount_0f7a4 38 = .ok (.iushr, 1) := by decide +kernel
theorem dJ6_bitCount_0f7a4_39 : decode cJ6_bitCount_0f7a4 39 = .ok (.iadd, 1) := by decide +kernel
theorem dJ6_bitCount_0f7a4_40 : decode cJ6_bitCount_0f7a4 40 = .ok (.istore_n 0, 1) := by decide +kernel
theorem dJ6_bitCount_0f7a4_41 : decode cJ6_bitCount_0f7a4 41 = .ok (.iload_n 0, 1) := by decide +kernel
theorem dJ6_bitCount_0f7a4_42 : decode cJ6_bitCount_0f7a4 42 = .ok (.iload_n 0, 1) := by decide +kernel
theorem dJ6_bitCount_0f7a4_43 : decode cJ6_bitCount_0f7a4 43 = .ok (.bipush 16, 2) := by decide +kernel
theorem dJ6_bitCount_0f7a4_45 : decode cJ6_bitCount_0f7a4 45 = .ok (.iushr, 1) := by decide +kernel
theorem dJ6_bitCount_0f7a4_46 : decode cJ6_bitCount_0f7a4 46 = .ok (.iadd, 1) := by decide +kernel
theorem dJ6_bitCount_0f7a4_47 : decode cJ6_bitCount_0f7a4 47 = .ok (.istore_n 0, 1) := by decide +kernel
theorem dJ6_bitCount_0f7a4_48 : decode cJ6_bitCount_0f7a4 48 = .ok (.iload_n 0, 1) := by decide +kernel
theorem dJ6_bitCount_0f7a4_49 : decode cJ6_bitCount_0f7a4 49 = .ok (.bipush 63, 2) := by decide +kernel
theorem dJ6_bitCount_0f7a4_51 : decode cJ6_bitCount_0f7a4 51 = .ok (.iand, 1) := by decide +kernel
theorem dJ6_bitCount_0f7a4_52 : decode cJ6_bitCount_0f7a4 52 = .ok (.ireturn, 1) := by decide +kernel
end
section
theorem dJ9_max_7cf53_0 : decode cJ9_max_7cf53 0 = .ok (.iload_n 0, 1) := by decide +kernel
theorem dJ9_max_7cf53_1 : decode cJ9_max_7cf53 1 = .ok (.iload_n 1, 1) := by decide +kernel
theorem dJ9_max_7cf53_2 : decode cJ9_max_7cf53 2 = .ok (.if_icmp .lt 7, 3) := by decide +kernel
theorem dJ9_max_7cf53_5 : decode cJ9_max_7cf53 5 = .ok (.iload_n 0, 1) := by decide +kernel
theorem dJ9_max_7cf53_6 : decode cJ9_max_7cf53 6 = .ok (.goto 4, 3) := by decide +kernel
theorem dJ9_max_7cf53_9 : decode cJ9_max_7cf53 9 = .ok (.iload_n 1, 1) := by decide +kernel
theorem dJ9_max_7cf53_10 : decode cJ9_max_7cf53 10 = .ok (.ireturn, 1) := by decide +kernel
theorem dJ9_min_7cf53_0 : decode cJ9_min_7cf53 0 = .ok (.iload_n 0, 1) := by decide +kernel
theorem dJ9_min_7cf53_1 : decode cJ9_min_7cf53 1 = .ok (.iload_n 1, 1) := by decide +kernel
theorem dJ9_min_7cf53_2 : decode cJ9_min_7cf53 2 = .ok (.if_icmp .gt 7, 3) := by decide +kernel
theorem dJ9_min_7cf53_5 : decode cJ9_min_7cf53 5 = .ok (.iload_n 0, 1) := by decide +kernel
theorem dJ9_min_7cf53_6 : decode cJ9_min_7cf53 6 = .ok (.goto 4, 3) := by decide +kernel
theorem dJ9_min_7cf53_9 : decode cJ9_min_7cf53 9 = .ok (.iload_n 1, 1) := by decide +kernel
theorem dJ9_min_7cf53_10 : decode cJ9_min_7cf53 10 = .ok (.ireturn, 1) := by decide +kernel
end
section
theorem dL_begin_0 : decode cL_begin 0 = .ok (.aload_n 2, 1) := by decide +kernel
theorem dL_begin_1 : decode cL_begin 1 = .ok (.iconst 0, 1) := by decide +kernel
theorem dL_begin_2 : decode cL_begin 2 = .ok (.aload_n 0, 1) := by decide +kernel
theorem dL_begin_3 : decode cL_begin 3 = .ok (.iload_n 1, 1) := by decide +kernel
theorem dL_begin_4 : decode cL_begin 4 = .ok (.invokevirtual 7, 3) := by decide +kernel
theorem dL_begin_7 : decode cL_begin 7 = .ok (.i2l, 1) := by decide +kernel
theorem dL_begin_8 : decode cL_begin 8 = .ok (.lastore, 1) := by decide +kernel
theorem dL_begin_9 : decode cL_begin 9 = .ok (.goto 6, 3) := by decide +kernel
theorem dL_begin_12 : decode cL_begin 12 = .ok (.astore_n 3, 1) := by decide +kernel
theorem dL_begin_13 : decode cL_begin 13 = .ok (.iconst 1, 1) := by decide +kernel
theorem dL_begin_14 : decode cL_begin 14 = .ok (.ireturn, 1) := by decide +kernel
theorem dL_begin_15 : decode cL_begin 15 = .ok (.iconst 0, 1) := by decide +kernel
theorem dL_begin_16 : decode cL_begin 16 = .ok (.ireturn, 1) := by decide +kernel
theorem dL_setPassage_0 : decode cL_setPassage 0 = .ok (.aload 4, 2) := by decide +kernel
theorem dL_setPassage_2 : decode cL_setPassage 2 = .ok (.iconst 0, 1) := by decide +kernel
theorem dL_setPassage_3 : decode cL_setPassage 3 = .ok (.aload_n 0, 1) := by decide +kernel
theorem dL_setPassage_4 : decode cL_setPassage 4 = .ok (.iload_n 1, 1) := by decide +kernel
theorem dL_setPassage_5 : decode cL_setPassage 5 = .ok (.iload_n 2, 1) := by decide +kernel
theorem dL_setPassage_6 : decode cL_setPassage 6 = .ok (.iload_n 3, 1) := by decide +kernel
theorem dL_setPassage_7 : decode cL_setPassage 7 = .ok (.invokevirtual 15, 3) := by decide +kernel
theorem dL_setPassage_10 : decode cL_setPassage 10 = .ok (.i2l, 1) := by decide +kernel
theorem dL_setPassage_11 : decode cL_setPassage 11 = .ok (.lastore, 1) := by decide +kernel
theorem dL_setPassage_12 : decode cL_setPassage 12 = .ok (.goto 15, 3) := by decide +kernel
theorem dL_setPassage_15 : decode cL_setPassage 15 = .ok (.astore 5, 2) := by decide +kernel
theorem dL_setPassage_17 : decode cL_setPassage 17 = .ok (.iconst 1, 1) := by decide +kernel
theorem dL_setPassage_18 : decode cL_setPassage 18 = .ok (.ireturn, 1) := by decide +kernel
theorem dL_setPassage_19 : decode cL_setPassage 19 = .ok (.astore 5, 2) := by decide +kernel
theorem dL_setPassage_21 : decode cL_setPassage 21 = .ok (.iconst 2, 1) := by decide +kernel
theorem dL_setPassage_22 : decode cL_setPassage 22 = .ok (.ireturn, 1) := by decide +kernel
theorem dL_setPassage_23 : decode cL_setPassage 23 = .ok (.astore 5, 2) := by decide +kernel
theorem dL_setPassage_25 : decode cL_setPassage 25 = .ok (.iconst 3, 1) := by decide +kernel
theorem dL_setPassage_26 : decode cL_setPassage 26 = .ok (.ireturn, 1) := by decide +kernel
theorem dL_setPassage_27 : decode cL_setPassage 27 = .ok (.iconst 0, 1) := by decide +kernel
theorem dL_setPassage_28 : decode cL_setPassage 28 = .ok (.ireturn, 1) := by decide +kernel
theorem dL_addRope_0 : decode cL_addRope 0 = .ok (.aload_n 2, 1) := by decide +kernel
theorem dL_addRope_1 : decode cL_addRope 1 = .ok (.iconst 0, 1) := by decide +kernel
theorem dL_addRope_2 : decode cL_addRope 2 = .ok (.aload_n 0, 1) := by decide +kernel
theorem dL_addRope_3 : decode cL_addRope 3 = .ok (.iload_n 1, 1) := by decide +kernel
theorem dL_addRope_4 : decode cL_addRope 4 = .ok (.invokevirtual 23, 3) := by decide +kernel
theorem dL_addRope_7 : decode cL_addRope 7 = .ok (.i2l, 1) := by decide +kernel
theorem dL_addRope_8 : decode cL_addRope 8 = .ok (.lastore, 1) := by decide +kernel
theorem dL_addRope_9 : decode cL_addRope 9 = .ok (.goto 9, 3) := by decide +kernel
theorem dL_addRope_12 : decode cL_addRope 12 = .ok (.astore_n 3, 1) := by decide +kernel
theorem dL_addRope_13 : decode cL_addRope 13 = .ok (.iconst 1, 1) := by decide +kernel
theorem dL_addRope_14 : decode cL_addRope 14 = .ok (.ireturn, 1) := by decide +kernel
theorem dL_addRope_15 : decode cL_addRope 15 = .ok (.astore_n 3, 1) := by decide +kernel
theorem dL_addRope_16 : decode cL_addRope 16 = .ok (.iconst 2, 1) := by decide +kernel
theorem dL_addRope_17 : decode cL_addRope 17 = .ok (.ireturn, 1) := by decide +kernel
theorem dL_addRope_18 : decode cL_addRope 18 = .ok (.iconst 0, 1) := by decide +kernel
theorem dL_addRope_19 : decode cL_addRope 19 = .ok (.ireturn, 1) := by decide +kernel
theorem dL_addHelper_0 : decode cL_addHelper 0 = .ok (.aload_n 2, 1) := by decide +kernel
theorem dL_addHelper_1 : decode cL_addHelper 1 = .ok (.iconst 0, 1) := by decide +kernel
theorem dL_addHelper_2 : decode cL_addHelper 2 = .ok (.aload_n 0, 1) := by decide +kernel
theorem dL_addHelper_3 : decode cL_addHelper 3 = .ok (.iload_n 1, 1) := by decide +kernel
theorem dL_addHelper_4 : decode cL_addHelper 4 = .ok (.invokevirtual 26, 3) := by decide +kernel
theorem dL_addHelper_7 : decode cL_addHelper 7 = .ok (.i2l, 1) := by decide +kernel
theorem dL_addHelper_8 : decode cL_addHelper 8 = .ok (.lastore, 1) := by decide +kernel
theorem dL_addHelper_9 : decode cL_addHelper 9 = .ok (.goto 9, 3) := by decide +kernel
theorem dL_addHelper_12 : decode cL_addHelper 12 = .ok (.astore_n 3, 1) := by decide +kernel
theorem dL_addHelper_13 : decode cL_addHelper 13 = .ok (.iconst 1, 1) := by decide +kernel
theorem dL_addHelper_14 : decode cL_addHelper 14 = .ok (.ireturn, 1) := by decide +kernel
theorem dL_addHelper_15 : decode cL_addHelper 15 = .ok (.astore_n 3, 1) := by decide +kernel
theorem dL_addHelper_16 : decode cL_addHelper 16 = .ok (.iconst 2, 1) := by decide +kernel
theorem dL_addHelper_17 : decode cL_addHelper 17 = .ok (.ireturn, 1) := by decide +kernel
theorem dL_addHelper_18 : decode cL_addHelper 18 = .ok (.iconst 0, 1) := by decide +kernel
theorem dL_addHelper_19 : decode cL_addHelper 19 = .ok (.ireturn, 1) := by decide +kernel
theorem dL_setSilence_0 : decode cL_setSilence 0 = .ok (.aload_n 3, 1) := by decide +kernel
theorem dL_setSilence_1 : decode cL_setSilence 1 = .ok (.iconst 0, 1) := by decide +kernel
theorem dL_setSilence_2 : decode cL_setSilence 2 = .ok (.aload_n 0, 1) := by decide +kernel
theorem dL_setSilence_3 : decode cL_setSilence 3 = .ok (.iload_n 1, 1) := by decide +kernel
theorem dL_setSilence_4 : decode cL_setSilence 4 = .ok (.iload_n 2, 1) := by decide +kernel
theorem dL_setSilence_5 : decode cL_setSilence 5 = .ok (.invokevirtual 29, 3) := by decide +kernel
theorem dL_setSilence_8 : decode cL_setSilence 8 = .ok (.i2l, 1) := by decide +kernel
theorem dL_setSilence_9 : decode cL_setSilence 9 = .ok (.lastore, 1) := by decide +kernel
theorem dL_setSilence_10 : decode cL_setSilence 10 = .ok (.goto 7, 3) := by decide +kernel
theorem dL_setSilence_13 : decode cL_setSilence 13 = .ok (.astore 4, 2) := by decide +kernel
theorem dL_setSilence_15 : decode cL_setSilence 15 = .ok (.iconst 1, 1) := by decide +kernel
theorem dL_setSilence_16 : decode cL_setSilence 16 = .ok (.ireturn, 1) := by decide +kernel
theorem dL_setSilence_17 : decode cL_setSilence 17 = .ok (.iconst 0, 1) := by decide +kernel
theorem dL_setSilence_18 : decode cL_setSilence 18 = .ok (.ireturn, 1) := by decide +kernel
theorem dL_go_0 : decode cL_go 0 = .ok (.aload_n 3, 1) := by decide +kernel
theorem dL_go_1 : decode cL_go 1 = .ok (.iconst 0, 1) := by decide +kernel
theorem dL_go_2 : decode cL_go 2 = .ok (.aload_n 0, 1) := by decide +kernel
theorem dL_go_3 : decode cL_go 3 = .ok (.iload_n 1, 1) := by decide +kernel
theorem dL_go_4 : decode cL_go 4 = .ok (.iload_n 2, 1) := by decide +kernel
theorem dL_go_5 : decode cL_go 5 = .ok (.invokevirtual 33, 3) := by decide +kernel
theorem dL_go_8 : decode cL_go 8 = .ok (.i2l, 1) := by decide +kernel
theorem dL_go_9 : decode cL_go 9 = .ok (.lastore, 1) := by decide +kernel
theorem dL_go_10 : decode cL_go 10 = .ok (.goto 11, 3) := by decide +kernel
theorem dL_go_13 : decode cL_go 13 = .ok (.astore 4, 2) := by decide +kernel
theorem dL_go_15 : decode cL_go 15 = .ok (.iconst 1, 1) := by decide +kernel
theorem dL_go_16 : decode cL_go 16 = .ok (.ireturn, 1) := by decide +kernel
theorem dL_go_17 : decode cL_go 17 = .ok (.astore 4, 2) := by decide +kernel
theorem dL_go_19 : decode cL_go 19 = .ok (.iconst 2, 1) := by decide +kernel
theorem dL_go_20 : decode cL_go 20 = .ok (.ireturn, 1) := by decide +kernel
theorem dL_go_21 : decode cL_go 21 = .ok (.iconst 0, 1) := by decide +kernel
theorem dL_go_22 : decode cL_go 22 = .ok (.ireturn, 1) := by decide +kernel
theorem dL_take_0 : decode cL_take 0 = .ok (.aload_n 3, 1) := by decide +kernel
theorem dL_take_1 : decode cL_take 1 = .ok (.iconst 0, 1) := by decide +kernel
theorem dL_take_2 : decode cL_take 2 = .ok (.aload_n 0, 1) := by decide +kernel
theorem dL_take_3 : decode cL_take 3 = .ok (.iload_n 1, 1) := by decide +kernel
theorem dL_take_4 : decode cL_take 4 = .ok (.iload_n 2, 1) := by decide +kernel
theorem dL_take_5 : decode cL_take 5 = .ok (.invokevirtual 36, 3) := by decide +kernel
theorem dL_take_8 : decode cL_take 8 = .ok (.i2l, 1) := by decide +kernel
theorem dL_take_9 : decode cL_take 9 = .ok (.lastore, 1) := by decide +kernel
theorem dL_take_10 : decode cL_take 10 = .ok (.goto 11, 3) := by decide +kernel
theorem dL_take_13 : decode cL_take 13 = .ok (.astore 4, 2) := by decide +kernel
theorem dL_take_15 : decode cL_take 15 = .ok (.iconst 1, 1) := by decide +kernel
theorem dL_take_16 : decode cL_take 16 = .ok (.ireturn, 1) := by decide +kernel
theorem dL_take_17 : decode cL_take 17 = .ok (.astore 4, 2) := by decide +kernel
theorem dL_take_19 : decode cL_take 19 = .ok (.iconst 2, 1) := by decide +kernel
theorem dL_take_20 : decode cL_take 20 = .ok (.ireturn, 1) := by decide +kernel
theorem dL_take_21 : decode cL_take 21 = .ok (.iconst 0, 1) := by decide +kernel
theorem dL_take_22 : decode cL_take 22 = .ok (.ireturn, 1) := by decide +kernel
theorem dL_lay_0 : decode cL_lay 0 = .ok (.aload_n 2, 1) := by decide +kernel
theorem dL_lay_1 : decode cL_lay 1 = .ok (.iconst 0, 1) := by decide +kernel
theorem dL_lay_2 : decode cL_lay 2 = .ok (.aload_n 0, 1) := by decide +kernel
theorem dL_lay_3 : decode cL_lay 3 = .ok (.iload_n 1, 1) := by decide +kernel
theorem dL_lay_4 : decode cL_lay 4 = .ok (.invokevirtual 39, 3) := by decide +kernel
theorem dL_lay_7 : decode cL_lay 7 = .ok (.i2l, 1) := by decide +kernel
theorem dL_lay_8 : decode cL_lay 8 = .ok (.lastore, 1) := by decide +kernel
theorem dL_lay_9 : decode cL_lay 9 = .ok (.goto 9, 3) := by decide +kernel
theorem dL_lay_12 : decode cL_lay 12 = .ok (.astore_n 3, 1) := by decide +kernel
theorem dL_lay_13 : decode cL_lay 13 = .ok (.iconst 1, 1) := by decide +kernel
theorem dL_lay_14 : decode cL_lay 14 = .ok (.ireturn, 1) := by decide +kernel
theorem dL_lay_15 : decode cL_lay 15 = .ok (.astore_n 3, 1) := by decide +kernel
theorem dL_lay_16 : decode cL_lay 16 = .ok (.iconst 2, 1) := by decide +kernel
theorem dL_lay_17 : decode cL_lay 17 = .ok (.ireturn, 1) := by decide +kernel
theorem dL_lay_18 : decode cL_lay 18 = .ok (.iconst 0, 1) := by decide +kernel
theorem dL_lay_19 : decode cL_lay 19 = .ok (.ireturn, 1) := by decide +kernel
theorem dL_rig_0 : decode cL_rig 0 = .ok (.aload_n 2, 1) := by decide +kernel
theorem dL_rig_1 : decode cL_rig 1 = .ok (.iconst 0, 1) := by decide +kernel
theorem dL_rig_2 : decode cL_rig 2 = .ok (.aload_n 0, 1) := by decide +kernel
theorem dL_rig_3 : decode cL_rig 3 = .ok (.iload_n 1, 1) := by decide +kernel
theorem dL_rig_4 : decode cL_rig 4 = .ok (.invokevirtual 42, 3) := by decide +kernel
theorem dL_rig_7 : decode cL_rig 7 = .ok (.i2l, 1) := by decide +kernel
theorem dL_rig_8 : decode cL_rig 8 = .ok (.lastore, 1) := by decide +kernel
theorem dL_rig_9 : decode cL_rig 9 = .ok (.goto 9, 3) := by decide +kernel
theorem dL_rig_12 : decode cL_rig 12 = .ok (.astore_n 3, 1) := by decide +kernel
theorem dL_rig_13 : decode cL_rig 13 = .ok (.iconst 1, 1) := by decide +kernel
theorem dL_rig_14 : decode cL_rig 14 = .ok (.ireturn, 1) := by decide +kernel
theorem dL_rig_15 : decode cL_rig 15 = .ok (.astore_n 3, 1) := by decide +kernel
theorem dL_rig_16 : decode cL_rig 16 = .ok (.iconst 2, 1) := by decide +kernel
theorem dL_rig_17 : decode cL_rig 17 = .ok (.ireturn, 1) := by decide +kernel
theorem dL_rig_18 : decode cL_rig 18 = .ok (.iconst 0, 1) := by decide +kernel
theorem dL_rig_19 : decode cL_rig 19 = .ok (.ireturn, 1) := by decide +kernel
theorem dL_takeOff_0 : decode cL_takeOff 0 = .ok (.aload_n 2, 1) := by decide +kernel
theorem dL_takeOff_1 : decode cL_takeOff 1 = .ok (.iconst 0, 1) := by decide +kernel
theorem dL_takeOff_2 : decode cL_takeOff 2 = .ok (.aload_n 0, 1) := by decide +kernel
theorem dL_takeOff_3 : decode cL_takeOff 3 = .ok (.iload_n 1, 1) := by decide +kernel
theorem dL_takeOff_4 : decode cL_takeOff 4 = .ok (.invokevirtual 45, 3) := by decide +kernel
theorem dL_takeOff_7 : decode cL_takeOff 7 = .ok (.i2l, 1) := by decide +kernel
theorem dL_takeOff_8 : decode cL_takeOff 8 = .ok (.lastore, 1) := by decide +kernel
theorem dL_takeOff_9 : decode cL_takeOff 9 = .ok (.goto 9, 3) := by decide +kernel
theorem dL_takeOff_12 : decode cL_takeOff 12 = .ok (.astore_n 3, 1) := by decide +kernel
theorem dL_takeOff_13 : decode cL_takeOff 13 = .ok (.iconst 1, 1) := by decide +kernel
theorem dL_takeOff_14 : decode cL_takeOff 14 = .ok (.ireturn, 1) := by decide +kernel
theorem dL_takeOff_15 : decode cL_takeOff 15 = .ok (.astore_n 3, 1) := by decide +kernel
theorem dL_takeOff_16 : decode cL_takeOff 16 = .ok (.iconst 2, 1) := by decide +kernel
theorem dL_takeOff_17 : decode cL_takeOff 17 = .ok (.ireturn, 1) := by decide +kernel
theorem dL_takeOff_18 : decode cL_takeOff 18 = .ok (.iconst 0, 1) := by decide +kernel
theorem dL_takeOff_19 : decode cL_takeOff 19 = .ok (.ireturn, 1) := by decide +kernel
theorem dL_carry_0 : decode cL_carry 0 = .ok (.aload_n 2, 1) := by decide +kernel
theorem dL_carry_1 : decode cL_carry 1 = .ok (.iconst 0, 1) := by decide +kernel
theorem dL_carry_2 : decode cL_carry 2 = .ok (.aload_n 0, 1) := by decide +kernel
theorem dL_carry_3 : decode cL_carry 3 = .ok (.iload_n 1, 1) := by decide +kernel
theorem dL_carry_4 : decode cL_carry 4 = .ok (.invokevirtual 48, 3) := by decide +kernel
theorem dL_carry_7 : decode cL_carry 7 = .ok (.i2l, 1) := by decide +kernel
theorem dL_carry_8 : decode cL_carry 8 = .ok (.lastore, 1) := by decide +kernel
theorem dL_carry_9 : decode cL_carry 9 = .ok (.goto 9, 3) := by decide +kernel
theorem dL_carry_12 : decode cL_carry 12 = .ok (.astore_n 3, 1) := by decide +kernel
theorem dL_carry_13 : decode cL_carry 13 = .ok (.iconst 1, 1) := by decide +kernel
theorem dL_carry_14 : decode cL_carry 14 = .ok (.ireturn, 1) := by decide +kernel
theorem dL_carry_15 : decode cL_carry 15 = .ok (.astore_n 3, 1) := by decide +kernel
theorem dL_carry_16 : decode cL_carry 16 = .ok (.iconst 2, 1) := by decide +kernel
theorem dL_carry_17 : decode cL_carry 17 = .ok (.ireturn, 1) := by decide +kernel
theorem dL_carry_18 : decode cL_carry 18 = .ok (.iconst 0, 1) := by decide +kernel
theorem dL_carry_19 : decode cL_carry 19 = .ok (.ireturn, 1) := by decide +kernel
theorem dL_send_0 : decode cL_send 0 = .ok (.aload_n 2, 1) := by decide +kernel
theorem dL_send_1 : decode cL_send 1 = .ok (.iconst 0, 1) := by decide +kernel
theorem dL_send_2 : decode cL_send 2 = .ok (.aload_n 0, 1) := by decide +kernel
theorem dL_send_3 : decode cL_send 3 = .ok (.iload_n 1, 1) := by decide +kernel
theorem dL_send_4 : decode cL_send 4 = .ok (.invokevirtual 51, 3) := by decide +kernel
theorem dL_send_7 : decode cL_send 7 = .ok (.i2l, 1) := by decide +kernel
theorem dL_send_8 : decode cL_send 8 = .ok (.lastore, 1) := by decide +kernel
theorem dL_send_9 : decode cL_send 9 = .ok (.goto 9, 3) := by decide +kernel
theorem dL_send_12 : decode cL_send 12 = .ok (.astore_n 3, 1) := by decide +kernel
theorem dL_send_13 : decode cL_send 13 = .ok (.iconst 1, 1) := by decide +kernel
theorem dL_send_14 : decode cL_send 14 = .ok (.ireturn, 1) := by decide +kernel
theorem dL_send_15 : decode cL_send 15 = .ok (.astore_n 3, 1) := by decide +kernel
theorem dL_send_16 : decode cL_send 16 = .ok (.iconst 2, 1) := by decide +kernel
theorem dL_send_17 : decode cL_send 17 = .ok (.ireturn, 1) := by decide +kernel
theorem dL_send_18 : decode cL_send 18 = .ok (.iconst 0, 1) := by decide +kernel
theorem dL_send_19 : decode cL_send 19 = .ok (.ireturn, 1) := by decide +kernel
theorem dL_pass_0 : decode cL_pass 0 = .ok (.aload_n 2, 1) := by decide +kernel
theorem dL_pass_1 : decode cL_pass 1 = .ok (.iconst 0, 1) := by decide +kernel
theorem dL_pass_2 : decode cL_pass 2 = .ok (.aload_n 0, 1) := by decide +kernel
theorem dL_pass_3 : decode cL_pass 3 = .ok (.iload_n 1, 1) := by decide +kernel
theorem dL_pass_4 : decode cL_pass 4 = .ok (.invokevirtual 54, 3) := by decide +kernel
theorem dL_pass_7 : decode cL_pass 7 = .ok (.i2l, 1) := by decide +kernel
theorem dL_pass_8 : decode cL_pass 8 = .ok (.lastore, 1) := by decide +kernel
theorem dL_pass_9 : decode cL_pass 9 = .ok (.goto 9, 3) := by decide +kernel
theorem dL_pass_12 : decode cL_pass 12 = .ok (.astore_n 3, 1) := by decide +kernel
theorem dL_pass_13 : decode cL_pass 13 = .ok (.iconst 1, 1) := by decide +kernel
theorem dL_pass_14 : decode cL_pass 14 = .ok (.ireturn, 1) := by decide +kernel
theorem dL_pass_15 : decode cL_pass 15 = .ok (.astore_n 3, 1) := by decide +kernel
theorem dL_pass_16 : decode cL_pass 16 = .ok (.iconst 2, 1) := by decide +kernel
theorem dL_pass_17 : decode cL_pass 17 = .ok (.ireturn, 1) := by decide +kernel
theorem dL_pass_18 : decode cL_pass 18 = .ok (.iconst 0, 1) := by decide +kernel
theorem dL_pass_19 : decode cL_pass 19 = .ok (.ireturn, 1) := by decide +kernel
theorem dL_passage_0 : decode cL_passage 0 = .ok (.aload_n 3, 1) := by decide +kernel
theorem dL_passage_1 : decode cL_passage 1 = .ok (.iconst 0, 1) := by decide +kernel
theorem dL_passage_2 : decode cL_passage 2 = .ok (.aload_n 0, 1) := by decide +kernel
theorem dL_passage_3 : decode cL_passage 3 = .ok (.iload_n 1, 1) := by decide +kernel
theorem dL_passage_4 : decode cL_passage 4 = .ok (.iload_n 2, 1) := by decide +kernel
theorem dL_passage_5 : decode cL_passage 5 = .ok (.invokevirtual 57, 3) := by decide +kernel
theorem dL_passage_8 : decode cL_passage 8 = .ok (.i2l, 1) := by decide +kernel
theorem dL_passage_9 : decode cL_passage 9 = .ok (.lastore, 1) := by decide +kernel
theorem dL_passage_10 : decode cL_passage 10 = .ok (.goto 11, 3) := by decide +kernel
theorem dL_passage_13 : decode cL_passage 13 = .ok (.astore 4, 2) := by decide +kernel
theorem dL_passage_15 : decode cL_passage 15 = .ok (.iconst 1, 1) := by decide +kernel
theorem dL_passage_16 : decode cL_passage 16 = .ok (.ireturn, 1) := by decide +kernel
theorem dL_passage_17 : decode cL_passage 17 = .ok (.astore 4, 2) := by decide +kernel
theorem dL_passage_19 : decode cL_passage 19 = .ok (.iconst 2, 1) := by decide +kernel
theorem dL_passage_20 : decode cL_passage 20 = .ok (.ireturn, 1) := by decide +kernel
theorem dL_passage_21 : decode cL_passage 21 = .ok (.iconst 0, 1) := by decide +kernel
theorem dL_passage_22 : decode cL_passage 22 = .ok (.ireturn, 1) := by decide +kernel
theorem dL_rope_0 : decode cL_rope 0 = .ok (.aload_n 3, 1) := by decide +kernel
theorem dL_rope_1 : decode cL_rope 1 = .ok (.iconst 0, 1) := by decide +kernel
theorem dL_rope_2 : decode cL_rope 2 = .ok (.aload_n 0, 1) := by decide +kernel
theorem dL_rope_3 : decode cL_rope 3 = .ok (.iload_n 1, 1) := by decide +kernel
theorem dL_rope_4 : decode cL_rope 4 = .ok (.iload_n 2, 1) := by decide +kernel
theorem dL_rope_5 : decode cL_rope 5 = .ok (.invokevirtual 60, 3) := by decide +kernel
theorem dL_rope_8 : decode cL_rope 8 = .ok (.i2l, 1) := by decide +kernel
theorem dL_rope_9 : decode cL_rope 9 = .ok (.lastore, 1) := by decide +kernel
theorem dL_rope_10 : decode cL_rope 10 = .ok (.goto 11, 3) := by decide +kernel
theorem dL_rope_13 : decode cL_rope 13 = .ok (.astore 4, 2) := by decide +kernel
theorem dL_rope_15 : decode cL_rope 15 = .ok (.iconst 1, 1) := by decide +kernel
theorem dL_rope_16 : decode cL_rope 16 = .ok (.ireturn, 1) := by decide +kernel
theorem dL_rope_17 : decode cL_rope 17 = .ok (.astore 4, 2) := by decide +kernel
theorem dL_rope_19 : decode cL_rope 19 = .ok (.iconst 2, 1) := by decide +kernel
theorem dL_rope_20 : decode cL_rope 20 = .ok (.ireturn, 1) := by decide +kernel
theorem dL_rope_21 : decode cL_rope 21 = .ok (.iconst 0, 1) := by decide +kernel
theorem dL_rope_22 : decode cL_rope 22 = .ok (.ireturn, 1) := by decide +kernel
theorem dL_helper_0 : decode cL_helper 0 = .ok (.aload_n 3, 1) := by decide +kernel
theorem dL_helper_1 : decode cL_helper 1 = .ok (.iconst 0, 1) := by decide +kernel
theorem dL_helper_2 : decode cL_helper 2 = .ok (.aload_n 0, 1) := by decide +kernel
theorem dL_helper_3 : decode cL_helper 3 = .ok (.iload_n 1, 1) := by decide +kernel
theorem dL_helper_4 : decode cL_helper 4 = .ok (.iload_n 2, 1) := by decide +kernel
theorem dL_helper_5 : decode cL_helper 5 = .ok (.invokevirtual 63, 3) := by decide +kernel
theorem dL_helper_8 : decode cL_helper 8 = .ok (.i2l, 1) := by decide +kernel
theorem dL_helper_9 : decode cL_helper 9 = .ok (.lastore, 1) := by decide +kernel
theorem dL_helper_10 : decode cL_helper 10 = .ok (.goto 11, 3) := by decide +kernel
theorem dL_helper_13 : decode cL_helper 13 = .ok (.astore 4, 2) := by decide +kernel
theorem dL_helper_15 : decode cL_helper 15 = .ok (.iconst 1, 1) := by decide +kernel
theorem dL_helper_16 : decode cL_helper 16 = .ok (.ireturn, 1) := by decide +kernel
theorem dL_helper_17 : decode cL_helper 17 = .ok (.astore 4, 2) := by decide +kernel
theorem dL_helper_19 : decode cL_helper 19 = .ok (.iconst 2, 1) := by decide +kernel
theorem dL_helper_20 : decode cL_helper 20 = .ok (.ireturn, 1) := by decide +kernel
theorem dL_helper_21 : decode cL_helper 21 = .ok (.iconst 0, 1) := by decide +kernel
theorem dL_helper_22 : decode cL_helper 22 = .ok (.ireturn, 1) := by decide +kernel
theorem dL_value_0 : decode cL_value 0 = .ok (.aload_n 2, 1) := by decide +kernel
theorem dL_value_1 : decode cL_value 1 = .ok (.iconst 0, 1) := by decide +kernel
theorem dL_value_2 : decode cL_value 2 = .ok (.aload_n 0, 1) := by decide +kernel
theorem dL_value_3 : decode cL_value 3 = .ok (.iload_n 1, 1) := by decide +kernel
theorem dL_value_4 : decode cL_value 4 = .ok (.invokevirtual 66, 3) := by decide +kernel
theorem dL_value_7 : decode cL_value 7 = .ok (.i2l, 1) := by decide +kernel
theorem dL_value_8 : decode cL_value 8 = .ok (.lastore, 1) := by decide +kernel
theorem dL_value_9 : decode cL_value 9 = .ok (.goto 6, 3) := by decide +kernel
theorem dL_value_12 : decode cL_value 12 = .ok (.astore_n 3, 1) := by decide +kernel
theorem dL_value_13 : decode cL_value 13 = .ok (.iconst 1, 1) := by decide +kernel
theorem dL_value_14 : decode cL_value 14 = .ok (.ireturn, 1) := by decide +kernel
theorem dL_value_15 : decode cL_value 15 = .ok (.iconst 0, 1) := by decide +kernel
theorem dL_value_16 : decode cL_value 16 = .ok (.ireturn, 1) := by decide +kernel
theorem dL_message_0 : decode cL_message 0 = .ok (.aload_n 3, 1) := by decide +kernel
theorem dL_message_1 : decode cL_message 1 = .ok (.iconst 0, 1) := by decide +kernel
theorem dL_message_2 : decode cL_message 2 = .ok (.aload_n 0, 1) := by decide +kernel
theorem dL_message_3 : decode cL_message 3 = .ok (.iload_n 1, 1) := by decide +kernel
theorem dL_message_4 : decode cL_message 4 = .ok (.iload_n 2, 1) := by decide +kernel
theorem dL_message_5 : decode cL_message 5 = .ok (.invokevirtual 69, 3) := by decide +kernel
theorem dL_message_8 : decode cL_message 8 = .ok (.i2l, 1) := by decide +kernel
theorem dL_message_9 : decode cL_message 9 = .ok (.lastore, 1) := by decide +kernel
theorem dL_message_10 : decode cL_message 10 = .ok (.goto 11, 3) := by decide +kernel
theorem dL_message_13 : decode cL_message 13 = .ok (.astore 4, 2) := by decide +kernel
theorem dL_message_15 : decode cL_message 15 = .ok (.iconst 1, 1) := by decide +kernel
theorem dL_message_16 : decode cL_message 16 = .ok (.ireturn, 1) := by decide +kernel
theorem dL_message_17 : decode cL_message 17 = .ok (.astore 4, 2) := by decide +kernel
theorem dL_message_19 : decode cL_message 19 = .ok (.iconst 2, 1) := by decide +kernel
theorem dL_message_20 : decode cL_message 20 = .ok (.ireturn, 1) := by decide +kernel
theorem dL_message_21 : decode cL_message 21 = .ok (.iconst 0, 1) := by decide +kernel
theorem dL_message_22 : decode cL_message 22 = .ok (.ireturn, 1) := by decide +kernel
theorem dL_carried_0 : decode cL_carried 0 = .ok (.aload_n 3, 1) := by decide +kernel
theorem dL_carried_1 : decode cL_carried 1 = .ok (.iconst 0, 1) := by decide +kernel
theorem dL_carried_2 : decode cL_carried 2 = .ok (.aload_n 0, 1) := by decide +kernel
theorem dL_carried_3 : decode cL_carried 3 = .ok (.iload_n 1, 1) := by decide +kernel
theorem dL_carried_4 : decode cL_carried 4 = .ok (.iload_n 2, 1) := by decide +kernel
theorem dL_carried_5 : decode cL_carried 5 = .ok (.invokevirtual 72, 3) := by decide +kernel
theorem dL_carried_8 : decode cL_carried 8 = .ok (.i2l, 1) := by decide +kernel
theorem dL_carried_9 : decode cL_carried 9 = .ok (.lastore, 1) := by decide +kernel
theorem dL_carried_10 : decode cL_carried 10 = .ok (.goto 11, 3) := by decide +kernel
theorem dL_carried_13 : decode cL_carried 13 = .ok (.astore 4, 2) := by decide +kernel
theorem dL_carried_15 : decode cL_carried 15 = .ok (.iconst 1, 1) := by decide +kernel
theorem dL_carried_16 : decode cL_carried 16 = .ok (.ireturn, 1) := by decide +kernel
theorem dL_carried_17 : decode cL_carried 17 = .ok (.astore 4, 2) := by decide +kernel
theorem dL_carried_19 : decode cL_carried 19 = .ok (.iconst 2, 1) := by decide +kernel
theorem dL_carried_20 : decode cL_carried 20 = .ok (.ireturn, 1) := by decide +kernel
theorem dL_carried_21 : decode cL_carried 21 = .ok (.iconst 0, 1) := by decide +kernel
theorem dL_carried_22 : decode cL_carried 22 = .ok (.ireturn, 1) := by decide +kernel
theorem dL_why_0 : decode cL_why 0 = .ok (.aload_n 3, 1) := by decide +kernel
theorem dL_why_1 : decode cL_why 1 = .ok (.iconst 0, 1) := by decide +kernel
theorem dL_why_2 : decode cL_why 2 = .ok (.aload_n 0, 1) := by decide +kernel
theorem dL_why_3 : decode cL_why 3 = .ok (.iload_n 1, 1) := by decide +kernel
theorem dL_why_4 : decode cL_why 4 = .ok (.iload_n 2, 1) := by decide +kernel
theorem dL_why_5 : decode cL_why 5 = .ok (.invokevirtual 75, 3) := by decide +kernel
theorem dL_why_8 : decode cL_why 8 = .ok (.i2l, 1) := by decide +kernel
theorem dL_why_9 : decode cL_why 9 = .ok (.lastore, 1) := by decide +kernel
theorem dL_why_10 : decode cL_why 10 = .ok (.goto 7, 3) := by decide +kernel
theorem dL_why_13 : decode cL_why 13 = .ok (.astore 4, 2) := by decide +kernel
theorem dL_why_15 : decode cL_why 15 = .ok (.iconst 1, 1) := by decide +kernel
theorem dL_why_16 : decode cL_why 16 = .ok (.ireturn, 1) := by decide +kernel
theorem dL_why_17 : decode cL_why 17 = .ok (.iconst 0, 1) := by decide +kernel
theorem dL_why_18 : decode cL_why 18 = .ok (.ireturn, 1) := by decide +kernel
theorem dL_minutesUp_0 : decode cL_minutesUp 0 = .ok (.aload_n 2, 1) := by decide +kernel
theorem dL_minutesUp_1 : decode cL_minutesUp 1 = .ok (.iconst 0, 1) := by decide +kernel
theorem dL_minutesUp_2 : decode cL_minutesUp 2 = .ok (.aload_n 0, 1) := by decide +kernel
theorem dL_minutesUp_3 : decode cL_minutesUp 3 = .ok (.iload_n 1, 1) := by decide +kernel
theorem dL_minutesUp_4 : decode cL_minutesUp 4 = .ok (.invokevirtual 78, 3) := by decide +kernel
theorem dL_minutesUp_7 : decode cL_minutesUp 7 = .ok (.i2l, 1) := by decide +kernel
theorem dL_minutesUp_8 : decode cL_minutesUp 8 = .ok (.lastore, 1) := by decide +kernel
theorem dL_minutesUp_9 : decode cL_minutesUp 9 = .ok (.goto 6, 3) := by decide +kernel
theorem dL_minutesUp_12 : decode cL_minutesUp 12 = .ok (.astore_n 3, 1) := by decide +kernel
theorem dL_minutesUp_13 : decode cL_minutesUp 13 = .ok (.iconst 1, 1) := by decide +kernel
theorem dL_minutesUp_14 : decode cL_minutesUp 14 = .ok (.ireturn, 1) := by decide +kernel
theorem dL_minutesUp_15 : decode cL_minutesUp 15 = .ok (.iconst 0, 1) := by decide +kernel
theorem dL_minutesUp_16 : decode cL_minutesUp 16 = .ok (.ireturn, 1) := by decide +kernel
theorem dL_spare_0 : decode cL_spare 0 = .ok (.aload_n 2, 1) := by decide +kernel
theorem dL_spare_1 : decode cL_spare 1 = .ok (.iconst 0, 1) := by decide +kernel
theorem dL_spare_2 : decode cL_spare 2 = .ok (.aload_n 0, 1) := by decide +kernel
theorem dL_spare_3 : decode cL_spare 3 = .ok (.iload_n 1, 1) := by decide +kernel
theorem dL_spare_4 : decode cL_spare 4 = .ok (.invokevirtual 81, 3) := by decide +kernel
theorem dL_spare_7 : decode cL_spare 7 = .ok (.i2l, 1) := by decide +kernel
theorem dL_spare_8 : decode cL_spare 8 = .ok (.lastore, 1) := by decide +kernel
theorem dL_spare_9 : decode cL_spare 9 = .ok (.goto 6, 3) := by decide +kernel
theorem dL_spare_12 : decode cL_spare 12 = .ok (.astore_n 3, 1) := by decide +kernel
theorem dL_spare_13 : decode cL_spare 13 = .ok (.iconst 1, 1) := by decide +kernel
theorem dL_spare_14 : decode cL_spare 14 = .ok (.ireturn, 1) := by decide +kernel
theorem dL_spare_15 : decode cL_spare 15 = .ok (.iconst 0, 1) := by decide +kernel
theorem dL_spare_16 : decode cL_spare 16 = .ok (.ireturn, 1) := by decide +kernel
theorem dL_bestRope_0 : decode cL_bestRope 0 = .ok (.aload_n 2, 1) := by decide +kernel
theorem dL_bestRope_1 : decode cL_bestRope 1 = .ok (.iconst 0, 1) := by decide +kernel
theorem dL_bestRope_2 : decode cL_bestRope 2 = .ok (.aload_n 0, 1) := by decide +kernel
theorem dL_bestRope_3 : decode cL_bestRope 3 = .ok (.iload_n 1, 1) := by decide +kernel
theorem dL_bestRope_4 : decode cL_bestRope 4 = .ok (.invokevirtual 84, 3) := by decide +kernel
theorem dL_bestRope_7 : decode cL_bestRope 7 = .ok (.i2l, 1) := by decide +kernel
theorem dL_bestRope_8 : decode cL_bestRope 8 = .ok (.lastore, 1) := by decide +kernel
theorem dL_bestRope_9 : decode cL_bestRope 9 = .ok (.goto 6, 3) := by decide +kernel
theorem dL_bestRope_12 : decode cL_bestRope 12 = .ok (.astore_n 3, 1) := by decide +kernel
theorem dL_bestRope_13 : decode cL_bestRope 13 = .ok (.iconst 1, 1) := by decide +kernel
theorem dL_bestRope_14 : decode cL_bestRope 14 = .ok (.ireturn, 1) := by decide +kernel
theorem dL_bestRope_15 : decode cL_bestRope 15 = .ok (.iconst 0, 1) := by decide +kernel
theorem dL_bestRope_16 : decode cL_bestRope 16 = .ok (.ireturn, 1) := by decide +kernel
theorem dL_reach_0 : decode cL_reach 0 = .ok (.aload_n 2, 1) := by decide +kernel
theorem dL_reach_1 : decode cL_reach 1 = .ok (.iconst 0, 1) := by decide +kernel
theorem dL_reach_2 : decode cL_reach 2 = .ok (.aload_n 0, 1) := by decide +kernel
theorem dL_reach_3 : decode cL_reach 3 = .ok (.iload_n 1, 1) := by decide +kernel
theorem dL_reach_4 : decode cL_reach 4 = .ok (.invokevirtual 87, 3) := by decide +kernel
theorem dL_reach_7 : decode cL_reach 7 = .ok (.i2l, 1) := by decide +kernel
theorem dL_reach_8 : decode cL_reach 8 = .ok (.lastore, 1) := by decide +kernel
theorem dL_reach_9 : decode cL_reach 9 = .ok (.goto 6, 3) := by decide +kernel
theorem dL_reach_12 : decode cL_reach 12 = .ok (.astore_n 3, 1) := by decide +kernel
theorem dL_reach_13 : decode cL_reach 13 = .ok (.iconst 1, 1) := by decide +kernel
theorem dL_reach_14 : decode cL_reach 14 = .ok (.ireturn, 1) := by decide +kernel
theorem dL_reach_15 : decode cL_reach 15 = .ok (.iconst 0, 1) := by decide +kernel
theorem dL_reach_16 : decode cL_reach 16 = .ok (.ireturn, 1) := by decide +kernel
theorem dL_append_0 : decode cL_append 0 = .ok (.aload_n 2, 1) := by decide +kernel
theorem dL_append_1 : decode cL_append 1 = .ok (.iconst 0, 1) := by decide +kernel
theorem dL_append_2 : decode cL_append 2 = .ok (.aload_n 0, 1) := by decide +kernel
theorem dL_append_3 : decode cL_append 3 = .ok (.iload_n 1, 1) := by decide +kernel
theorem dL_append_4 : decode cL_append 4 = .ok (.invokevirtual 90, 3) := by decide +kernel
theorem dL_append_7 : decode cL_append 7 = .ok (.i2l, 1) := by decide +kernel
theorem dL_append_8 : decode cL_append 8 = .ok (.lastore, 1) := by decide +kernel
theorem dL_append_9 : decode cL_append 9 = .ok (.goto 9, 3) := by decide +kernel
theorem dL_append_12 : decode cL_append 12 = .ok (.astore_n 3, 1) := by decide +kernel
theorem dL_append_13 : decode cL_append 13 = .ok (.iconst 1, 1) := by decide +kernel
theorem dL_append_14 : decode cL_append 14 = .ok (.ireturn, 1) := by decide +kernel
theorem dL_append_15 : decode cL_append 15 = .ok (.astore_n 3, 1) := by decide +kernel
theorem dL_append_16 : decode cL_append 16 = .ok (.iconst 2, 1) := by decide +kernel
theorem dL_append_17 : decode cL_append 17 = .ok (.ireturn, 1) := by decide +kernel
theorem dL_append_18 : decode cL_append 18 = .ok (.iconst 0, 1) := by decide +kernel
theorem dL_append_19 : decode cL_append 19 = .ok (.ireturn, 1) := by decide +kernel
theorem dL_undo_0 : decode cL_undo 0 = .ok (.aload_n 1, 1) := by decide +kernel
theorem dL_undo_1 : decode cL_undo 1 = .ok (.iconst 0, 1) := by decide +kernel
theorem dL_undo_2 : decode cL_undo 2 = .ok (.aload_n 0, 1) := by decide +kernel
theorem dL_undo_3 : decode cL_undo 3 = .ok (.invokevirtual 93, 3) := by decide +kernel
theorem dL_undo_6 : decode cL_undo 6 = .ok (.i2l, 1) := by decide +kernel
theorem dL_undo_7 : decode cL_undo 7 = .ok (.lastore, 1) := by decide +kernel
theorem dL_undo_8 : decode cL_undo 8 = .ok (.goto 6, 3) := by decide +kernel
theorem dL_undo_11 : decode cL_undo 11 = .ok (.astore_n 2, 1) := by decide +kernel
theorem dL_undo_12 : decode cL_undo 12 = .ok (.iconst 1, 1) := by decide +kernel
theorem dL_undo_13 : decode cL_undo 13 = .ok (.ireturn, 1) := by decide +kernel
theorem dL_undo_14 : decode cL_undo 14 = .ok (.iconst 0, 1) := by decide +kernel
theorem dL_undo_15 : decode cL_undo 15 = .ok (.ireturn, 1) := by decide +kernel
theorem dL_law_0 : decode cL_law 0 = .ok (.new 8, 3) := by decide +kernel
theorem dL_law_3 : decode cL_law 3 = .ok (.dup, 1) := by decide +kernel
theorem dL_law_4 : decode cL_law 4 = .ok (.invokespecial 97, 3) := by decide +kernel
theorem dL_law_7 : decode cL_law 7 = .ok (.astore_n 1, 1) := by decide +kernel
theorem dL_law_8 : decode cL_law 8 = .ok (.new 98, 3) := by decide +kernel
theorem dL_law_11 : decode cL_law 11 = .ok (.dup, 1) := by decide +kernel
theorem dL_law_12 : decode cL_law 12 = .ok (.invokespecial 100, 3) := by decide +kernel
theorem dL_law_15 : decode cL_law 15 = .ok (.astore_n 2, 1) := by decide +kernel
theorem dL_law_16 : decode cL_law 16 = .ok (.iconst 1, 1) := by decide +kernel
theorem dL_law_17 : decode cL_law 17 = .ok (.newarray .long, 2) := by decide +kernel
theorem dL_law_19 : decode cL_law 19 = .ok (.astore_n 3, 1) := by decide +kernel
theorem dL_law_20 : decode cL_law 20 = .ok (.iconst 0, 1) := by decide +kernel
theorem dL_law_21 : decode cL_law 21 = .ok (.istore 4, 2) := by decide +kernel
theorem dL_law_23 : decode cL_law 23 = .ok (.iload 4, 2) := by decide +kernel
theorem dL_law_25 : decode cL_law 25 = .ok (.aload_n 0, 1) := by decide +kernel
theorem dL_law_26 : decode cL_law 26 = .ok (.arraylength, 1) := by decide +kernel
theorem dL_law_27 : decode cL_law 27 = .ok (.iconst 4, 1) := by decide +kernel
theorem dL_law_28 : decode cL_law 28 = .ok (.isub, 1) := by decide +kernel
theorem dL_law_29 : decode cL_law 29 = .ok (.if_icmp .gt 1840, 3) := by decide +kernel
theorem dL_law_32 : decode cL_law 32 = .ok (.aload_n 0, 1) := by decide +kernel
theorem dL_law_33 : decode cL_law 33 = .ok (.iload 4, 2) := by decide +kernel
theorem dL_law_35 : decode cL_law 35 = .ok (.iaload, 1) := by decide +kernel
theorem dL_law_36 : decode cL_law 36 = .ok (.bipush 31, 2) := by decide +kernel
theorem dL_law_38 : decode cL_law 38 = .ok (.iand, 1) := by decide +kernel
theorem dL_law_39 : decode cL_law 39 = .ok (.tableswitch 1824 0 31 #[141, 197, 277, 333, 389, 457, 525, 593, 649, 705, 761, 817, 873, 929, 997, 1065, 1133, 1189, 1257, 1325, 1393, 1449, 1505, 1561, 1574, 1587, 1643, 1684, 1740, 1753, 1766, 1810], 141) := by decide +kernel
theorem dL_law_180 : decode cL_law 180 = .ok (.aload_n 1, 1) := by decide +kernel
theorem dL_law_181 : decode cL_law 181 = .ok (.aload_n 0, 1) := by decide +kernel
theorem dL_law_182 : decode cL_law 182 = .ok (.iload 4, 2) := by decide +kernel
theorem dL_law_184 : decode cL_law 184 = .ok (.iconst 1, 1) := by decide +kernel
theorem dL_law_185 : decode cL_law 185 = .ok (.iadd, 1) := by decide +kernel
theorem dL_law_186 : decode cL_law 186 = .ok (.iaload, 1) := by decide +kernel
theorem dL_law_187 : decode cL_law 187 = .ok (.aload_n 3, 1) := by decide +kernel
theorem dL_law_188 : decode cL_law 188 = .ok (.invokestatic 101, 3) := by decide +kernel
theorem dL_law_191 : decode cL_law 191 = .ok (.istore 5, 2) := by decide +kernel
theorem dL_law_193 : decode cL_law 193 = .ok (.aload_n 2, 1) := by decide +kernel
theorem dL_law_194 : decode cL_law 194 = .ok (.aload_n 0, 1) := by decide +kernel
theorem dL_law_195 : decode cL_law 195 = .ok (.iload 4, 2) := by decide +kernel
theorem dL_law_197 : decode cL_law 197 = .ok (.iconst 1, 1) := by decide +kernel
theorem dL_law_198 : decode cL_law 198 = .ok (.iadd, 1) := by decide +kernel
theorem dL_law_199 : decode cL_law 199 = .ok (.iaload, 1) := by decide +kernel
theorem dL_law_200 : decode cL_law 200 = .ok (.invokevirtual 106, 3) := by decide +kernel
theorem dL_law_203 : decode cL_law 203 = .ok (.istore 6, 2) := by decide +kernel
theorem dL_law_205 : decode cL_law 205 = .ok (.aload_n 2, 1) := by decide +kernel
theorem dL_law_206 : decode cL_law 206 = .ok (.invokevirtual 107, 3) := by decide +kernel
theorem dL_law_209 : decode cL_law 209 = .ok (.iload 5, 2) := by decide +kernel
theorem dL_law_211 : decode cL_law 211 = .ok (.if_icmp .eq 5, 3) := by decide +kernel
theorem dL_law_214 : decode cL_law 214 = .ok (.iconst 0, 1) := by decide +kernel
theorem dL_law_215 : decode cL_law 215 = .ok (.ireturn, 1) := by decide +kernel
theorem dL_law_216 : decode cL_law 216 = .ok (.iload 5, 2) := by decide +kernel
theorem dL_law_218 : decode cL_law 218 = .ok (.ifCond .ne 15, 3) := by decide +kernel
theorem dL_law_221 : decode cL_law 221 = .ok (.aload_n 3, 1) := by decide +kernel
theorem dL_law_222 : decode cL_law 222 = .ok (.iconst 0, 1) := by decide +kernel
theorem dL_law_223 : decode cL_law 223 = .ok (.laload, 1) := by decide +kernel
theorem dL_law_224 : decode cL_law 224 = .ok (.iload 6, 2) := by decide +kernel
theorem dL_law_226 : decode cL_law 226 = .ok (.i2l, 1) := by decide +kernel
theorem dL_law_227 : decode cL_law 227 = .ok (.lcmp, 1) := by decide +kernel
theorem dL_law_228 : decode cL_law 228 = .ok (.ifCond .eq 5, 3) := by decide +kernel
theorem dL_law_231 : decode cL_law 231 = .ok (.iconst 0, 1) := by decide +kernel
theorem dL_law_232 : decode cL_law 232 = .ok (.ireturn, 1) := by decide +kernel
theorem dL_law_233 : decode cL_law 233 = .ok (.goto 1630, 3) := by decide +kernel
theorem dL_law_236 : decode cL_law 236 = .ok (.aload_n 1, 1) := by decide +kernel
theorem dL_law_237 : decode cL_law 237 = .ok (.aload_n 0, 1) := by decide +kernel
theorem dL_law_238 : decode cL_law 238 = .ok (.iload 4, 2) := by decide +kernel
theorem dL_law_240 : decode cL_law 240 = .ok (.iconst 1, 1) := by decide +kernel
theorem dL_law_241 : decode cL_law 241 = .ok (.iadd, 1) := by decide +kernel
theorem dL_law_242 : decode cL_law 242 = .ok (.iaload, 1) := by decide +kernel
theorem dL_law_243 : decode cL_law 243 = .ok (.aload_n 0, 1) := by decide +kernel
theorem dL_law_244 : decode cL_law 244 = .ok (.iload 4, 2) := by decide +kernel
theorem dL_law_246 : decode cL_law 246 = .ok (.iconst 2, 1) := by decide +kernel
theorem dL_law_247 : decode cL_law 247 = .ok (.iadd, 1) := by decide +kernel
theorem dL_law_248 : decode cL_law 248 = .ok (.iaload, 1) := by decide +kernel
theorem dL_law_249 : decode cL_law 249 = .ok (.aload_n 0, 1) := by decide +kernel
theorem dL_law_250 : decode cL_law 250 = .ok (.iload 4, 2) := by decide +kernel
theorem dL_law_252 : decode cL_law 252 = .ok (.iconst 3, 1) := by decide +kernel
theorem dL_law_253 : decode cL_law 253 = .ok (.iadd, 1) := by decide +kernel
theorem dL_law_254 : decode cL_law 254 = .ok (.iaload, 1) := by decide +kernel
theorem dL_law_255 : decode cL_law 255 = .ok (.aload_n 3, 1) := by decide +kernel
theorem dL_law_256 : decode cL_law 256 = .ok (.invokestatic 110, 3) := by decide +kernel
theorem dL_law_259 : decode cL_law 259 = .ok (.istore 5, 2) := by decide +kernel
theorem dL_law_261 : decode cL_law 261 = .ok (.aload_n 2, 1) := by decide +kernel
theorem dL_law_262 : decode cL_law 262 = .ok (.aload_n 0, 1) := by decide +kernel
theorem dL_law_263 : decode cL_law 263 = .ok (.iload 4, 2) := by decide +kernel
theorem dL_law_265 : decode cL_law 265 = .ok (.iconst 1, 1) := by decide +kernel
theorem dL_law_266 : decode cL_law 266 = .ok (.iadd, 1) := by decide +kernel
theorem dL_law_267 : decode cL_law 267 = .ok (.iaload, 1) := by decide +kernel
theorem dL_law_268 : decode cL_law 268 = .ok (.aload_n 0, 1) := by decide +kernel
theorem dL_law_269 : decode cL_law 269 = .ok (.iload 4, 2) := by decide +kernel
theorem dL_law_271 : decode cL_law 271 = .ok (.iconst 2, 1) := by decide +kernel
theorem dL_law_272 : decode cL_law 272 = .ok (.iadd, 1) := by decide +kernel
theorem dL_law_273 : decode cL_law 273 = .ok (.iaload, 1) := by decide +kernel
theorem dL_law_274 : decode cL_law 274 = .ok (.aload_n 0, 1) := by decide +kernel
theorem dL_law_275 : decode cL_law 275 = .ok (.iload 4, 2) := by decide +kernel
theorem dL_law_277 : decode cL_law 277 = .ok (.iconst 3, 1) := by decide +kernel
theorem dL_law_278 : decode cL_law 278 = .ok (.iadd, 1) := by decide +kernel
theorem dL_law_279 : decode cL_law 279 = .ok (.iaload, 1) := by decide +kernel
theorem dL_law_280 : decode cL_law 280 = .ok (.invokevirtual 113, 3) := by decide +kernel
theorem dL_law_283 : decode cL_law 283 = .ok (.istore 6, 2) := by decide +kernel
theorem dL_law_285 : decode cL_law 285 = .ok (.aload_n 2, 1) := by decide +kernel
theorem dL_law_286 : decode cL_law 286 = .ok (.invokevirtual 107, 3) := by decide +kernel
theorem dL_law_289 : decode cL_law 289 = .ok (.iload 5, 2) := by decide +kernel
theorem dL_law_291 : decode cL_law 291 = .ok (.if_icmp .eq 5, 3) := by decide +kernel
theorem dL_law_294 : decode cL_law 294 = .ok (.iconst 0, 1) := by decide +kernel
theorem dL_law_295 : decode cL_law 295 = .ok (.ireturn, 1) := by decide +kernel
theorem dL_law_296 : decode cL_law 296 = .ok (.iload 5, 2) := by decide +kernel
theorem dL_law_298 : decode cL_law 298 = .ok (.ifCond .ne 15, 3) := by decide +kernel
theorem dL_law_301 : decode cL_law 301 = .ok (.aload_n 3, 1) := by decide +kernel
theorem dL_law_302 : decode cL_law 302 = .ok (.iconst 0, 1) := by decide +kernel
theorem dL_law_303 : decode cL_law 303 = .ok (.laload, 1) := by decide +kernel
theorem dL_law_304 : decode cL_law 304 = .ok (.iload 6, 2) := by decide +kernel
theorem dL_law_306 : decode cL_law 306 = .ok (.i2l, 1) := by decide +kernel
theorem dL_law_307 : decode cL_law 307 = .ok (.lcmp, 1) := by decide +kernel
theorem dL_law_308 : decode cL_law 308 = .ok (.ifCond .eq 5, 3) := by decide +kernel
theorem dL_law_311 : decode cL_law 311 = .ok (.iconst 0, 1) := by decide +kernel
theorem dL_law_312 : decode cL_law 312 = .ok (.ireturn, 1) := by decide +kernel
theorem dL_law_313 : decode cL_law 313 = .ok (.goto 1550, 3) := by decide +kernel
theorem dL_law_316 : decode cL_law 316 = .ok (.aload_n 1, 1) := by decide +kernel
theorem dL_law_317 : decode cL_law 317 = .ok (.aload_n 0, 1) := by decide +kernel
theorem dL_law_318 : decode cL_law 318 = .ok (.iload 4, 2) := by decide +kernel
theorem dL_law_320 : decode cL_law 320 = .ok (.iconst 1, 1) := by decide +kernel
theorem dL_law_321 : decode cL_law 321 = .ok (.iadd, 1) := by decide +kernel
theorem dL_law_322 : decode cL_law 322 = .ok (.iaload, 1) := by decide +kernel
theorem dL_law_323 : decode cL_law 323 = .ok (.aload_n 3, 1) := by decide +kernel
theorem dL_law_324 : decode cL_law 324 = .ok (.invokestatic 114, 3) := by decide +kernel
theorem dL_law_327 : decode cL_law 327 = .ok (.istore 5, 2) := by decide +kernel
theorem dL_law_329 : decode cL_law 329 = .ok (.aload_n 2, 1) := by decide +kernel
theorem dL_law_330 : decode cL_law 330 = .ok (.aload_n 0, 1) := by decide +kernel
theorem dL_law_331 : decode cL_law 331 = .ok (.iload 4, 2) := by decide +kernel
theorem dL_law_333 : decode cL_law 333 = .ok (.iconst 1, 1) := by decide +kernel
theorem dL_law_334 : decode cL_law 334 = .ok (.iadd, 1) := by decide +kernel
theorem dL_law_335 : decode cL_law 335 = .ok (.iaload, 1) := by decide +kernel
theorem dL_law_336 : decode cL_law 336 = .ok (.invokevirtual 116, 3) := by decide +kernel
theorem dL_law_339 : decode cL_law 339 = .ok (.istore 6, 2) := by decide +kernel
theorem dL_law_341 : decode cL_law 341 = .ok (.aload_n 2, 1) := by decide +kernel
theorem dL_law_342 : decode cL_law 342 = .ok (.invokevirtual 107, 3) := by decide +kernel
theorem dL_law_345 : decode cL_law 345 = .ok (.iload 5, 2) := by decide +kernel
theorem dL_law_347 : decode cL_law 347 = .ok (.if_icmp .eq 5, 3) := by decide +kernel
theorem dL_law_350 : decode cL_law 350 = .ok (.iconst 0, 1) := by decide +kernel
theorem dL_law_351 : decode cL_law 351 = .ok (.ireturn, 1) := by decide +kernel
theorem dL_law_352 : decode cL_law 352 = .ok (.iload 5, 2) := by decide +kernel
theorem dL_law_354 : decode cL_law 354 = .ok (.ifCond .ne 15, 3) := by decide +kernel
theorem dL_law_357 : decode cL_law 357 = .ok (.aload_n 3, 1) := by decide +kernel
theorem dL_law_358 : decode cL_law 358 = .ok (.iconst 0, 1) := by decide +kernel
theorem dL_law_359 : decode cL_law 359 = .ok (.laload, 1) := by decide +kernel
theorem dL_law_360 : decode cL_law 360 = .ok (.iload 6, 2) := by decide +kernel
theorem dL_law_362 : decode cL_law 362 = .ok (.i2l, 1) := by decide +kernel
theorem dL_law_363 : decode cL_law 363 = .ok (.lcmp, 1) := by decide +kernel
theorem dL_law_364 : decode cL_law 364 = .ok (.ifCond .eq 5, 3) := by decide +kernel
theorem dL_law_367 : decode cL_law 367 = .ok (.iconst 0, 1) := by decide +kernel
theorem dL_law_368 : decode cL_law 368 = .ok (.ireturn, 1) := by decide +kernel
theorem dL_law_369 : decode cL_law 369 = .ok (.goto 1494, 3) := by decide +kernel
theorem dL_law_372 : decode cL_law 372 = .ok (.aload_n 1, 1) := by decide +kernel
theorem dL_law_373 : decode cL_law 373 = .ok (.aload_n 0, 1) := by decide +kernel
theorem dL_law_374 : decode cL_law 374 = .ok (.iload 4, 2) := by decide +kernel
theorem dL_law_376 : decode cL_law 376 = .ok (.iconst 1, 1) := by decide +kernel
theorem dL_law_377 : decode cL_law 377 = .ok (.iadd, 1) := by decide +kernel
theorem dL_law_378 : decode cL_law 378 = .ok (.iaload, 1) := by decide +kernel
theorem dL_law_379 : decode cL_law 379 = .ok (.aload_n 3, 1) := by decide +kernel
theorem dL_law_380 : decode cL_law 380 = .ok (.invokestatic 117, 3) := by decide +kernel
theorem dL_law_383 : decode cL_law 383 = .ok (.istore 5, 2) := by decide +kernel
theorem dL_law_385 : decode cL_law 385 = .ok (.aload_n 2, 1) := by decide +kernel
theorem dL_law_386 : decode cL_law 386 = .ok (.aload_n 0, 1) := by decide +kernel
theorem dL_law_387 : decode cL_law 387 = .ok (.iload 4, 2) := by decide +kernel
theorem dL_law_389 : decode cL_law 389 = .ok (.iconst 1, 1) := by decide +kernel
theorem dL_law_390 : decode cL_law 390 = .ok (.iadd, 1) := by decide +kernel
theorem dL_law_391 : decode cL_law 391 = .ok (.iaload, 1) := by decide +kernel
theorem dL_law_392 : decode cL_law 392 = .ok (.invokevirtual 119, 3) := by decide +kernel
theorem dL_law_395 : decode cL_law 395 = .ok (.istore 6, 2) := by decide +kernel
theorem dL_law_397 : decode cL_law 397 = .ok (.aload_n 2, 1) := by decide +kernel
theorem dL_law_398 : decode cL_law 398 = .ok (.invokevirtual 107, 3) := by decide +kernel
theorem dL_law_401 : decode cL_law 401 = .ok (.iload 5, 2) := by decide +kernel
theorem dL_law_403 : decode cL_law 403 = .ok (.if_icmp .eq 5, 3) := by decide +kernel
theorem dL_law_406 : decode cL_law 406 = .ok (.iconst 0, 1) := by decide +kernel
theorem dL_law_407 : decode cL_law 407 = .ok (.ireturn, 1) := by decide +kernel
theorem dL_law_408 : decode cL_law 408 = .ok (.iload 5, 2) := by decide +kernel
theorem dL_law_410 : decode cL_law 410 = .ok (.ifCond .ne 15, 3) := by decide +kernel
theorem dL_law_413 : decode cL_law 413 = .ok (.aload_n 3, 1) := by decide +kernel
theorem dL_law_414 : decode cL_law 414 = .ok (.iconst 0, 1) := by decide +kernel
theorem dL_law_415 : decode cL_law 415 = .ok (.laload, 1) := by decide +kernel
theorem dL_law_416 : decode cL_law 416 = .ok (.iload 6, 2) := by decide +kernel
theorem dL_law_418 : decode cL_law 418 = .ok (.i2l, 1) := by decide +kernel
theorem dL_law_419 : decode cL_law 419 = .ok (.lcmp, 1) := by decide +kernel
theorem dL_law_420 : decode cL_law 420 = .ok (.ifCond .eq 5, 3) := by decide +kernel
theorem dL_law_423 : decode cL_law 423 = .ok (.iconst 0, 1) := by decide +kernel
theorem dL_law_424 : decode cL_law 424 = .ok (.ireturn, 1) := by decide +kernel
theorem dL_law_425 : decode cL_law 425 = .ok (.goto 1438, 3) := by decide +kernel
theorem dL_law_428 : decode cL_law 428 = .ok (.aload_n 1, 1) := by decide +kernel
theorem dL_law_429 : decode cL_law 429 = .ok (.aload_n 0, 1) := by decide +kernel
theorem dL_law_430 : decode cL_law 430 = .ok (.iload 4, 2) := by decide +kernel
theorem dL_law_432 : decode cL_law 432 = .ok (.iconst 1, 1) := by decide +kernel
theorem dL_law_433 : decode cL_law 433 = .ok (.iadd, 1) := by decide +kernel
theorem dL_law_434 : decode cL_law 434 = .ok (.iaload, 1) := by decide +kernel
theorem dL_law_435 : decode cL_law 435 = .ok (.aload_n 0, 1) := by decide +kernel
theorem dL_law_436 : decode cL_law 436 = .ok (.iload 4, 2) := by decide +kernel
theorem dL_law_438 : decode cL_law 438 = .ok (.iconst 2, 1) := by decide +kernel
theorem dL_law_439 : decode cL_law 439 = .ok (.iadd, 1) := by decide +kernel
theorem dL_law_440 : decode cL_law 440 = .ok (.iaload, 1) := by decide +kernel
theorem dL_law_441 : decode cL_law 441 = .ok (.aload_n 3, 1) := by decide +kernel
theorem dL_law_442 : decode cL_law 442 = .ok (.invokestatic 120, 3) := by decide +kernel
theorem dL_law_445 : decode cL_law 445 = .ok (.istore 5, 2) := by decide +kernel
theorem dL_law_447 : decode cL_law 447 = .ok (.aload_n 2, 1) := by decide +kernel
theorem dL_law_448 : decode cL_law 448 = .ok (.aload_n 0, 1) := by decide +kernel
theorem dL_law_449 : decode cL_law 449 = .ok (.iload 4, 2) := by decide +kernel
theorem dL_law_451 : decode cL_law 451 = .ok (.iconst 1, 1) := by decide +kernel
theorem dL_law_452 : decode cL_law 452 = .ok (.iadd, 1) := by decide +kernel
theorem dL_law_453 : decode cL_law 453 = .ok (.iaload, 1) := by decide +kernel
theorem dL_law_454 : decode cL_law 454 = .ok (.aload_n 0, 1) := by decide +kernel
theorem dL_law_455 : decode cL_law 455 = .ok (.iload 4, 2) := by decide +kernel
theorem dL_law_457 : decode cL_law 457 = .ok (.iconst 2, 1) := by decide +kernel
theorem dL_law_458 : decode cL_law 458 = .ok (.iadd, 1) := by decide +kernel
theorem dL_law_459 : decode cL_law 459 = .ok (.iaload, 1) := by decide +kernel
theorem dL_law_460 : decode cL_law 460 = .ok (.invokevirtual 123, 3) := by decide +kernel
theorem dL_law_463 : decode cL_law 463 = .ok (.istore 6, 2) := by decide +kernel
theorem dL_law_465 : decode cL_law 465 = .ok (.aload_n 2, 1) := by decide +kernel
theorem dL_law_466 : decode cL_law 466 = .ok (.invokevirtual 107, 3) := by decide +kernel
theorem dL_law_469 : decode cL_law 469 = .ok (.iload 5, 2) := by decide +kernel
theorem dL_law_471 : decode cL_law 471 = .ok (.if_icmp .eq 5, 3) := by decide +kernel
theorem dL_law_474 : decode cL_law 474 = .ok (.iconst 0, 1) := by decide +kernel
theorem dL_law_475 : decode cL_law 475 = .ok (.ireturn, 1) := by decide +kernel
theorem dL_law_476 : decode cL_law 476 = .ok (.iload 5, 2) := by decide +kernel
theorem dL_law_478 : decode cL_law 478 = .ok (.ifCond .ne 15, 3) := by decide +kernel
theorem dL_law_481 : decode cL_law 481 = .ok (.aload_n 3, 1) := by decide +kernel
theorem dL_law_482 : decode cL_law 482 = .ok (.iconst 0, 1) := by decide +kernel
theorem dL_law_483 : decode cL_law 483 = .ok (.laload, 1) := by decide +kernel
theorem dL_law_484 : decode cL_law 484 = .ok (.iload 6, 2) := by decide +kernel
theorem dL_law_486 : decode cL_law 486 = .ok (.i2l, 1) := by decide +kernel
theorem dL_law_487 : decode cL_law 487 = .ok (.lcmp, 1) := by decide +kernel
theorem dL_law_488 : decode cL_law 488 = .ok (.ifCond .eq 5, 3) := by decide +kernel
theorem dL_law_491 : decode cL_law 491 = .ok (.iconst 0, 1) := by decide +kernel
theorem dL_law_492 : decode cL_law 492 = .ok (.ireturn, 1) := by decide +kernel
theorem dL_law_493 : decode cL_law 493 = .ok (.goto 1370, 3) := by decide +kernel
theorem dL_law_496 : decode cL_law 496 = .ok (.aload_n 1, 1) := by decide +kernel
theorem dL_law_497 : decode cL_law 497 = .ok (.aload_n 0, 1) := by decide +kernel
theorem dL_law_498 : decode cL_law 498 = .ok (.iload 4, 2) := by decide +kernel
theorem dL_law_500 : decode cL_law 500 = .ok (.iconst 1, 1) := by decide +kernel
theorem dL_law_501 : decode cL_law 501 = .ok (.iadd, 1) := by decide +kernel
theorem dL_law_502 : decode cL_law 502 = .ok (.iaload, 1) := by decide +kernel
theorem dL_law_503 : decode cL_law 503 = .ok (.aload_n 0, 1) := by decide +kernel
theorem dL_law_504 : decode cL_law 504 = .ok (.iload 4, 2) := by decide +kernel
theorem dL_law_506 : decode cL_law 506 = .ok (.iconst 2, 1) := by decide +kernel
theorem dL_law_507 : decode cL_law 507 = .ok (.iadd, 1) := by decide +kernel
theorem dL_law_508 : decode cL_law 508 = .ok (.iaload, 1) := by decide +kernel
theorem dL_law_509 : decode cL_law 509 = .ok (.aload_n 3, 1) := by decide +kernel
theorem dL_law_510 : decode cL_law 510 = .ok (.invokestatic 124, 3) := by decide +kernel
theorem dL_law_513 : decode cL_law 513 = .ok (.istore 5, 2) := by decide +kernel
theorem dL_law_515 : decode cL_law 515 = .ok (.aload_n 2, 1) := by decide +kernel
theorem dL_law_516 : decode cL_law 516 = .ok (.aload_n 0, 1) := by decide +kernel
theorem dL_law_517 : decode cL_law 517 = .ok (.iload 4, 2) := by decide +kernel
theorem dL_law_519 : decode cL_law 519 = .ok (.iconst 1, 1) := by decide +kernel
theorem dL_law_520 : decode cL_law 520 = .ok (.iadd, 1) := by decide +kernel
theorem dL_law_521 : decode cL_law 521 = .ok (.iaload, 1) := by decide +kernel
theorem dL_law_522 : decode cL_law 522 = .ok (.aload_n 0, 1) := by decide +kernel
theorem dL_law_523 : decode cL_law 523 = .ok (.iload 4, 2) := by decide +kernel
theorem dL_law_525 : decode cL_law 525 = .ok (.iconst 2, 1) := by decide +kernel
theorem dL_law_526 : decode cL_law 526 = .ok (.iadd, 1) := by decide +kernel
theorem dL_law_527 : decode cL_law 527 = .ok (.iaload, 1) := by decide +kernel
theorem dL_law_528 : decode cL_law 528 = .ok (.invokevirtual 126, 3) := by decide +kernel
theorem dL_law_531 : decode cL_law 531 = .ok (.istore 6, 2) := by decide +kernel
theorem dL_law_533 : decode cL_law 533 = .ok (.aload_n 2, 1) := by decide +kernel
theorem dL_law_534 : decode cL_law 534 = .ok (.invokevirtual 107, 3) := by decide +kernel
theorem dL_law_537 : decode cL_law 537 = .ok (.iload 5, 2) := by decide +kernel
theorem dL_law_539 : decode cL_law 539 = .ok (.if_icmp .eq 5, 3) := by decide +kernel
theorem dL_law_542 : decode cL_law 542 = .ok (.iconst 0, 1) := by decide +kernel
theorem dL_law_543 : decode cL_law 543 = .ok (.ireturn, 1) := by decide +kernel
theorem dL_law_544 : decode cL_law 544 = .ok (.iload 5, 2) := by decide +kernel
theorem dL_law_546 : decode cL_law 546 = .ok (.ifCond .ne 15, 3) := by decide +kernel
theorem dL_law_549 : decode cL_law 549 = .ok (.aload_n 3, 1) := by decide +kernel
theorem dL_law_550 : decode cL_law 550 = .ok (.iconst 0, 1) := by decide +kernel
theorem dL_law_551 : decode cL_law 551 = .ok (.laload, 1) := by decide +kernel
theorem dL_law_552 : decode cL_law 552 = .ok (.iload 6, 2) := by decide +kernel
theorem dL_law_554 : decode cL_law 554 = .ok (.i2l, 1) := by decide +kernel
theorem dL_law_555 : decode cL_law 555 = .ok (.lcmp, 1) := by decide +kernel
theorem dL_law_556 : decode cL_law 556 = .ok (.ifCond .eq 5, 3) := by decide +kernel
theorem dL_law_559 : decode cL_law 559 = .ok (.iconst 0, 1) := by decide +kernel
theorem dL_law_560 : decode cL_law 560 = .ok (.ireturn, 1) := by decide +kernel
theorem dL_law_561 : decode cL_law 561 = .ok (.goto 1302, 3) := by decide +kernel
theorem dL_law_564 : decode cL_law 564 = .ok (.aload_n 1, 1) := by decide +kernel
theorem dL_law_565 : decode cL_law 565 = .ok (.aload_n 0, 1) := by decide +kernel
theorem dL_law_566 : decode cL_law 566 = .ok (.iload 4, 2) := by decide +kernel
theorem dL_law_568 : decode cL_law 568 = .ok (.iconst 1, 1) := by decide +kernel
theorem dL_law_569 : decode cL_law 569 = .ok (.iadd, 1) := by decide +kernel
theorem dL_law_570 : decode cL_law 570 = .ok (.iaload, 1) := by decide +kernel
theorem dL_law_571 : decode cL_law 571 = .ok (.aload_n 0, 1) := by decide +kernel
theorem dL_law_572 : decode cL_law 572 = .ok (.iload 4, 2) := by decide +kernel
theorem dL_law_574 : decode cL_law 574 = .ok (.iconst 2, 1) := by decide +kernel
theorem dL_law_575 : decode cL_law 575 = .ok (.iadd, 1) := by decide +kernel
theorem dL_law_576 : decode cL_law 576 = .ok (.iaload, 1) := by decide +kernel
theorem dL_law_577 : decode cL_law 577 = .ok (.aload_n 3, 1) := by decide +kernel
theorem dL_law_578 : decode cL_law 578 = .ok (.invokestatic 127, 3) := by decide +kernel
theorem dL_law_581 : decode cL_law 581 = .ok (.istore 5, 2) := by decide +kernel
theorem dL_law_583 : decode cL_law 583 = .ok (.aload_n 2, 1) := by decide +kernel
theorem dL_law_584 : decode cL_law 584 = .ok (.aload_n 0, 1) := by decide +kernel
theorem dL_law_585 : decode cL_law 585 = .ok (.iload 4, 2) := by decide +kernel
theorem dL_law_587 : decode cL_law 587 = .ok (.iconst 1, 1) := by decide +kernel
theorem dL_law_588 : decode cL_law 588 = .ok (.iadd, 1) := by decide +kernel
theorem dL_law_589 : decode cL_law 589 = .ok (.iaload, 1) := by decide +kernel
theorem dL_law_590 : decode cL_law 590 = .ok (.aload_n 0, 1) := by decide +kernel
theorem dL_law_591 : decode cL_law 591 = .ok (.iload 4, 2) := by decide +kernel
theorem dL_law_593 : decode cL_law 593 = .ok (.iconst 2, 1) := by decide +kernel
theorem dL_law_594 : decode cL_law 594 = .ok (.iadd, 1) := by decide +kernel
theorem dL_law_595 : decode cL_law 595 = .ok (.iaload, 1) := by decide +kernel
theorem dL_law_596 : decode cL_law 596 = .ok (.invokevirtual 129, 3) := by decide +kernel
theorem dL_law_599 : decode cL_law 599 = .ok (.istore 6, 2) := by decide +kernel
theorem dL_law_601 : decode cL_law 601 = .ok (.aload_n 2, 1) := by decide +kernel
theorem dL_law_602 : decode cL_law 602 = .ok (.invokevirtual 107, 3) := by decide +kernel
theorem dL_law_605 : decode cL_law 605 = .ok (.iload 5, 2) := by decide +kernel
theorem dL_law_607 : decode cL_law 607 = .ok (.if_icmp .eq 5, 3) := by decide +kernel
theorem dL_law_610 : decode cL_law 610 = .ok (.iconst 0, 1) := by decide +kernel
theorem dL_law_611 : decode cL_law 611 = .ok (.ireturn, 1) := by decide +kernel
theorem dL_law_612 : decode cL_law 612 = .ok (.iload 5, 2) := by decide +kernel
theorem dL_law_614 : decode cL_law 614 = .ok (.ifCond .ne 15, 3) := by decide +kernel
theorem dL_law_617 : decode cL_law 617 = .ok (.aload_n 3, 1) := by decide +kernel
theorem dL_law_618 : decode cL_law 618 = .ok (.iconst 0, 1) := by decide +kernel
theorem dL_law_619 : decode cL_law 619 = .ok (.laload, 1) := by decide +kernel
theorem dL_law_620 : decode cL_law 620 = .ok (.iload 6, 2) := by decide +kernel
theorem dL_law_622 : decode cL_law 622 = .ok (.i2l, 1) := by decide +kernel
theorem dL_law_623 : decode cL_law 623 = .ok (.lcmp, 1) := by decide +kernel
theorem dL_law_624 : decode cL_law 624 = .ok (.ifCond .eq 5, 3) := by decide +kernel
theorem dL_law_627 : decode cL_law 627 = .ok (.iconst 0, 1) := by decide +kernel
theorem dL_law_628 : decode cL_law 628 = .ok (.ireturn, 1) := by decide +kernel
theorem dL_law_629 : decode cL_law 629 = .ok (.goto 1234, 3) := by decide +kernel
theorem dL_law_632 : decode cL_law 632 = .ok (.aload_n 1, 1) := by decide +kernel
theorem dL_law_633 : decode cL_law 633 = .ok (.aload_n 0, 1) := by decide +kernel
theorem dL_law_634 : decode cL_law 634 = .ok (.iload 4, 2) := by decide +kernel
theorem dL_law_636 : decode cL_law 636 = .ok (.iconst 1, 1) := by decide +kernel
theorem dL_law_637 : decode cL_law 637 = .ok (.iadd, 1) := by decide +kernel
theorem dL_law_638 : decode cL_law 638 = .ok (.iaload, 1) := by decide +kernel
theorem dL_law_639 : decode cL_law 639 = .ok (.aload_n 3, 1) := by decide +kernel
theorem dL_law_640 : decode cL_law 640 = .ok (.invokestatic 130, 3) := by decide +kernel
theorem dL_law_643 : decode cL_law 643 = .ok (.istore 5, 2) := by decide +kernel
theorem dL_law_645 : decode cL_law 645 = .ok (.aload_n 2, 1) := by decide +kernel
theorem dL_law_646 : decode cL_law 646 = .ok (.aload_n 0, 1) := by decide +kernel
theorem dL_law_647 : decode cL_law 647 = .ok (.iload 4, 2) := by decide +kernel
theorem dL_law_649 : decode cL_law 649 = .ok (.iconst 1, 1) := by decide +kernel
theorem dL_law_650 : decode cL_law 650 = .ok (.iadd, 1) := by decide +kernel
theorem dL_law_651 : decode cL_law 651 = .ok (.iaload, 1) := by decide +kernel
theorem dL_law_652 : decode cL_law 652 = .ok (.invokevirtual 132, 3) := by decide +kernel
theorem dL_law_655 : decode cL_law 655 = .ok (.istore 6, 2) := by decide +kernel
theorem dL_law_657 : decode cL_law 657 = .ok (.aload_n 2, 1) := by decide +kernel
theorem dL_law_658 : decode cL_law 658 = .ok (.invokevirtual 107, 3) := by decide +kernel
theorem dL_law_661 : decode cL_law 661 = .ok (.iload 5, 2) := by decide +kernel
theorem dL_law_663 : decode cL_law 663 = .ok (.if_icmp .eq 5, 3) := by decide +kernel
theorem dL_law_666 : decode cL_law 666 = .ok (.iconst 0, 1) := by decide +kernel
theorem dL_law_667 : decode cL_law 667 = .ok (.ireturn, 1) := by decide +kernel
theorem dL_law_668 : decode cL_law 668 = .ok (.iload 5, 2) := by decide +kernel
theorem dL_law_670 : decode cL_law 670 = .ok (.ifCond .ne 15, 3) := by decide +kernel
theorem dL_law_673 : decode cL_law 673 = .ok (.aload_n 3, 1) := by decide +kernel
theorem dL_law_674 : decode cL_law 674 = .ok (.iconst 0, 1) := by decide +kernel
theorem dL_law_675 : decode cL_law 675 = .ok (.laload, 1) := by decide +kernel
theorem dL_law_676 : decode cL_law 676 = .ok (.iload 6, 2) := by decide +kernel
theorem dL_law_678 : decode cL_law 678 = .ok (.i2l, 1) := by decide +kernel
theorem dL_law_679 : decode cL_law 679 = .ok (.lcmp, 1) := by decide +kernel
theorem dL_law_680 : decode cL_law 680 = .ok (.ifCond .eq 5, 3) := by decide +kernel
theorem dL_law_683 : decode cL_law 683 = .ok (.iconst 0, 1) := by decide +kernel
theorem dL_law_684 : decode cL_law 684 = .ok (.ireturn, 1) := by decide +kernel
theorem dL_law_685 : decode cL_law 685 = .ok (.goto 1178, 3) := by decide +kernel
theorem dL_law_688 : decode cL_law 688 = .ok (.aload_n 1, 1) := by decide +kernel
theorem dL_law_689 : decode cL_law 689 = .ok (.aload_n 0, 1) := by decide +kernel
theorem dL_law_690 : decode cL_law 690 = .ok (.iload 4, 2) := by decide +kernel
theorem dL_law_692 : decode cL_law 692 = .ok (.iconst 1, 1) := by decide +kernel
theorem dL_law_693 : decode cL_law 693 = .ok (.iadd, 1) := by decide +kernel
theorem dL_law_694 : decode cL_law 694 = .ok (.iaload, 1) := by decide +kernel
theorem dL_law_695 : decode cL_law 695 = .ok (.aload_n 3, 1) := by decide +kernel
theorem dL_law_696 : decode cL_law 696 = .ok (.invokestatic 133, 3) := by decide +kernel
theorem dL_law_699 : decode cL_law 699 = .ok (.istore 5, 2) := by decide +kernel
theorem dL_law_701 : decode cL_law 701 = .ok (.aload_n 2, 1) := by decide +kernel
theorem dL_law_702 : decode cL_law 702 = .ok (.aload_n 0, 1) := by decide +kernel
theorem dL_law_703 : decode cL_law 703 = .ok (.iload 4, 2) := by decide +kernel
theorem dL_law_705 : decode cL_law 705 = .ok (.iconst 1, 1) := by decide +kernel
theorem dL_law_706 : decode cL_law 706 = .ok (.iadd, 1) := by decide +kernel
theorem dL_law_707 : decode cL_law 707 = .ok (.iaload, 1) := by decide +kernel
theorem dL_law_708 : decode cL_law 708 = .ok (.invokevirtual 135, 3) := by decide +kernel
theorem dL_law_711 : decode cL_law 711 = .ok (.istore 6, 2) := by decide +kernel
theorem dL_law_713 : decode cL_law 713 = .ok (.aload_n 2, 1) := by decide +kernel
theorem dL_law_714 : decode cL_law 714 = .ok (.invokevirtual 107, 3) := by decide +kernel
theorem dL_law_717 : decode cL_law 717 = .ok (.iload 5, 2) := by decide +kernel
theorem dL_law_719 : decode cL_law 719 = .ok (.if_icmp .eq 5, 3) := by decide +kernel
theorem dL_law_722 : decode cL_law 722 = .ok (.iconst 0, 1) := by decide +kernel
theorem dL_law_723 : decode cL_law 723 = .ok (.ireturn, 1) := by decide +kernel
theorem dL_law_724 : decode cL_law 724 = .ok (.iload 5, 2) := by decide +kernel
theorem dL_law_726 : decode cL_law 726 = .ok (.ifCond .ne 15, 3) := by decide +kernel
theorem dL_law_729 : decode cL_law 729 = .ok (.aload_n 3, 1) := by decide +kernel
theorem dL_law_730 : decode cL_law 730 = .ok (.iconst 0, 1) := by decide +kernel
theorem dL_law_731 : decode cL_law 731 = .ok (.laload, 1) := by decide +kernel
theorem dL_law_732 : decode cL_law 732 = .ok (.iload 6, 2) := by decide +kernel
theorem dL_law_734 : decode cL_law 734 = .ok (.i2l, 1) := by decide +kernel
theorem dL_law_735 : decode cL_law 735 = .ok (.lcmp, 1) := by decide +kernel
theorem dL_law_736 : decode cL_law 736 = .ok (.ifCond .eq 5, 3) := by decide +kernel
theorem dL_law_739 : decode cL_law 739 = .ok (.iconst 0, 1) := by decide +kernel
theorem dL_law_740 : decode cL_law 740 = .ok (.ireturn, 1) := by decide +kernel
theorem dL_law_741 : decode cL_law 741 = .ok (.goto 1122, 3) := by decide +kernel
theorem dL_law_744 : decode cL_law 744 = .ok (.aload_n 1, 1) := by decide +kernel
theorem dL_law_745 : decode cL_law 745 = .ok (.aload_n 0, 1) := by decide +kernel
theorem dL_law_746 : decode cL_law 746 = .ok (.iload 4, 2) := by decide +kernel
theorem dL_law_748 : decode cL_law 748 = .ok (.iconst 1, 1) := by decide +kernel
theorem dL_law_749 : decode cL_law 749 = .ok (.iadd, 1) := by decide +kernel
theorem dL_law_750 : decode cL_law 750 = .ok (.iaload, 1) := by decide +kernel
theorem dL_law_751 : decode cL_law 751 = .ok (.aload_n 3, 1) := by decide +kernel
theorem dL_law_752 : decode cL_law 752 = .ok (.invokestatic 136, 3) := by decide +kernel
theorem dL_law_755 : decode cL_law 755 = .ok (.istore 5, 2) := by decide +kernel
theorem dL_law_757 : decode cL_law 757 = .ok (.aload_n 2, 1) := by decide +kernel
theorem dL_law_758 : decode cL_law 758 = .ok (.aload_n 0, 1) := by decide +kernel
theorem dL_law_759 : decode cL_law 759 = .ok (.iload 4, 2) := by decide +kernel
theorem dL_law_761 : decode cL_law 761 = .ok (.iconst 1, 1) := by decide +kernel
theorem dL_law_762 : decode cL_law 762 = .ok (.iadd, 1) := by decide +kernel
theorem dL_law_763 : decode cL_law 763 = .ok (.iaload, 1) := by decide +kernel
theorem dL_law_764 : decode cL_law 764 = .ok (.invokevirtual 138, 3) := by decide +kernel
theorem dL_law_767 : decode cL_law 767 = .ok (.istore 6, 2) := by decide +kernel
theorem dL_law_769 : decode cL_law 769 = .ok (.aload_n 2, 1) := by decide +kernel
theorem dL_law_770 : decode cL_law 770 = .ok (.invokevirtual 107, 3) := by decide +kernel
theorem dL_law_773 : decode cL_law 773 = .ok (.iload 5, 2) := by decide +kernel
theorem dL_law_775 : decode cL_law 775 = .ok (.if_icmp .eq 5, 3) := by decide +kernel
theorem dL_law_778 : decode cL_law 778 = .ok (.iconst 0, 1) := by decide +kernel
theorem dL_law_779 : decode cL_law 779 = .ok (.ireturn, 1) := by decide +kernel
theorem dL_law_780 : decode cL_law 780 = .ok (.iload 5, 2) := by decide +kernel
theorem dL_law_782 : decode cL_law 782 = .ok (.ifCond .ne 15, 3) := by decide +kernel
theorem dL_law_785 : decode cL_law 785 = .ok (.aload_n 3, 1) := by decide +kernel
theorem dL_law_786 : decode cL_law 786 = .ok (.iconst 0, 1) := by decide +kernel
theorem dL_law_787 : decode cL_law 787 = .ok (.laload, 1) := by decide +kernel
theorem dL_law_788 : decode cL_law 788 = .ok (.iload 6, 2) := by decide +kernel
theorem dL_law_790 : decode cL_law 790 = .ok (.i2l, 1) := by decide +kernel
theorem dL_law_791 : decode cL_law 791 = .ok (.lcmp, 1) := by decide +kernel
theorem dL_law_792 : decode cL_law 792 = .ok (.ifCond .eq 5, 3) := by decide +kernel
theorem dL_law_795 : decode cL_law 795 = .ok (.iconst 0, 1) := by decide +kernel
theorem dL_law_796 : decode cL_law 796 = .ok (.ireturn, 1) := by decide +kernel
theorem dL_law_797 : decode cL_law 797 = .ok (.goto 1066, 3) := by decide +kernel
theorem dL_law_800 : decode cL_law 800 = .ok (.aload_n 1, 1) := by decide +kernel
theorem dL_law_801 : decode cL_law 801 = .ok (.aload_n 0, 1) := by decide +kernel
theorem dL_law_802 : decode cL_law 802 = .ok (.iload 4, 2) := by decide +kernel
theorem dL_law_804 : decode cL_law 804 = .ok (.iconst 1, 1) := by decide +kernel
theorem dL_law_805 : decode cL_law 805 = .ok (.iadd, 1) := by decide +kernel
theorem dL_law_806 : decode cL_law 806 = .ok (.iaload, 1) := by decide +kernel
theorem dL_law_807 : decode cL_law 807 = .ok (.aload_n 3, 1) := by decide +kernel
theorem dL_law_808 : decode cL_law 808 = .ok (.invokestatic 139, 3) := by decide +kernel
theorem dL_law_811 : decode cL_law 811 = .ok (.istore 5, 2) := by decide +kernel
theorem dL_law_813 : decode cL_law 813 = .ok (.aload_n 2, 1) := by decide +kernel
theorem dL_law_814 : decode cL_law 814 = .ok (.aload_n 0, 1) := by decide +kernel
theorem dL_law_815 : decode cL_law 815 = .ok (.iload 4, 2) := by decide +kernel
theorem dL_law_817 : decode cL_law 817 = .ok (.iconst 1, 1) := by decide +kernel
theorem dL_law_818 : decode cL_law 818 = .ok (.iadd, 1) := by decide +kernel
theorem dL_law_819 : decode cL_law 819 = .ok (.iaload, 1) := by decide +kernel
theorem dL_law_820 : decode cL_law 820 = .ok (.invokevirtual 141, 3) := by decide +kernel
theorem dL_law_823 : decode cL_law 823 = .ok (.istore 6, 2) := by decide +kernel
theorem dL_law_825 : decode cL_law 825 = .ok (.aload_n 2, 1) := by decide +kernel
theorem dL_law_826 : decode cL_law 826 = .ok (.invokevirtual 107, 3) := by decide +kernel
theorem dL_law_829 : decode cL_law 829 = .ok (.iload 5, 2) := by decide +kernel
theorem dL_law_831 : decode cL_law 831 = .ok (.if_icmp .eq 5, 3) := by decide +kernel
theorem dL_law_834 : decode cL_law 834 = .ok (.iconst 0, 1) := by decide +kernel
theorem dL_law_835 : decode cL_law 835 = .ok (.ireturn, 1) := by decide +kernel
theorem dL_law_836 : decode cL_law 836 = .ok (.iload 5, 2) := by decide +kernel
theorem dL_law_838 : decode cL_law 838 = .ok (.ifCond .ne 15, 3) := by decide +kernel
theorem dL_law_841 : decode cL_law 841 = .ok (.aload_n 3, 1) := by decide +kernel
theorem dL_law_842 : decode cL_law 842 = .ok (.iconst 0, 1) := by decide +kernel
theorem dL_law_843 : decode cL_law 843 = .ok (.laload, 1) := by decide +kernel
theorem dL_law_844 : decode cL_law 844 = .ok (.iload 6, 2) := by decide +kernel
theorem dL_law_846 : decode cL_law 846 = .ok (.i2l, 1) := by decide +kernel
theorem dL_law_847 : decode cL_law 847 = .ok (.lcmp, 1) := by decide +kernel
theorem dL_law_848 : decode cL_law 848 = .ok (.ifCond .eq 5, 3) := by decide +kernel
theorem dL_law_851 : decode cL_law 851 = .ok (.iconst 0, 1) := by decide +kernel
theorem dL_law_852 : decode cL_law 852 = .ok (.ireturn, 1) := by decide +kernel
theorem dL_law_853 : decode cL_law 853 = .ok (.goto 1010, 3) := by decide +kernel
theorem dL_law_856 : decode cL_law 856 = .ok (.aload_n 1, 1) := by decide +kernel
theorem dL_law_857 : decode cL_law 857 = .ok (.aload_n 0, 1) := by decide +kernel
theorem dL_law_858 : decode cL_law 858 = .ok (.iload 4, 2) := by decide +kernel
theorem dL_law_860 : decode cL_law 860 = .ok (.iconst 1, 1) := by decide +kernel
theorem dL_law_861 : decode cL_law 861 = .ok (.iadd, 1) := by decide +kernel
theorem dL_law_862 : decode cL_law 862 = .ok (.iaload, 1) := by decide +kernel
theorem dL_law_863 : decode cL_law 863 = .ok (.aload_n 3, 1) := by decide +kernel
theorem dL_law_864 : decode cL_law 864 = .ok (.invokestatic 142, 3) := by decide +kernel
theorem dL_law_867 : decode cL_law 867 = .ok (.istore 5, 2) := by decide +kernel
theorem dL_law_869 : decode cL_law 869 = .ok (.aload_n 2, 1) := by decide +kernel
theorem dL_law_870 : decode cL_law 870 = .ok (.aload_n 0, 1) := by decide +kernel
theorem dL_law_871 : decode cL_law 871 = .ok (.iload 4, 2) := by decide +kernel
theorem dL_law_873 : decode cL_law 873 = .ok (.iconst 1, 1) := by decide +kernel
theorem dL_law_874 : decode cL_law 874 = .ok (.iadd, 1) := by decide +kernel
theorem dL_law_875 : decode cL_law 875 = .ok (.iaload, 1) := by decide +kernel
theorem dL_law_876 : decode cL_law 876 = .ok (.invokevirtual 144, 3) := by decide +kernel
theorem dL_law_879 : decode cL_law 879 = .ok (.istore 6, 2) := by decide +kernel
theorem dL_law_881 : decode cL_law 881 = .ok (.aload_n 2, 1) := by decide +kernel
theorem dL_law_882 : decode cL_law 882 = .ok (.invokevirtual 107, 3) := by decide +kernel
theorem dL_law_885 : decode cL_law 885 = .ok (.iload 5, 2) := by decide +kernel
theorem dL_law_887 : decode cL_law 887 = .ok (.if_icmp .eq 5, 3) := by decide +kernel
theorem dL_law_890 : decode cL_law 890 = .ok (.iconst 0, 1) := by decide +kernel
theorem dL_law_891 : decode cL_law 891 = .ok (.ireturn, 1) := by decide +kernel
theorem dL_law_892 : decode cL_law 892 = .ok (.iload 5, 2) := by decide +kernel
theorem dL_law_894 : decode cL_law 894 = .ok (.ifCond .ne 15, 3) := by decide +kernel
theorem dL_law_897 : decode cL_law 897 = .ok (.aload_n 3, 1) := by decide +kernel
theorem dL_law_898 : decode cL_law 898 = .ok (.iconst 0, 1) := by decide +kernel
theorem dL_law_899 : decode cL_law 899 = .ok (.laload, 1) := by decide +kernel
theorem dL_law_900 : decode cL_law 900 = .ok (.iload 6, 2) := by decide +kernel
theorem dL_law_902 : decode cL_law 902 = .ok (.i2l, 1) := by decide +kernel
theorem dL_law_903 : decode cL_law 903 = .ok (.lcmp, 1) := by decide +kernel
theorem dL_law_904 : decode cL_law 904 = .ok (.ifCond .eq 5, 3) := by decide +kernel
theorem dL_law_907 : decode cL_law 907 = .ok (.iconst 0, 1) := by decide +kernel
theorem dL_law_908 : decode cL_law 908 = .ok (.ireturn, 1) := by decide +kernel
theorem dL_law_909 : decode cL_law 909 = .ok (.goto 954, 3) := by decide +kernel
theorem dL_law_912 : decode cL_law 912 = .ok (.aload_n 1, 1) := by decide +kernel
theorem dL_law_913 : decode cL_law 913 = .ok (.aload_n 0, 1) := by decide +kernel
theorem dL_law_914 : decode cL_law 914 = .ok (.iload 4, 2) := by decide +kernel
theorem dL_law_916 : decode cL_law 916 = .ok (.iconst 1, 1) := by decide +kernel
theorem dL_law_917 : decode cL_law 917 = .ok (.iadd, 1) := by decide +kernel
theorem dL_law_918 : decode cL_law 918 = .ok (.iaload, 1) := by decide +kernel
theorem dL_law_919 : decode cL_law 919 = .ok (.aload_n 3, 1) := by decide +kernel
theorem dL_law_920 : decode cL_law 920 = .ok (.invokestatic 145, 3) := by decide +kernel
theorem dL_law_923 : decode cL_law 923 = .ok (.istore 5, 2) := by decide +kernel
theorem dL_law_925 : decode cL_law 925 = .ok (.aload_n 2, 1) := by decide +kernel
theorem dL_law_926 : decode cL_law 926 = .ok (.aload_n 0, 1) := by decide +kernel
theorem dL_law_927 : decode cL_law 927 = .ok (.iload 4, 2) := by decide +kernel
theorem dL_law_929 : decode cL_law 929 = .ok (.iconst 1, 1) := by decide +kernel
theorem dL_law_930 : decode cL_law 930 = .ok (.iadd, 1) := by decide +kernel
theorem dL_law_931 : decode cL_law 931 = .ok (.iaload, 1) := by decide +kernel
theorem dL_law_932 : decode cL_law 932 = .ok (.invokevirtual 147, 3) := by decide +kernel
theorem dL_law_935 : decode cL_law 935 = .ok (.istore 6, 2) := by decide +kernel
theorem dL_law_937 : decode cL_law 937 = .ok (.aload_n 2, 1) := by decide +kernel
theorem dL_law_938 : decode cL_law 938 = .ok (.invokevirtual 107, 3) := by decide +kernel
theorem dL_law_941 : decode cL_law 941 = .ok (.iload 5, 2) := by decide +kernel
theorem dL_law_943 : decode cL_law 943 = .ok (.if_icmp .eq 5, 3) := by decide +kernel
theorem dL_law_946 : decode cL_law 946 = .ok (.iconst 0, 1) := by decide +kernel
theorem dL_law_947 : decode cL_law 947 = .ok (.ireturn, 1) := by decide +kernel
theorem dL_law_948 : decode cL_law 948 = .ok (.iload 5, 2) := by decide +kernel
theorem dL_law_950 : decode cL_law 950 = .ok (.ifCond .ne 15, 3) := by decide +kernel
theorem dL_law_953 : decode cL_law 953 = .ok (.aload_n 3, 1) := by decide +kernel
theorem dL_law_954 : decode cL_law 954 = .ok (.iconst 0, 1) := by decide +kernel
theorem dL_law_955 : decode cL_law 955 = .ok (.laload, 1) := by decide +kernel
theorem dL_law_956 : decode cL_law 956 = .ok (.iload 6, 2) := by decide +kernel
theorem dL_law_958 : decode cL_law 958 = .ok (.i2l, 1) := by decide +kernel
theorem dL_law_959 : decode cL_law 959 = .ok (.lcmp, 1) := by decide +kernel
theorem dL_law_960 : decode cL_law 960 = .ok (.ifCond .eq 5, 3) := by decide +kernel
theorem dL_law_963 : decode cL_law 963 = .ok (.iconst 0, 1) := by decide +kernel
theorem dL_law_964 : decode cL_law 964 = .ok (.ireturn, 1) := by decide +kernel
theorem dL_law_965 : decode cL_law 965 = .ok (.goto 898, 3) := by decide +kernel
theorem dL_law_968 : decode cL_law 968 = .ok (.aload_n 1, 1) := by decide +kernel
theorem dL_law_969 : decode cL_law 969 = .ok (.aload_n 0, 1) := by decide +kernel
theorem dL_law_970 : decode cL_law 970 = .ok (.iload 4, 2) := by decide +kernel
theorem dL_law_972 : decode cL_law 972 = .ok (.iconst 1, 1) := by decide +kernel
theorem dL_law_973 : decode cL_law 973 = .ok (.iadd, 1) := by decide +kernel
theorem dL_law_974 : decode cL_law 974 = .ok (.iaload, 1) := by decide +kernel
theorem dL_law_975 : decode cL_law 975 = .ok (.aload_n 0, 1) := by decide +kernel
theorem dL_law_976 : decode cL_law 976 = .ok (.iload 4, 2) := by decide +kernel
theorem dL_law_978 : decode cL_law 978 = .ok (.iconst 2, 1) := by decide +kernel
theorem dL_law_979 : decode cL_law 979 = .ok (.iadd, 1) := by decide +kernel
theorem dL_law_980 : decode cL_law 980 = .ok (.iaload, 1) := by decide +kernel
theorem dL_law_981 : decode cL_law 981 = .ok (.aload_n 3, 1) := by decide +kernel
theorem dL_law_982 : decode cL_law 982 = .ok (.invokestatic 148, 3) := by decide +kernel
theorem dL_law_985 : decode cL_law 985 = .ok (.istore 5, 2) := by decide +kernel
theorem dL_law_987 : decode cL_law 987 = .ok (.aload_n 2, 1) := by decide +kernel
theorem dL_law_988 : decode cL_law 988 = .ok (.aload_n 0, 1) := by decide +kernel
theorem dL_law_989 : decode cL_law 989 = .ok (.iload 4, 2) := by decide +kernel
theorem dL_law_991 : decode cL_law 991 = .ok (.iconst 1, 1) := by decide +kernel
theorem dL_law_992 : decode cL_law 992 = .ok (.iadd, 1) := by decide +kernel
theorem dL_law_993 : decode cL_law 993 = .ok (.iaload, 1) := by decide +kernel
theorem dL_law_994 : decode cL_law 994 = .ok (.aload_n 0, 1) := by decide +kernel
theorem dL_law_995 : decode cL_law 995 = .ok (.iload 4, 2) := by decide +kernel
theorem dL_law_997 : decode cL_law 997 = .ok (.iconst 2, 1) := by decide +kernel
theorem dL_law_998 : decode cL_law 998 = .ok (.iadd, 1) := by decide +kernel
theorem dL_law_999 : decode cL_law 999 = .ok (.iaload, 1) := by decide +kernel
theorem dL_law_1000 : decode cL_law 1000 = .ok (.invokevirtual 150, 3) := by decide +kernel
theorem dL_law_1003 : decode cL_law 1003 = .ok (.istore 6, 2) := by decide +kernel
theorem dL_law_1005 : decode cL_law 1005 = .ok (.aload_n 2, 1) := by decide +kernel
theorem dL_law_1006 : decode cL_law 1006 = .ok (.invokevirtual 107, 3) := by decide +kernel
theorem dL_law_1009 : decode cL_law 1009 = .ok (.iload 5, 2) := by decide +kernel
theorem dL_law_1011 : decode cL_law 1011 = .ok (.if_icmp .eq 5, 3) := by decide +kernel
theorem dL_law_1014 : decode cL_law 1014 = .ok (.iconst 0, 1) := by decide +kernel
theorem dL_law_1015 : decode cL_law 1015 = .ok (.ireturn, 1) := by decide +kernel
theorem dL_law_1016 : decode cL_law 1016 = .ok (.iload 5, 2) := by decide +kernel
theorem dL_law_1018 : decode cL_law 1018 = .ok (.ifCond .ne 15, 3) := by decide +kernel
theorem dL_law_1021 : decode cL_law 1021 = .ok (.aload_n 3, 1) := by decide +kernel
theorem dL_law_1022 : decode cL_law 1022 = .ok (.iconst 0, 1) := by decide +kernel
theorem dL_law_1023 : decode cL_law 1023 = .ok (.laload, 1) := by decide +kernel
theorem dL_law_1024 : decode cL_law 1024 = .ok (.iload 6, 2) := by decide +kernel
theorem dL_law_1026 : decode cL_law 1026 = .ok (.i2l, 1) := by decide +kernel
theorem dL_law_1027 : decode cL_law 1027 = .ok (.lcmp, 1) := by decide +kernel
theorem dL_law_1028 : decode cL_law 1028 = .ok (.ifCond .eq 5, 3) := by decide +kernel
theorem dL_law_1031 : decode cL_law 1031 = .ok (.iconst 0, 1) := by decide +kernel
theorem dL_law_1032 : decode cL_law 1032 = .ok (.ireturn, 1) := by decide +kernel
theorem dL_law_1033 : decode cL_law 1033 = .ok (.goto 830, 3) := by decide +kernel
theorem dL_law_1036 : decode cL_law 1036 = .ok (.aload_n 1, 1) := by decide +kernel
theorem dL_law_1037 : decode cL_law 1037 = .ok (.aload_n 0, 1) := by decide +kernel
theorem dL_law_1038 : decode cL_law 1038 = .ok (.iload 4, 2) := by decide +kernel
theorem dL_law_1040 : decode cL_law 1040 = .ok (.iconst 1, 1) := by decide +kernel
theorem dL_law_1041 : decode cL_law 1041 = .ok (.iadd, 1) := by decide +kernel
theorem dL_law_1042 : decode cL_law 1042 = .ok (.iaload, 1) := by decide +kernel
theorem dL_law_1043 : decode cL_law 1043 = .ok (.aload_n 0, 1) := by decide +kernel
theorem dL_law_1044 : decode cL_law 1044 = .ok (.iload 4, 2) := by decide +kernel
theorem dL_law_1046 : decode cL_law 1046 = .ok (.iconst 2, 1) := by decide +kernel
theorem dL_law_1047 : decode cL_law 1047 = .ok (.iadd, 1) := by decide +kernel
theorem dL_law_1048 : decode cL_law 1048 = .ok (.iaload, 1) := by decide +kernel
theorem dL_law_1049 : decode cL_law 1049 = .ok (.aload_n 3, 1) := by decide +kernel
theorem dL_law_1050 : decode cL_law 1050 = .ok (.invokestatic 151, 3) := by decide +kernel
theorem dL_law_1053 : decode cL_law 1053 = .ok (.istore 5, 2) := by decide +kernel
theorem dL_law_1055 : decode cL_law 1055 = .ok (.aload_n 2, 1) := by decide +kernel
theorem dL_law_1056 : decode cL_law 1056 = .ok (.aload_n 0, 1) := by decide +kernel
theorem dL_law_1057 : decode cL_law 1057 = .ok (.iload 4, 2) := by decide +kernel
theorem dL_law_1059 : decode cL_law 1059 = .ok (.iconst 1, 1) := by decide +kernel
theorem dL_law_1060 : decode cL_law 1060 = .ok (.iadd, 1) := by decide +kernel
theorem dL_law_1061 : decode cL_law 1061 = .ok (.iaload, 1) := by decide +kernel
theorem dL_law_1062 : decode cL_law 1062 = .ok (.aload_n 0, 1) := by decide +kernel
theorem dL_law_1063 : decode cL_law 1063 = .ok (.iload 4, 2) := by decide +kernel
theorem dL_law_1065 : decode cL_law 1065 = .ok (.iconst 2, 1) := by decide +kernel
theorem dL_law_1066 : decode cL_law 1066 = .ok (.iadd, 1) := by decide +kernel
theorem dL_law_1067 : decode cL_law 1067 = .ok (.iaload, 1) := by decide +kernel
theorem dL_law_1068 : decode cL_law 1068 = .ok (.invokevirtual 153, 3) := by decide +kernel
theorem dL_law_1071 : decode cL_law 1071 = .ok (.istore 6, 2) := by decide +kernel
theorem dL_law_1073 : decode cL_law 1073 = .ok (.aload_n 2, 1) := by decide +kernel
theorem dL_law_1074 : decode cL_law 1074 = .ok (.invokevirtual 107, 3) := by decide +kernel
theorem dL_law_1077 : decode cL_law 1077 = .ok (.iload 5, 2) := by decide +kernel
theorem dL_law_1079 : decode cL_law 1079 = .ok (.if_icmp .eq 5, 3) := by decide +kernel
theorem dL_law_1082 : decode cL_law 1082 = .ok (.iconst 0, 1) := by decide +kernel
theorem dL_law_1083 : decode cL_law 1083 = .ok (.ireturn, 1) := by decide +kernel
theorem dL_law_1084 : decode cL_law 1084 = .ok (.iload 5, 2) := by decide +kernel
theorem dL_law_1086 : decode cL_law 1086 = .ok (.ifCond .ne 15, 3) := by decide +kernel
theorem dL_law_1089 : decode cL_law 1089 = .ok (.aload_n 3, 1) := by decide +kernel
theorem dL_law_1090 : decode cL_law 1090 = .ok (.iconst 0, 1) := by decide +kernel
theorem dL_law_1091 : decode cL_law 1091 = .ok (.laload, 1) := by decide +kernel
theorem dL_law_1092 : decode cL_law 1092 = .ok (.iload 6, 2) := by decide +kernel
theorem dL_law_1094 : decode cL_law 1094 = .ok (.i2l, 1) := by decide +kernel
theorem dL_law_1095 : decode cL_law 1095 = .ok (.lcmp, 1) := by decide +kernel
theorem dL_law_1096 : decode cL_law 1096 = .ok (.ifCond .eq 5, 3) := by decide +kernel
theorem dL_law_1099 : decode cL_law 1099 = .ok (.iconst 0, 1) := by decide +kernel
theorem dL_law_1100 : decode cL_law 1100 = .ok (.ireturn, 1) := by decide +kernel
theorem dL_law_1101 : decode cL_law 1101 = .ok (.goto 762, 3) := by decide +kernel
theorem dL_law_1104 : decode cL_law 1104 = .ok (.aload_n 1, 1) := by decide +kernel
theorem dL_law_1105 : decode cL_law 1105 = .ok (.aload_n 0, 1) := by decide +kernel
theorem dL_law_1106 : decode cL_law 1106 = .ok (.iload 4, 2) := by decide +kernel
theorem dL_law_1108 : decode cL_law 1108 = .ok (.iconst 1, 1) := by decide +kernel
theorem dL_law_1109 : decode cL_law 1109 = .ok (.iadd, 1) := by decide +kernel
theorem dL_law_1110 : decode cL_law 1110 = .ok (.iaload, 1) := by decide +kernel
theorem dL_law_1111 : decode cL_law 1111 = .ok (.aload_n 0, 1) := by decide +kernel
theorem dL_law_1112 : decode cL_law 1112 = .ok (.iload 4, 2) := by decide +kernel
theorem dL_law_1114 : decode cL_law 1114 = .ok (.iconst 2, 1) := by decide +kernel
theorem dL_law_1115 : decode cL_law 1115 = .ok (.iadd, 1) := by decide +kernel
theorem dL_law_1116 : decode cL_law 1116 = .ok (.iaload, 1) := by decide +kernel
theorem dL_law_1117 : decode cL_law 1117 = .ok (.aload_n 3, 1) := by decide +kernel
theorem dL_law_1118 : decode cL_law 1118 = .ok (.invokestatic 154, 3) := by decide +kernel
theorem dL_law_1121 : decode cL_law 1121 = .ok (.istore 5, 2) := by decide +kernel
theorem dL_law_1123 : decode cL_law 1123 = .ok (.aload_n 2, 1) := by decide +kernel
theorem dL_law_1124 : decode cL_law 1124 = .ok (.aload_n 0, 1) := by decide +kernel
theorem dL_law_1125 : decode cL_law 1125 = .ok (.iload 4, 2) := by decide +kernel
theorem dL_law_1127 : decode cL_law 1127 = .ok (.iconst 1, 1) := by decide +kernel
theorem dL_law_1128 : decode cL_law 1128 = .ok (.iadd, 1) := by decide +kernel
theorem dL_law_1129 : decode cL_law 1129 = .ok (.iaload, 1) := by decide +kernel
theorem dL_law_1130 : decode cL_law 1130 = .ok (.aload_n 0, 1) := by decide +kernel
theorem dL_law_1131 : decode cL_law 1131 = .ok (.iload 4, 2) := by decide +kernel
theorem dL_law_1133 : decode cL_law 1133 = .ok (.iconst 2, 1) := by decide +kernel
theorem dL_law_1134 : decode cL_law 1134 = .ok (.iadd, 1) := by decide +kernel
theorem dL_law_1135 : decode cL_law 1135 = .ok (.iaload, 1) := by decide +kernel
theorem dL_law_1136 : decode cL_law 1136 = .ok (.invokevirtual 156, 3) := by decide +kernel
theorem dL_law_1139 : decode cL_law 1139 = .ok (.istore 6, 2) := by decide +kernel
theorem dL_law_1141 : decode cL_law 1141 = .ok (.aload_n 2, 1) := by decide +kernel
theorem dL_law_1142 : decode cL_law 1142 = .ok (.invokevirtual 107, 3) := by decide +kernel
theorem dL_law_1145 : decode cL_law 1145 = .ok (.iload 5, 2) := by decide +kernel
theorem dL_law_1147 : decode cL_law 1147 = .ok (.if_icmp .eq 5, 3) := by decide +kernel
theorem dL_law_1150 : decode cL_law 1150 = .ok (.iconst 0, 1) := by decide +kernel
theorem dL_law_1151 : decode cL_law 1151 = .ok (.ireturn, 1) := by decide +kernel
theorem dL_law_1152 : decode cL_law 1152 = .ok (.iload 5, 2) := by decide +kernel
theorem dL_law_1154 : decode cL_law 1154 = .ok (.ifCond .ne 15, 3) := by decide +kernel
theorem dL_law_1157 : decode cL_law 1157 = .ok (.aload_n 3, 1) := by decide +kernel
theorem dL_law_1158 : decode cL_law 1158 = .ok (.iconst 0, 1) := by decide +kernel
theorem dL_law_1159 : decode cL_law 1159 = .ok (.laload, 1) := by decide +kernel
theorem dL_law_1160 : decode cL_law 1160 = .ok (.iload 6, 2) := by decide +kernel
theorem dL_law_1162 : decode cL_law 1162 = .ok (.i2l, 1) := by decide +kernel
theorem dL_law_1163 : decode cL_law 1163 = .ok (.lcmp, 1) := by decide +kernel
theorem dL_law_1164 : decode cL_law 1164 = .ok (.ifCond .eq 5, 3) := by decide +kernel
theorem dL_law_1167 : decode cL_law 1167 = .ok (.iconst 0, 1) := by decide +kernel
theorem dL_law_1168 : decode cL_law 1168 = .ok (.ireturn, 1) := by decide +kernel
theorem dL_law_1169 : decode cL_law 1169 = .ok (.goto 694, 3) := by decide +kernel
theorem dL_law_1172 : decode cL_law 1172 = .ok (.aload_n 1, 1) := by decide +kernel
theorem dL_law_1173 : decode cL_law 1173 = .ok (.aload_n 0, 1) := by decide +kernel
theorem dL_law_1174 : decode cL_law 1174 = .ok (.iload 4, 2) := by decide +kernel
theorem dL_law_1176 : decode cL_law 1176 = .ok (.iconst 1, 1) := by decide +kernel
theorem dL_law_1177 : decode cL_law 1177 = .ok (.iadd, 1) := by decide +kernel
theorem dL_law_1178 : decode cL_law 1178 = .ok (.iaload, 1) := by decide +kernel
theorem dL_law_1179 : decode cL_law 1179 = .ok (.aload_n 3, 1) := by decide +kernel
theorem dL_law_1180 : decode cL_law 1180 = .ok (.invokestatic 157, 3) := by decide +kernel
theorem dL_law_1183 : decode cL_law 1183 = .ok (.istore 5, 2) := by decide +kernel
theorem dL_law_1185 : decode cL_law 1185 = .ok (.aload_n 2, 1) := by decide +kernel
theorem dL_law_1186 : decode cL_law 1186 = .ok (.aload_n 0, 1) := by decide +kernel
theorem dL_law_1187 : decode cL_law 1187 = .ok (.iload 4, 2) := by decide +kernel
theorem dL_law_1189 : decode cL_law 1189 = .ok (.iconst 1, 1) := by decide +kernel
theorem dL_law_1190 : decode cL_law 1190 = .ok (.iadd, 1) := by decide +kernel
theorem dL_law_1191 : decode cL_law 1191 = .ok (.iaload, 1) := by decide +kernel
theorem dL_law_1192 : decode cL_law 1192 = .ok (.invokevirtual 159, 3) := by decide +kernel
theorem dL_law_1195 : decode cL_law 1195 = .ok (.istore 6, 2) := by decide +kernel
theorem dL_law_1197 : decode cL_law 1197 = .ok (.aload_n 2, 1) := by decide +kernel
theorem dL_law_1198 : decode cL_law 1198 = .ok (.invokevirtual 107, 3) := by decide +kernel
theorem dL_law_1201 : decode cL_law 1201 = .ok (.iload 5, 2) := by decide +kernel
theorem dL_law_1203 : decode cL_law 1203 = .ok (.if_icmp .eq 5, 3) := by decide +kernel
theorem dL_law_1206 : decode cL_law 1206 = .ok (.iconst 0, 1) := by decide +kernel
theorem dL_law_1207 : decode cL_law 1207 = .ok (.ireturn, 1) := by decide +kernel
theorem dL_law_1208 : decode cL_law 1208 = .ok (.iload 5, 2) := by decide +kernel
theorem dL_law_1210 : decode cL_law 1210 = .ok (.ifCond .ne 15, 3) := by decide +kernel
theorem dL_law_1213 : decode cL_law 1213 = .ok (.aload_n 3, 1) := by decide +kernel
theorem dL_law_1214 : decode cL_law 1214 = .ok (.iconst 0, 1) := by decide +kernel
theorem dL_law_1215 : decode cL_law 1215 = .ok (.laload, 1) := by decide +kernel
theorem dL_law_1216 : decode cL_law 1216 = .ok (.iload 6, 2) := by decide +kernel
theorem dL_law_1218 : decode cL_law 1218 = .ok (.i2l, 1) := by decide +kernel
theorem dL_law_1219 : decode cL_law 1219 = .ok (.lcmp, 1) := by decide +kernel
theorem dL_law_1220 : decode cL_law 1220 = .ok (.ifCond .eq 5, 3) := by decide +kernel
theorem dL_law_1223 : decode cL_law 1223 = .ok (.iconst 0, 1) := by decide +kernel
theorem dL_law_1224 : decode cL_law 1224 = .ok (.ireturn, 1) := by decide +kernel
theorem dL_law_1225 : decode cL_law 1225 = .ok (.goto 638, 3) := by decide +kernel
theorem dL_law_1228 : decode cL_law 1228 = .ok (.aload_n 1, 1) := by decide +kernel
theorem dL_law_1229 : decode cL_law 1229 = .ok (.aload_n 0, 1) := by decide +kernel
theorem dL_law_1230 : decode cL_law 1230 = .ok (.iload 4, 2) := by decide +kernel
theorem dL_law_1232 : decode cL_law 1232 = .ok (.iconst 1, 1) := by decide +kernel
theorem dL_law_1233 : decode cL_law 1233 = .ok (.iadd, 1) := by decide +kernel
theorem dL_law_1234 : decode cL_law 1234 = .ok (.iaload, 1) := by decide +kernel
theorem dL_law_1235 : decode cL_law 1235 = .ok (.aload_n 0, 1) := by decide +kernel
theorem dL_law_1236 : decode cL_law 1236 = .ok (.iload 4, 2) := by decide +kernel
theorem dL_law_1238 : decode cL_law 1238 = .ok (.iconst 2, 1) := by decide +kernel
theorem dL_law_1239 : decode cL_law 1239 = .ok (.iadd, 1) := by decide +kernel
theorem dL_law_1240 : decode cL_law 1240 = .ok (.iaload, 1) := by decide +kernel
theorem dL_law_1241 : decode cL_law 1241 = .ok (.aload_n 3, 1) := by decide +kernel
theorem dL_law_1242 : decode cL_law 1242 = .ok (.invokestatic 160, 3) := by decide +kernel
theorem dL_law_1245 : decode cL_law 1245 = .ok (.istore 5, 2) := by decide +kernel
theorem dL_law_1247 : decode cL_law 1247 = .ok (.aload_n 2, 1) := by decide +kernel
theorem dL_law_1248 : decode cL_law 1248 = .ok (.aload_n 0, 1) := by decide +kernel
theorem dL_law_1249 : decode cL_law 1249 = .ok (.iload 4, 2) := by decide +kernel
theorem dL_law_1251 : decode cL_law 1251 = .ok (.iconst 1, 1) := by decide +kernel
theorem dL_law_1252 : decode cL_law 1252 = .ok (.iadd, 1) := by decide +kernel
theorem dL_law_1253 : decode cL_law 1253 = .ok (.iaload, 1) := by decide +kernel
theorem dL_law_1254 : decode cL_law 1254 = .ok (.aload_n 0, 1) := by decide +kernel
theorem dL_law_1255 : decode cL_law 1255 = .ok (.iload 4, 2) := by decide +kernel
theorem dL_law_1257 : decode cL_law 1257 = .ok (.iconst 2, 1) := by decide +kernel
theorem dL_law_1258 : decode cL_law 1258 = .ok (.iadd, 1) := by decide +kernel
theorem dL_law_1259 : decode cL_law 1259 = .ok (.iaload, 1) := by decide +kernel
theorem dL_law_1260 : decode cL_law 1260 = .ok (.invokevirtual 162, 3) := by decide +kernel
theorem dL_law_1263 : decode cL_law 1263 = .ok (.istore 6, 2) := by decide +kernel
theorem dL_law_1265 : decode cL_law 1265 = .ok (.aload_n 2, 1) := by decide +kernel
theorem dL_law_1266 : decode cL_law 1266 = .ok (.invokevirtual 107, 3) := by decide +kernel
theorem dL_law_1269 : decode cL_law 1269 = .ok (.iload 5, 2) := by decide +kernel
theorem dL_law_1271 : decode cL_law 1271 = .ok (.if_icmp .eq 5, 3) := by decide +kernel
theorem dL_law_1274 : decode cL_law 1274 = .ok (.iconst 0, 1) := by decide +kernel
theorem dL_law_1275 : decode cL_law 1275 = .ok (.ireturn, 1) := by decide +kernel
theorem dL_law_1276 : decode cL_law 1276 = .ok (.iload 5, 2) := by decide +kernel
theorem dL_law_1278 : decode cL_law 1278 = .ok (.ifCond .ne 15, 3) := by decide +kernel
theorem dL_law_1281 : decode cL_law 1281 = .ok (.aload_n 3, 1) := by decide +kernel
theorem dL_law_1282 : decode cL_law 1282 = .ok (.iconst 0, 1) := by decide +kernel
theorem dL_law_1283 : decode cL_law 1283 = .ok (.laload, 1) := by decide +kernel
theorem dL_law_1284 : decode cL_law 1284 = .ok (.iload 6, 2) := by decide +kernel
theorem dL_law_1286 : decode cL_law 1286 = .ok (.i2l, 1) := by decide +kernel
theorem dL_law_1287 : decode cL_law 1287 = .ok (.lcmp, 1) := by decide +kernel
theorem dL_law_1288 : decode cL_law 1288 = .ok (.ifCond .eq 5, 3) := by decide +kernel
theorem dL_law_1291 : decode cL_law 1291 = .ok (.iconst 0, 1) := by decide +kernel
theorem dL_law_1292 : decode cL_law 1292 = .ok (.ireturn, 1) := by decide +kernel
theorem dL_law_1293 : decode cL_law 1293 = .ok (.goto 570, 3) := by decide +kernel
theorem dL_law_1296 : decode cL_law 1296 = .ok (.aload_n 1, 1) := by decide +kernel
theorem dL_law_1297 : decode cL_law 1297 = .ok (.aload_n 0, 1) := by decide +kernel
theorem dL_law_1298 : decode cL_law 1298 = .ok (.iload 4, 2) := by decide +kernel
theorem dL_law_1300 : decode cL_law 1300 = .ok (.iconst 1, 1) := by decide +kernel
theorem dL_law_1301 : decode cL_law 1301 = .ok (.iadd, 1) := by decide +kernel
theorem dL_law_1302 : decode cL_law 1302 = .ok (.iaload, 1) := by decide +kernel
theorem dL_law_1303 : decode cL_law 1303 = .ok (.aload_n 0, 1) := by decide +kernel
theorem dL_law_1304 : decode cL_law 1304 = .ok (.iload 4, 2) := by decide +kernel
theorem dL_law_1306 : decode cL_law 1306 = .ok (.iconst 2, 1) := by decide +kernel
theorem dL_law_1307 : decode cL_law 1307 = .ok (.iadd, 1) := by decide +kernel
theorem dL_law_1308 : decode cL_law 1308 = .ok (.iaload, 1) := by decide +kernel
theorem dL_law_1309 : decode cL_law 1309 = .ok (.aload_n 3, 1) := by decide +kernel
theorem dL_law_1310 : decode cL_law 1310 = .ok (.invokestatic 163, 3) := by decide +kernel
theorem dL_law_1313 : decode cL_law 1313 = .ok (.istore 5, 2) := by decide +kernel
theorem dL_law_1315 : decode cL_law 1315 = .ok (.aload_n 2, 1) := by decide +kernel
theorem dL_law_1316 : decode cL_law 1316 = .ok (.aload_n 0, 1) := by decide +kernel
theorem dL_law_1317 : decode cL_law 1317 = .ok (.iload 4, 2) := by decide +kernel
theorem dL_law_1319 : decode cL_law 1319 = .ok (.iconst 1, 1) := by decide +kernel
theorem dL_law_1320 : decode cL_law 1320 = .ok (.iadd, 1) := by decide +kernel
theorem dL_law_1321 : decode cL_law 1321 = .ok (.iaload, 1) := by decide +kernel
theorem dL_law_1322 : decode cL_law 1322 = .ok (.aload_n 0, 1) := by decide +kernel
theorem dL_law_1323 : decode cL_law 1323 = .ok (.iload 4, 2) := by decide +kernel
theorem dL_law_1325 : decode cL_law 1325 = .ok (.iconst 2, 1) := by decide +kernel
theorem dL_law_1326 : decode cL_law 1326 = .ok (.iadd, 1) := by decide +kernel
theorem dL_law_1327 : decode cL_law 1327 = .ok (.iaload, 1) := by decide +kernel
theorem dL_law_1328 : decode cL_law 1328 = .ok (.invokevirtual 165, 3) := by decide +kernel
theorem dL_law_1331 : decode cL_law 1331 = .ok (.istore 6, 2) := by decide +kernel
theorem dL_law_1333 : decode cL_law 1333 = .ok (.aload_n 2, 1) := by decide +kernel
theorem dL_law_1334 : decode cL_law 1334 = .ok (.invokevirtual 107, 3) := by decide +kernel
theorem dL_law_1337 : decode cL_law 1337 = .ok (.iload 5, 2) := by decide +kernel
theorem dL_law_1339 : decode cL_law 1339 = .ok (.if_icmp .eq 5, 3) := by decide +kernel
theorem dL_law_1342 : decode cL_law 1342 = .ok (.iconst 0, 1) := by decide +kernel
theorem dL_law_1343 : decode cL_law 1343 = .ok (.ireturn, 1) := by decide +kernel
theorem dL_law_1344 : decode cL_law 1344 = .ok (.iload 5, 2) := by decide +kernel
theorem dL_law_1346 : decode cL_law 1346 = .ok (.ifCond .ne 15, 3) := by decide +kernel
theorem dL_law_1349 : decode cL_law 1349 = .ok (.aload_n 3, 1) := by decide +kernel
theorem dL_law_1350 : decode cL_law 1350 = .ok (.iconst 0, 1) := by decide +kernel
theorem dL_law_1351 : decode cL_law 1351 = .ok (.laload, 1) := by decide +kernel
theorem dL_law_1352 : decode cL_law 1352 = .ok (.iload 6, 2) := by decide +kernel
theorem dL_law_1354 : decode cL_law 1354 = .ok (.i2l, 1) := by decide +kernel
theorem dL_law_1355 : decode cL_law 1355 = .ok (.lcmp, 1) := by decide +kernel
theorem dL_law_1356 : decode cL_law 1356 = .ok (.ifCond .eq 5, 3) := by decide +kernel
theorem dL_law_1359 : decode cL_law 1359 = .ok (.iconst 0, 1) := by decide +kernel
theorem dL_law_1360 : decode cL_law 1360 = .ok (.ireturn, 1) := by decide +kernel
theorem dL_law_1361 : decode cL_law 1361 = .ok (.goto 502, 3) := by decide +kernel
theorem dL_law_1364 : decode cL_law 1364 = .ok (.aload_n 1, 1) := by decide +kernel
theorem dL_law_1365 : decode cL_law 1365 = .ok (.aload_n 0, 1) := by decide +kernel
theorem dL_law_1366 : decode cL_law 1366 = .ok (.iload 4, 2) := by decide +kernel
theorem dL_law_1368 : decode cL_law 1368 = .ok (.iconst 1, 1) := by decide +kernel
theorem dL_law_1369 : decode cL_law 1369 = .ok (.iadd, 1) := by decide +kernel
theorem dL_law_1370 : decode cL_law 1370 = .ok (.iaload, 1) := by decide +kernel
theorem dL_law_1371 : decode cL_law 1371 = .ok (.aload_n 0, 1) := by decide +kernel
theorem dL_law_1372 : decode cL_law 1372 = .ok (.iload 4, 2) := by decide +kernel
theorem dL_law_1374 : decode cL_law 1374 = .ok (.iconst 2, 1) := by decide +kernel
theorem dL_law_1375 : decode cL_law 1375 = .ok (.iadd, 1) := by decide +kernel
theorem dL_law_1376 : decode cL_law 1376 = .ok (.iaload, 1) := by decide +kernel
theorem dL_law_1377 : decode cL_law 1377 = .ok (.aload_n 3, 1) := by decide +kernel
theorem dL_law_1378 : decode cL_law 1378 = .ok (.invokestatic 166, 3) := by decide +kernel
theorem dL_law_1381 : decode cL_law 1381 = .ok (.istore 5, 2) := by decide +kernel
theorem dL_law_1383 : decode cL_law 1383 = .ok (.aload_n 2, 1) := by decide +kernel
theorem dL_law_1384 : decode cL_law 1384 = .ok (.aload_n 0, 1) := by decide +kernel
theorem dL_law_1385 : decode cL_law 1385 = .ok (.iload 4, 2) := by decide +kernel
theorem dL_law_1387 : decode cL_law 1387 = .ok (.iconst 1, 1) := by decide +kernel
theorem dL_law_1388 : decode cL_law 1388 = .ok (.iadd, 1) := by decide +kernel
theorem dL_law_1389 : decode cL_law 1389 = .ok (.iaload, 1) := by decide +kernel
theorem dL_law_1390 : decode cL_law 1390 = .ok (.aload_n 0, 1) := by decide +kernel
theorem dL_law_1391 : decode cL_law 1391 = .ok (.iload 4, 2) := by decide +kernel
theorem dL_law_1393 : decode cL_law 1393 = .ok (.iconst 2, 1) := by decide +kernel
theorem dL_law_1394 : decode cL_law 1394 = .ok (.iadd, 1) := by decide +kernel
theorem dL_law_1395 : decode cL_law 1395 = .ok (.iaload, 1) := by decide +kernel
theorem dL_law_1396 : decode cL_law 1396 = .ok (.invokevirtual 168, 3) := by decide +kernel
theorem dL_law_1399 : decode cL_law 1399 = .ok (.istore 6, 2) := by decide +kernel
theorem dL_law_1401 : decode cL_law 1401 = .ok (.aload_n 2, 1) := by decide +kernel
theorem dL_law_1402 : decode cL_law 1402 = .ok (.invokevirtual 107, 3) := by decide +kernel
theorem dL_law_1405 : decode cL_law 1405 = .ok (.iload 5, 2) := by decide +kernel
theorem dL_law_1407 : decode cL_law 1407 = .ok (.if_icmp .eq 5, 3) := by decide +kernel
theorem dL_law_1410 : decode cL_law 1410 = .ok (.iconst 0, 1) := by decide +kernel
theorem dL_law_1411 : decode cL_law 1411 = .ok (.ireturn, 1) := by decide +kernel
theorem dL_law_1412 : decode cL_law 1412 = .ok (.iload 5, 2) := by decide +kernel
theorem dL_law_1414 : decode cL_law 1414 = .ok (.ifCond .ne 15, 3) := by decide +kernel
theorem dL_law_1417 : decode cL_law 1417 = .ok (.aload_n 3, 1) := by decide +kernel
theorem dL_law_1418 : decode cL_law 1418 = .ok (.iconst 0, 1) := by decide +kernel
theorem dL_law_1419 : decode cL_law 1419 = .ok (.laload, 1) := by decide +kernel
theorem dL_law_1420 : decode cL_law 1420 = .ok (.iload 6, 2) := by decide +kernel
theorem dL_law_1422 : decode cL_law 1422 = .ok (.i2l, 1) := by decide +kernel
theorem dL_law_1423 : decode cL_law 1423 = .ok (.lcmp, 1) := by decide +kernel
theorem dL_law_1424 : decode cL_law 1424 = .ok (.ifCond .eq 5, 3) := by decide +kernel
theorem dL_law_1427 : decode cL_law 1427 = .ok (.iconst 0, 1) := by decide +kernel
theorem dL_law_1428 : decode cL_law 1428 = .ok (.ireturn, 1) := by decide +kernel
theorem dL_law_1429 : decode cL_law 1429 = .ok (.goto 434, 3) := by decide +kernel
theorem dL_law_1432 : decode cL_law 1432 = .ok (.aload_n 1, 1) := by decide +kernel
theorem dL_law_1433 : decode cL_law 1433 = .ok (.aload_n 0, 1) := by decide +kernel
theorem dL_law_1434 : decode cL_law 1434 = .ok (.iload 4, 2) := by decide +kernel
theorem dL_law_1436 : decode cL_law 1436 = .ok (.iconst 1, 1) := by decide +kernel
theorem dL_law_1437 : decode cL_law 1437 = .ok (.iadd, 1) := by decide +kernel
theorem dL_law_1438 : decode cL_law 1438 = .ok (.iaload, 1) := by decide +kernel
theorem dL_law_1439 : decode cL_law 1439 = .ok (.aload_n 3, 1) := by decide +kernel
theorem dL_law_1440 : decode cL_law 1440 = .ok (.invokestatic 169, 3) := by decide +kernel
theorem dL_law_1443 : decode cL_law 1443 = .ok (.istore 5, 2) := by decide +kernel
theorem dL_law_1445 : decode cL_law 1445 = .ok (.aload_n 2, 1) := by decide +kernel
theorem dL_law_1446 : decode cL_law 1446 = .ok (.aload_n 0, 1) := by decide +kernel
theorem dL_law_1447 : decode cL_law 1447 = .ok (.iload 4, 2) := by decide +kernel
theorem dL_law_1449 : decode cL_law 1449 = .ok (.iconst 1, 1) := by decide +kernel
theorem dL_law_1450 : decode cL_law 1450 = .ok (.iadd, 1) := by decide +kernel
theorem dL_law_1451 : decode cL_law 1451 = .ok (.iaload, 1) := by decide +kernel
theorem dL_law_1452 : decode cL_law 1452 = .ok (.invokevirtual 171, 3) := by decide +kernel
theorem dL_law_1455 : decode cL_law 1455 = .ok (.istore 6, 2) := by decide +kernel
theorem dL_law_1457 : decode cL_law 1457 = .ok (.aload_n 2, 1) := by decide +kernel
theorem dL_law_1458 : decode cL_law 1458 = .ok (.invokevirtual 107, 3) := by decide +kernel
theorem dL_law_1461 : decode cL_law 1461 = .ok (.iload 5, 2) := by decide +kernel
theorem dL_law_1463 : decode cL_law 1463 = .ok (.if_icmp .eq 5, 3) := by decide +kernel
theorem dL_law_1466 : decode cL_law 1466 = .ok (.iconst 0, 1) := by decide +kernel
theorem dL_law_1467 : decode cL_law 1467 = .ok (.ireturn, 1) := by decide +kernel
theorem dL_law_1468 : decode cL_law 1468 = .ok (.iload 5, 2) := by decide +kernel
theorem dL_law_1470 : decode cL_law 1470 = .ok (.ifCond .ne 15, 3) := by decide +kernel
theorem dL_law_1473 : decode cL_law 1473 = .ok (.aload_n 3, 1) := by decide +kernel
theorem dL_law_1474 : decode cL_law 1474 = .ok (.iconst 0, 1) := by decide +kernel
theorem dL_law_1475 : decode cL_law 1475 = .ok (.laload, 1) := by decide +kernel
theorem dL_law_1476 : decode cL_law 1476 = .ok (.iload 6, 2) := by decide +kernel
theorem dL_law_1478 : decode cL_law 1478 = .ok (.i2l, 1) := by decide +kernel
theorem dL_law_1479 : decode cL_law 1479 = .ok (.lcmp, 1) := by decide +kernel
theorem dL_law_1480 : decode cL_law 1480 = .ok (.ifCond .eq 5, 3) := by decide +kernel
theorem dL_law_1483 : decode cL_law 1483 = .ok (.iconst 0, 1) := by decide +kernel
theorem dL_law_1484 : decode cL_law 1484 = .ok (.ireturn, 1) := by decide +kernel
theorem dL_law_1485 : decode cL_law 1485 = .ok (.goto 378, 3) := by decide +kernel
theorem dL_law_1488 : decode cL_law 1488 = .ok (.aload_n 1, 1) := by decide +kernel
theorem dL_law_1489 : decode cL_law 1489 = .ok (.aload_n 0, 1) := by decide +kernel
theorem dL_law_1490 : decode cL_law 1490 = .ok (.iload 4, 2) := by decide +kernel
theorem dL_law_1492 : decode cL_law 1492 = .ok (.iconst 1, 1) := by decide +kernel
theorem dL_law_1493 : decode cL_law 1493 = .ok (.iadd, 1) := by decide +kernel
theorem dL_law_1494 : decode cL_law 1494 = .ok (.iaload, 1) := by decide +kernel
theorem dL_law_1495 : decode cL_law 1495 = .ok (.aload_n 3, 1) := by decide +kernel
theorem dL_law_1496 : decode cL_law 1496 = .ok (.invokestatic 172, 3) := by decide +kernel
theorem dL_law_1499 : decode cL_law 1499 = .ok (.istore 5, 2) := by decide +kernel
theorem dL_law_1501 : decode cL_law 1501 = .ok (.aload_n 2, 1) := by decide +kernel
theorem dL_law_1502 : decode cL_law 1502 = .ok (.aload_n 0, 1) := by decide +kernel
theorem dL_law_1503 : decode cL_law 1503 = .ok (.iload 4, 2) := by decide +kernel
theorem dL_law_1505 : decode cL_law 1505 = .ok (.iconst 1, 1) := by decide +kernel
theorem dL_law_1506 : decode cL_law 1506 = .ok (.iadd, 1) := by decide +kernel
theorem dL_law_1507 : decode cL_law 1507 = .ok (.iaload, 1) := by decide +kernel
theorem dL_law_1508 : decode cL_law 1508 = .ok (.invokevirtual 174, 3) := by decide +kernel
theorem dL_law_1511 : decode cL_law 1511 = .ok (.istore 6, 2) := by decide +kernel
theorem dL_law_1513 : decode cL_law 1513 = .ok (.aload_n 2, 1) := by decide +kernel
theorem dL_law_1514 : decode cL_law 1514 = .ok (.invokevirtual 107, 3) := by decide +kernel
theorem dL_law_1517 : decode cL_law 1517 = .ok (.iload 5, 2) := by decide +kernel
theorem dL_law_1519 : decode cL_law 1519 = .ok (.if_icmp .eq 5, 3) := by decide +kernel
theorem dL_law_1522 : decode cL_law 1522 = .ok (.iconst 0, 1) := by decide +kernel
theorem dL_law_1523 : decode cL_law 1523 = .ok (.ireturn, 1) := by decide +kernel
theorem dL_law_1524 : decode cL_law 1524 = .ok (.iload 5, 2) := by decide +kernel
theorem dL_law_1526 : decode cL_law 1526 = .ok (.ifCond .ne 15, 3) := by decide +kernel
theorem dL_law_1529 : decode cL_law 1529 = .ok (.aload_n 3, 1) := by decide +kernel
theorem dL_law_1530 : decode cL_law 1530 = .ok (.iconst 0, 1) := by decide +kernel
theorem dL_law_1531 : decode cL_law 1531 = .ok (.laload, 1) := by decide +kernel
theorem dL_law_1532 : decode cL_law 1532 = .ok (.iload 6, 2) := by decide +kernel
theorem dL_law_1534 : decode cL_law 1534 = .ok (.i2l, 1) := by decide +kernel
theorem dL_law_1535 : decode cL_law 1535 = .ok (.lcmp, 1) := by decide +kernel
theorem dL_law_1536 : decode cL_law 1536 = .ok (.ifCond .eq 5, 3) := by decide +kernel
theorem dL_law_1539 : decode cL_law 1539 = .ok (.iconst 0, 1) := by decide +kernel
theorem dL_law_1540 : decode cL_law 1540 = .ok (.ireturn, 1) := by decide +kernel
theorem dL_law_1541 : decode cL_law 1541 = .ok (.goto 322, 3) := by decide +kernel
theorem dL_law_1544 : decode cL_law 1544 = .ok (.aload_n 1, 1) := by decide +kernel
theorem dL_law_1545 : decode cL_law 1545 = .ok (.aload_n 0, 1) := by decide +kernel
theorem dL_law_1546 : decode cL_law 1546 = .ok (.iload 4, 2) := by decide +kernel
theorem dL_law_1548 : decode cL_law 1548 = .ok (.iconst 1, 1) := by decide +kernel
theorem dL_law_1549 : decode cL_law 1549 = .ok (.iadd, 1) := by decide +kernel
theorem dL_law_1550 : decode cL_law 1550 = .ok (.iaload, 1) := by decide +kernel
theorem dL_law_1551 : decode cL_law 1551 = .ok (.aload_n 3, 1) := by decide +kernel
theorem dL_law_1552 : decode cL_law 1552 = .ok (.invokestatic 175, 3) := by decide +kernel
theorem dL_law_1555 : decode cL_law 1555 = .ok (.istore 5, 2) := by decide +kernel
theorem dL_law_1557 : decode cL_law 1557 = .ok (.aload_n 2, 1) := by decide +kernel
theorem dL_law_1558 : decode cL_law 1558 = .ok (.aload_n 0, 1) := by decide +kernel
theorem dL_law_1559 : decode cL_law 1559 = .ok (.iload 4, 2) := by decide +kernel
theorem dL_law_1561 : decode cL_law 1561 = .ok (.iconst 1, 1) := by decide +kernel
theorem dL_law_1562 : decode cL_law 1562 = .ok (.iadd, 1) := by decide +kernel
theorem dL_law_1563 : decode cL_law 1563 = .ok (.iaload, 1) := by decide +kernel
theorem dL_law_1564 : decode cL_law 1564 = .ok (.invokevirtual 177, 3) := by decide +kernel
theorem dL_law_1567 : decode cL_law 1567 = .ok (.istore 6, 2) := by decide +kernel
theorem dL_law_1569 : decode cL_law 1569 = .ok (.aload_n 2, 1) := by decide +kernel
theorem dL_law_1570 : decode cL_law 1570 = .ok (.invokevirtual 107, 3) := by decide +kernel
theorem dL_law_1573 : decode cL_law 1573 = .ok (.iload 5, 2) := by decide +kernel
theorem dL_law_1575 : decode cL_law 1575 = .ok (.if_icmp .eq 5, 3) := by decide +kernel
theorem dL_law_1578 : decode cL_law 1578 = .ok (.iconst 0, 1) := by decide +kernel
theorem dL_law_1579 : decode cL_law 1579 = .ok (.ireturn, 1) := by decide +kernel
theorem dL_law_1580 : decode cL_law 1580 = .ok (.iload 5, 2) := by decide +kernel
theorem dL_law_1582 : decode cL_law 1582 = .ok (.ifCond .ne 15, 3) := by decide +kernel
theorem dL_law_1585 : decode cL_law 1585 = .ok (.aload_n 3, 1) := by decide +kernel
theorem dL_law_1586 : decode cL_law 1586 = .ok (.iconst 0, 1) := by decide +kernel
theorem dL_law_1587 : decode cL_law 1587 = .ok (.laload, 1) := by decide +kernel
theorem dL_law_1588 : decode cL_law 1588 = .ok (.iload 6, 2) := by decide +kernel
theorem dL_law_1590 : decode cL_law 1590 = .ok (.i2l, 1) := by decide +kernel
theorem dL_law_1591 : decode cL_law 1591 = .ok (.lcmp, 1) := by decide +kernel
theorem dL_law_1592 : decode cL_law 1592 = .ok (.ifCond .eq 5, 3) := by decide +kernel
theorem dL_law_1595 : decode cL_law 1595 = .ok (.iconst 0, 1) := by decide +kernel
theorem dL_law_1596 : decode cL_law 1596 = .ok (.ireturn, 1) := by decide +kernel
theorem dL_law_1597 : decode cL_law 1597 = .ok (.goto 266, 3) := by decide +kernel
theorem dL_law_1600 : decode cL_law 1600 = .ok (.aload_n 1, 1) := by decide +kernel
theorem dL_law_1601 : decode cL_law 1601 = .ok (.invokevirtual 178, 3) := by decide +kernel
theorem dL_law_1604 : decode cL_law 1604 = .ok (.aload_n 2, 1) := by decide +kernel
theorem dL_law_1605 : decode cL_law 1605 = .ok (.invokevirtual 181, 3) := by decide +kernel
theorem dL_law_1608 : decode cL_law 1608 = .ok (.if_icmp .eq 255, 3) := by decide +kernel
theorem dL_law_1611 : decode cL_law 1611 = .ok (.iconst 0, 1) := by decide +kernel
theorem dL_law_1612 : decode cL_law 1612 = .ok (.ireturn, 1) := by decide +kernel
theorem dL_law_1613 : decode cL_law 1613 = .ok (.aload_n 1, 1) := by decide +kernel
theorem dL_law_1614 : decode cL_law 1614 = .ok (.invokevirtual 182, 3) := by decide +kernel
theorem dL_law_1617 : decode cL_law 1617 = .ok (.aload_n 2, 1) := by decide +kernel
theorem dL_law_1618 : decode cL_law 1618 = .ok (.invokevirtual 185, 3) := by decide +kernel
theorem dL_law_1621 : decode cL_law 1621 = .ok (.if_icmp .eq 242, 3) := by decide +kernel
theorem dL_law_1624 : decode cL_law 1624 = .ok (.iconst 0, 1) := by decide +kernel
theorem dL_law_1625 : decode cL_law 1625 = .ok (.ireturn, 1) := by decide +kernel
theorem dL_law_1626 : decode cL_law 1626 = .ok (.aload_n 1, 1) := by decide +kernel
theorem dL_law_1627 : decode cL_law 1627 = .ok (.aload_n 0, 1) := by decide +kernel
theorem dL_law_1628 : decode cL_law 1628 = .ok (.iload 4, 2) := by decide +kernel
theorem dL_law_1630 : decode cL_law 1630 = .ok (.iconst 1, 1) := by decide +kernel
theorem dL_law_1631 : decode cL_law 1631 = .ok (.iadd, 1) := by decide +kernel
theorem dL_law_1632 : decode cL_law 1632 = .ok (.iaload, 1) := by decide +kernel
theorem dL_law_1633 : decode cL_law 1633 = .ok (.aload_n 3, 1) := by decide +kernel
theorem dL_law_1634 : decode cL_law 1634 = .ok (.invokestatic 186, 3) := by decide +kernel
theorem dL_law_1637 : decode cL_law 1637 = .ok (.istore 5, 2) := by decide +kernel
theorem dL_law_1639 : decode cL_law 1639 = .ok (.aload_n 2, 1) := by decide +kernel
theorem dL_law_1640 : decode cL_law 1640 = .ok (.aload_n 0, 1) := by decide +kernel
theorem dL_law_1641 : decode cL_law 1641 = .ok (.iload 4, 2) := by decide +kernel
theorem dL_law_1643 : decode cL_law 1643 = .ok (.iconst 1, 1) := by decide +kernel
theorem dL_law_1644 : decode cL_law 1644 = .ok (.iadd, 1) := by decide +kernel
theorem dL_law_1645 : decode cL_law 1645 = .ok (.iaload, 1) := by decide +kernel
theorem dL_law_1646 : decode cL_law 1646 = .ok (.invokevirtual 188, 3) := by decide +kernel
theorem dL_law_1649 : decode cL_law 1649 = .ok (.istore 6, 2) := by decide +kernel
theorem dL_law_1651 : decode cL_law 1651 = .ok (.aload_n 2, 1) := by decide +kernel
theorem dL_law_1652 : decode cL_law 1652 = .ok (.invokevirtual 107, 3) := by decide +kernel
theorem dL_law_1655 : decode cL_law 1655 = .ok (.iload 5, 2) := by decide +kernel
theorem dL_law_1657 : decode cL_law 1657 = .ok (.if_icmp .eq 5, 3) := by decide +kernel
theorem dL_law_1660 : decode cL_law 1660 = .ok (.iconst 0, 1) := by decide +kernel
theorem dL_law_1661 : decode cL_law 1661 = .ok (.ireturn, 1) := by decide +kernel
theorem dL_law_1662 : decode cL_law 1662 = .ok (.iload 5, 2) := by decide +kernel
theorem dL_law_1664 : decode cL_law 1664 = .ok (.ifCond .ne 15, 3) := by decide +kernel
theorem dL_law_1667 : decode cL_law 1667 = .ok (.aload_n 3, 1) := by decide +kernel
theorem dL_law_1668 : decode cL_law 1668 = .ok (.iconst 0, 1) := by decide +kernel
theorem dL_law_1669 : decode cL_law 1669 = .ok (.laload, 1) := by decide +kernel
theorem dL_law_1670 : decode cL_law 1670 = .ok (.iload 6, 2) := by decide +kernel
theorem dL_law_1672 : decode cL_law 1672 = .ok (.i2l, 1) := by decide +kernel
theorem dL_law_1673 : decode cL_law 1673 = .ok (.lcmp, 1) := by decide +kernel
theorem dL_law_1674 : decode cL_law 1674 = .ok (.ifCond .eq 5, 3) := by decide +kernel
theorem dL_law_1677 : decode cL_law 1677 = .ok (.iconst 0, 1) := by decide +kernel
theorem dL_law_1678 : decode cL_law 1678 = .ok (.ireturn, 1) := by decide +kernel
theorem dL_law_1679 : decode cL_law 1679 = .ok (.goto 184, 3) := by decide +kernel
theorem dL_law_1682 : decode cL_law 1682 = .ok (.aload_n 1, 1) := by decide +kernel
theorem dL_law_1683 : decode cL_law 1683 = .ok (.invokevirtual 189, 3) := by decide +kernel
theorem dL_law_1686 : decode cL_law 1686 = .ok (.dstore 5, 2) := by decide +kernel
theorem dL_law_1688 : decode cL_law 1688 = .ok (.aload_n 2, 1) := by decide +kernel
theorem dL_law_1689 : decode cL_law 1689 = .ok (.invokevirtual 193, 3) := by decide +kernel
theorem dL_law_1692 : decode cL_law 1692 = .ok (.dstore 7, 2) := by decide +kernel
theorem dL_law_1694 : decode cL_law 1694 = .ok (.dload 5, 2) := by decide +kernel
theorem dL_law_1696 : decode cL_law 1696 = .ok (.dload 7, 2) := by decide +kernel
theorem dL_law_1698 : decode cL_law 1698 = .ok (.dcmp .l, 1) := by decide +kernel
theorem dL_law_1699 : decode cL_law 1699 = .ok (.ifCond .eq 21, 3) := by decide +kernel
theorem dL_law_1702 : decode cL_law 1702 = .ok (.dload 5, 2) := by decide +kernel
theorem dL_law_1704 : decode cL_law 1704 = .ok (.dload 5, 2) := by decide +kernel
theorem dL_law_1706 : decode cL_law 1706 = .ok (.dcmp .l, 1) := by decide +kernel
theorem dL_law_1707 : decode cL_law 1707 = .ok (.ifCond .eq 11, 3) := by decide +kernel
theorem dL_law_1710 : decode cL_law 1710 = .ok (.dload 7, 2) := by decide +kernel
theorem dL_law_1712 : decode cL_law 1712 = .ok (.dload 7, 2) := by decide +kernel
theorem dL_law_1714 : decode cL_law 1714 = .ok (.dcmp .l, 1) := by decide +kernel
theorem dL_law_1715 : decode cL_law 1715 = .ok (.ifCond .ne 5, 3) := by decide +kernel
theorem dL_law_1718 : decode cL_law 1718 = .ok (.iconst 0, 1) := by decide +kernel
theorem dL_law_1719 : decode cL_law 1719 = .ok (.ireturn, 1) := by decide +kernel
theorem dL_law_1720 : decode cL_law 1720 = .ok (.goto 143, 3) := by decide +kernel
theorem dL_law_1723 : decode cL_law 1723 = .ok (.aload_n 1, 1) := by decide +kernel
theorem dL_law_1724 : decode cL_law 1724 = .ok (.aload_n 0, 1) := by decide +kernel
theorem dL_law_1725 : decode cL_law 1725 = .ok (.iload 4, 2) := by decide +kernel
theorem dL_law_1727 : decode cL_law 1727 = .ok (.iconst 1, 1) := by decide +kernel
theorem dL_law_1728 : decode cL_law 1728 = .ok (.iadd, 1) := by decide +kernel
theorem dL_law_1729 : decode cL_law 1729 = .ok (.iaload, 1) := by decide +kernel
theorem dL_law_1730 : decode cL_law 1730 = .ok (.aload_n 3, 1) := by decide +kernel
theorem dL_law_1731 : decode cL_law 1731 = .ok (.invokestatic 194, 3) := by decide +kernel
theorem dL_law_1734 : decode cL_law 1734 = .ok (.istore 5, 2) := by decide +kernel
theorem dL_law_1736 : decode cL_law 1736 = .ok (.aload_n 2, 1) := by decide +kernel
theorem dL_law_1737 : decode cL_law 1737 = .ok (.aload_n 0, 1) := by decide +kernel
theorem dL_law_1738 : decode cL_law 1738 = .ok (.iload 4, 2) := by decide +kernel
theorem dL_law_1740 : decode cL_law 1740 = .ok (.iconst 1, 1) := by decide +kernel
theorem dL_law_1741 : decode cL_law 1741 = .ok (.iadd, 1) := by decide +kernel
theorem dL_law_1742 : decode cL_law 1742 = .ok (.iaload, 1) := by decide +kernel
theorem dL_law_1743 : decode cL_law 1743 = .ok (.invokevirtual 196, 3) := by decide +kernel
theorem dL_law_1746 : decode cL_law 1746 = .ok (.istore 6, 2) := by decide +kernel
theorem dL_law_1748 : decode cL_law 1748 = .ok (.aload_n 2, 1) := by decide +kernel
theorem dL_law_1749 : decode cL_law 1749 = .ok (.invokevirtual 107, 3) := by decide +kernel
theorem dL_law_1752 : decode cL_law 1752 = .ok (.iload 5, 2) := by decide +kernel
theorem dL_law_1754 : decode cL_law 1754 = .ok (.if_icmp .eq 5, 3) := by decide +kernel
theorem dL_law_1757 : decode cL_law 1757 = .ok (.iconst 0, 1) := by decide +kernel
theorem dL_law_1758 : decode cL_law 1758 = .ok (.ireturn, 1) := by decide +kernel
theorem dL_law_1759 : decode cL_law 1759 = .ok (.iload 5, 2) := by decide +kernel
theorem dL_law_1761 : decode cL_law 1761 = .ok (.ifCond .ne 15, 3) := by decide +kernel
theorem dL_law_1764 : decode cL_law 1764 = .ok (.aload_n 3, 1) := by decide +kernel
theorem dL_law_1765 : decode cL_law 1765 = .ok (.iconst 0, 1) := by decide +kernel
theorem dL_law_1766 : decode cL_law 1766 = .ok (.laload, 1) := by decide +kernel
theorem dL_law_1767 : decode cL_law 1767 = .ok (.iload 6, 2) := by decide +kernel
theorem dL_law_1769 : decode cL_law 1769 = .ok (.i2l, 1) := by decide +kernel
theorem dL_law_1770 : decode cL_law 1770 = .ok (.lcmp, 1) := by decide +kernel
theorem dL_law_1771 : decode cL_law 1771 = .ok (.ifCond .eq 5, 3) := by decide +kernel
theorem dL_law_1774 : decode cL_law 1774 = .ok (.iconst 0, 1) := by decide +kernel
theorem dL_law_1775 : decode cL_law 1775 = .ok (.ireturn, 1) := by decide +kernel
theorem dL_law_1776 : decode cL_law 1776 = .ok (.goto 87, 3) := by decide +kernel
theorem dL_law_1779 : decode cL_law 1779 = .ok (.aload_n 1, 1) := by decide +kernel
theorem dL_law_1780 : decode cL_law 1780 = .ok (.invokevirtual 197, 3) := by decide +kernel
theorem dL_law_1783 : decode cL_law 1783 = .ok (.aload_n 2, 1) := by decide +kernel
theorem dL_law_1784 : decode cL_law 1784 = .ok (.invokevirtual 200, 3) := by decide +kernel
theorem dL_law_1787 : decode cL_law 1787 = .ok (.if_icmp .eq 76, 3) := by decide +kernel
theorem dL_law_1790 : decode cL_law 1790 = .ok (.iconst 0, 1) := by decide +kernel
theorem dL_law_1791 : decode cL_law 1791 = .ok (.ireturn, 1) := by decide +kernel
theorem dL_law_1792 : decode cL_law 1792 = .ok (.aload_n 1, 1) := by decide +kernel
theorem dL_law_1793 : decode cL_law 1793 = .ok (.invokevirtual 201, 3) := by decide +kernel
theorem dL_law_1796 : decode cL_law 1796 = .ok (.aload_n 2, 1) := by decide +kernel
theorem dL_law_1797 : decode cL_law 1797 = .ok (.invokevirtual 204, 3) := by decide +kernel
theorem dL_law_1800 : decode cL_law 1800 = .ok (.if_icmp .eq 63, 3) := by decide +kernel
theorem dL_law_1803 : decode cL_law 1803 = .ok (.iconst 0, 1) := by decide +kernel
theorem dL_law_1804 : decode cL_law 1804 = .ok (.ireturn, 1) := by decide +kernel
theorem dL_law_1805 : decode cL_law 1805 = .ok (.aload_n 1, 1) := by decide +kernel
theorem dL_law_1806 : decode cL_law 1806 = .ok (.aload_n 3, 1) := by decide +kernel
theorem dL_law_1807 : decode cL_law 1807 = .ok (.invokestatic 205, 3) := by decide +kernel
theorem dL_law_1810 : decode cL_law 1810 = .ok (.istore 5, 2) := by decide +kernel
theorem dL_law_1812 : decode cL_law 1812 = .ok (.aload_n 2, 1) := by decide +kernel
theorem dL_law_1813 : decode cL_law 1813 = .ok (.invokevirtual 208, 3) := by decide +kernel
theorem dL_law_1816 : decode cL_law 1816 = .ok (.istore 6, 2) := by decide +kernel
theorem dL_law_1818 : decode cL_law 1818 = .ok (.aload_n 2, 1) := by decide +kernel
theorem dL_law_1819 : decode cL_law 1819 = .ok (.invokevirtual 107, 3) := by decide +kernel
theorem dL_law_1822 : decode cL_law 1822 = .ok (.iload 5, 2) := by decide +kernel
theorem dL_law_1824 : decode cL_law 1824 = .ok (.if_icmp .eq 5, 3) := by decide +kernel
theorem dL_law_1827 : decode cL_law 1827 = .ok (.iconst 0, 1) := by decide +kernel
theorem dL_law_1828 : decode cL_law 1828 = .ok (.ireturn, 1) := by decide +kernel
theorem dL_law_1829 : decode cL_law 1829 = .ok (.iload 5, 2) := by decide +kernel
theorem dL_law_1831 : decode cL_law 1831 = .ok (.ifCond .ne 15, 3) := by decide +kernel
theorem dL_law_1834 : decode cL_law 1834 = .ok (.aload_n 3, 1) := by decide +kernel
theorem dL_law_1835 : decode cL_law 1835 = .ok (.iconst 0, 1) := by decide +kernel
theorem dL_law_1836 : decode cL_law 1836 = .ok (.laload, 1) := by decide +kernel
theorem dL_law_1837 : decode cL_law 1837 = .ok (.iload 6, 2) := by decide +kernel
theorem dL_law_1839 : decode cL_law 1839 = .ok (.i2l, 1) := by decide +kernel
theorem dL_law_1840 : decode cL_law 1840 = .ok (.lcmp, 1) := by decide +kernel
theorem dL_law_1841 : decode cL_law 1841 = .ok (.ifCond .eq 5, 3) := by decide +kernel
theorem dL_law_1844 : decode cL_law 1844 = .ok (.iconst 0, 1) := by decide +kernel
theorem dL_law_1845 : decode cL_law 1845 = .ok (.ireturn, 1) := by decide +kernel
theorem dL_law_1846 : decode cL_law 1846 = .ok (.goto 17, 3) := by decide +kernel
theorem dL_law_1849 : decode cL_law 1849 = .ok (.aload_n 1, 1) := by decide +kernel
theorem dL_law_1850 : decode cL_law 1850 = .ok (.invokevirtual 209, 3) := by decide +kernel
theorem dL_law_1853 : decode cL_law 1853 = .ok (.aload_n 2, 1) := by decide +kernel
theorem dL_law_1854 : decode cL_law 1854 = .ok (.invokevirtual 213, 3) := by decide +kernel
theorem dL_law_1857 : decode cL_law 1857 = .ok (.lcmp, 1) := by decide +kernel
theorem dL_law_1858 : decode cL_law 1858 = .ok (.ifCond .eq 5, 3) := by decide +kernel
theorem dL_law_1861 : decode cL_law 1861 = .ok (.iconst 0, 1) := by decide +kernel
theorem dL_law_1862 : decode cL_law 1862 = .ok (.ireturn, 1) := by decide +kernel
theorem dL_law_1863 : decode cL_law 1863 = .ok (.iinc 4 4, 3) := by decide +kernel
theorem dL_law_1866 : decode cL_law 1866 = .ok (.goto (-1843), 3) := by decide +kernel
theorem dL_law_1869 : decode cL_law 1869 = .ok (.iconst 1, 1) := by decide +kernel
theorem dL_law_1870 : decode cL_law 1870 = .ok (.ireturn, 1) := by decide +kernel
end
section
theorem dX0_init_0 : decode cX0_init 0 = .ok (.aload_n 0, 1) := by decide +kernel
theorem dX0_init_1 : decode cX0_init 1 = .ok (.invokespecial 3, 3) := by decide +kernel
theorem dX0_init_4 : decode cX0_init 4 = .ok (.aload_n 0, 1) := by decide +kernel
theorem dX0_init_5 : decode cX0_init 5 = .ok (.new 9, 3) := by decide +kernel
theorem dX0_init_8 : decode cX0_init 8 = .ok (.dup, 1) := by decide +kernel
theorem dX0_init_9 : decode cX0_init 9 = .ok (.invokespecial 11, 3) := by decide +kernel
theorem dX0_init_12 : decode cX0_init 12 = .ok (.putfield 12, 3) := by decide +kernel
theorem dX0_init_15 : decode cX0_init 15 = .ok (.aload_n 0, 1) := by decide +kernel
theorem dX0_init_16 : decode cX0_init 16 = .ok (.new 18, 3) := by decide +kernel
theorem dX0_init_19 : decode cX0_init 19 = .ok (.dup, 1) := by decide +kernel
theorem dX0_init_20 : decode cX0_init 20 = .ok (.invokespecial 20, 3) := by decide +kernel
theorem dX0_init_23 : decode cX0_init 23 = .ok (.putfield 21, 3) := by decide +kernel
theorem dX0_init_26 : decode cX0_init 26 = .ok (.aload_n 0, 1) := by decide +kernel
theorem dX0_init_27 : decode cX0_init 27 = .ok (.bipush 6, 2) := by decide +kernel
theorem dX0_init_29 : decode cX0_init 29 = .ok (.anewarray 25, 3) := by decide +kernel
theorem dX0_init_32 : decode cX0_init 32 = .ok (.putfield 27, 3) := by decide +kernel
theorem dX0_init_35 : decode cX0_init 35 = .ok (.aload_n 0, 1) := by decide +kernel
theorem dX0_init_36 : decode cX0_init 36 = .ok (.iconst 0, 1) := by decide +kernel
theorem dX0_init_37 : decode cX0_init 37 = .ok (.putfield 31, 3) := by decide +kernel
theorem dX0_init_40 : decode cX0_init 40 = .ok (.aload_n 0, 1) := by decide +kernel
theorem dX0_init_41 : decode cX0_init 41 = .ok (.new 35, 3) := by decide +kernel
theorem dX0_init_44 : decode cX0_init 44 = .ok (.dup, 1) := by decide +kernel
theorem dX0_init_45 : decode cX0_init 45 = .ok (.invokespecial 37, 3) := by decide +kernel
theorem dX0_init_48 : decode cX0_init 48 = .ok (.putfield 38, 3) := by decide +kernel
theorem dX0_init_51 : decode cX0_init 51 = .ok (.aload_n 0, 1) := by decide +kernel
theorem dX0_init_52 : decode cX0_init 52 = .ok (.new 42, 3) := by decide +kernel
theorem dX0_init_55 : decode cX0_init 55 = .ok (.dup, 1) := by decide +kernel
theorem dX0_init_56 : decode cX0_init 56 = .ok (.invokespecial 44, 3) := by decide +kernel
theorem dX0_init_59 : decode cX0_init 59 = .ok (.putfield 45, 3) := by decide +kernel
theorem dX0_init_62 : decode cX0_init 62 = .ok (.aload_n 0, 1) := by decide +kernel
theorem dX0_init_63 : decode cX0_init 63 = .ok (.iconst 0, 1) := by decide +kernel
theorem dX0_init_64 : decode cX0_init 64 = .ok (.putfield 49, 3) := by decide +kernel
theorem dX0_init_67 : decode cX0_init 67 = .ok (.aload_n 0, 1) := by decide +kernel
theorem dX0_init_68 : decode cX0_init 68 = .ok (.iconst 4, 1) := by decide +kernel
theorem dX0_init_69 : decode cX0_init 69 = .ok (.putfield 52, 3) := by decide +kernel
theorem dX0_init_72 : decode cX0_init 72 = .ok (.aload_n 0, 1) := by decide +kernel
theorem dX0_init_73 : decode cX0_init 73 = .ok (.iconst 0, 1) := by decide +kernel
theorem dX0_init_74 : decode cX0_init 74 = .ok (.putfield 55, 3) := by decide +kernel
theorem dX0_init_77 : decode cX0_init 77 = .ok (.aload_n 0, 1) := by decide +kernel
theorem dX0_init_78 : decode cX0_init 78 = .ok (.iconst 0, 1) := by decide +kernel
theorem dX0_init_79 : decode cX0_init 79 = .ok (.putfield 59, 3) := by decide +kernel
theorem dX0_init_82 : decode cX0_init 82 = .ok (.aload_n 0, 1) := by decide +kernel
theorem dX0_init_83 : decode cX0_init 83 = .ok (.iconst 0, 1) := by decide +kernel
theorem dX0_init_84 : decode cX0_init 84 = .ok (.putfield 62, 3) := by decide +kernel
theorem dX0_init_87 : decode cX0_init 87 = .ok (.aload_n 0, 1) := by decide +kernel
theorem dX0_init_88 : decode cX0_init 88 = .ok (.iconst 0, 1) := by decide +kernel
theorem dX0_init_89 : decode cX0_init 89 = .ok (.putfield 65, 3) := by decide +kernel
theorem dX0_init_92 : decode cX0_init 92 = .ok (.iconst 0, 1) := by decide +kernel
theorem dX0_init_93 : decode cX0_init 93 = .ok (.istore_n 1, 1) := by decide +kernel
theorem dX0_init_94 : decode cX0_init 94 = .ok (.iload_n 1, 1) := by decide +kernel
theorem dX0_init_95 : decode cX0_init 95 = .ok (.bipush 6, 2) := by decide +kernel
theorem dX0_init_97 : decode cX0_init 97 = .ok (.if_icmp .ge 22, 3) := by decide +kernel
theorem dX0_init_100 : decode cX0_init 100 = .ok (.aload_n 0, 1) := by decide +kernel
theorem dX0_init_101 : decode cX0_init 101 = .ok (.getfield 27, 3) := by decide +kernel
theorem dX0_init_104 : decode cX0_init 104 = .ok (.iload_n 1, 1) := by decide +kernel
theorem dX0_init_105 : decode cX0_init 105 = .ok (.new 25, 3) := by decide +kernel
theorem dX0_init_108 : decode cX0_init 108 = .ok (.dup, 1) := by decide +kernel
theorem dX0_init_109 : decode cX0_init 109 = .ok (.invokespecial 68, 3) := by decide +kernel
theorem dX0_init_112 : decode cX0_init 112 = .ok (.aastore, 1) := by decide +kernel
theorem dX0_init_113 : decode cX0_init 113 = .ok (.iinc 1 1, 3) := by decide +kernel
theorem dX0_init_116 : decode cX0_init 116 = .ok (.goto (-22), 3) := by decide +kernel
theorem dX0_init_119 : decode cX0_init 119 = .ok (.return_, 1) := by decide +kernel
theorem dX0_startAnew_0 : decode cX0_startAnew 0 = .ok (.aload_n 0, 1) := by decide +kernel
theorem dX0_startAnew_1 : decode cX0_startAnew 1 = .ok (.getfield 12, 3) := by decide +kernel
theorem dX0_startAnew_4 : decode cX0_startAnew 4 = .ok (.iload_n 1, 1) := by decide +kernel
theorem dX0_startAnew_5 : decode cX0_startAnew 5 = .ok (.invokevirtual 69, 3) := by decide +kernel
theorem dX0_startAnew_8 : decode cX0_startAnew 8 = .ok (.aload_n 0, 1) := by decide +kernel
theorem dX0_startAnew_9 : decode cX0_startAnew 9 = .ok (.getfield 21, 3) := by decide +kernel
theorem dX0_startAnew_12 : decode cX0_startAnew 12 = .ok (.iconst 0, 1) := by decide +kernel
theorem dX0_startAnew_13 : decode cX0_startAnew 13 = .ok (.putfield 73, 3) := by decide +kernel
theorem dX0_startAnew_16 : decode cX0_startAnew 16 = .ok (.aload_n 0, 1) := by decide +kernel
theorem dX0_startAnew_17 : decode cX0_startAnew 17 = .ok (.iconst 0, 1) := by decide +kernel
theorem dX0_startAnew_18 : decode cX0_startAnew 18 = .ok (.putfield 31, 3) := by decide +kernel
theorem dX0_startAnew_21 : decode cX0_startAnew 21 = .ok (.aload_n 0, 1) := by decide +kernel
theorem dX0_startAnew_22 : decode cX0_startAnew 22 = .ok (.getfield 38, 3) := by decide +kernel
theorem dX0_startAnew_25 : decode cX0_startAnew 25 = .ok (.iconst 0, 1) := by decide +kernel
theorem dX0_startAnew_26 : decode cX0_startAnew 26 = .ok (.putfield 76, 3) := by decide +kernel
theorem dX0_startAnew_29 : decode cX0_startAnew 29 = .ok (.aload_n 0, 1) := by decide +kernel
theorem dX0_startAnew_30 : decode cX0_startAnew 30 = .ok (.getfield 38, 3) := by decide +kernel
theorem dX0_startAnew_33 : decode cX0_startAnew 33 = .ok (.iconst 0, 1) := by decide +kernel
theorem dX0_startAnew_34 : decode cX0_startAnew 34 = .ok (.putfield 77, 3) := by decide +kernel
theorem dX0_startAnew_37 : decode cX0_startAnew 37 = .ok (.aload_n 0, 1) := by decide +kernel
theorem dX0_startAnew_38 : decode cX0_startAnew 38 = .ok (.getfield 45, 3) := by decide +kernel
theorem dX0_startAnew_41 : decode cX0_startAnew 41 = .ok (.iconst 0, 1) := by decide +kernel
theorem dX0_startAnew_42 : decode cX0_startAnew 42 = .ok (.putfield 80, 3) := by decide +kernel
theorem dX0_startAnew_45 : decode cX0_startAnew 45 = .ok (.aload_n 0, 1) := by decide +kernel
theorem dX0_startAnew_46 : decode cX0_startAnew 46 = .ok (.getfield 45, 3) := by decide +kernel
theorem dX0_startAnew_49 : decode cX0_startAnew 49 = .ok (.iconst 0, 1) := by decide +kernel
theorem dX0_startAnew_50 : decode cX0_startAnew 50 = .ok (.putfield 83, 3) := by decide +kernel
theorem dX0_startAnew_53 : decode cX0_startAnew 53 = .ok (.aload_n 0, 1) := by decide +kernel
theorem dX0_startAnew_54 : decode cX0_startAnew 54 = .ok (.iconst 0, 1) := by decide +kernel
theorem dX0_startAnew_55 : decode cX0_startAnew 55 = .ok (.putfield 49, 3) := by decide +kernel
theorem dX0_startAnew_58 : decode cX0_startAnew 58 = .ok (.aload_n 0, 1) := by decide +kernel
theorem dX0_startAnew_59 : decode cX0_startAnew 59 = .ok (.iload_n 1, 1) := by decide +kernel
theorem dX0_startAnew_60 : decode cX0_startAnew 60 = .ok (.putfield 52, 3) := by decide +kernel
theorem dX0_startAnew_63 : decode cX0_startAnew 63 = .ok (.aload_n 0, 1) := by decide +kernel
theorem dX0_startAnew_64 : decode cX0_startAnew 64 = .ok (.iconst 0, 1) := by decide +kernel
theorem dX0_startAnew_65 : decode cX0_startAnew 65 = .ok (.putfield 55, 3) := by decide +kernel
theorem dX0_startAnew_68 : decode cX0_startAnew 68 = .ok (.aload_n 0, 1) := by decide +kernel
theorem dX0_startAnew_69 : decode cX0_startAnew 69 = .ok (.iconst 0, 1) := by decide +kernel
theorem dX0_startAnew_70 : decode cX0_startAnew 70 = .ok (.putfield 59, 3) := by decide +kernel
theorem dX0_startAnew_73 : decode cX0_startAnew 73 = .ok (.aload_n 0, 1) := by decide +kernel
theorem dX0_startAnew_74 : decode cX0_startAnew 74 = .ok (.iconst 0, 1) := by decide +kernel
theorem dX0_startAnew_75 : decode cX0_startAnew 75 = .ok (.putfield 62, 3) := by decide +kernel
theorem dX0_startAnew_78 : decode cX0_startAnew 78 = .ok (.aload_n 0, 1) := by decide +kernel
theorem dX0_startAnew_79 : decode cX0_startAnew 79 = .ok (.iconst 0, 1) := by decide +kernel
theorem dX0_startAnew_80 : decode cX0_startAnew 80 = .ok (.putfield 65, 3) := by decide +kernel
theorem dX0_startAnew_83 : decode cX0_startAnew 83 = .ok (.return_, 1) := by decide +kernel
theorem dX0_copyFrom_0 : decode cX0_copyFrom 0 = .ok (.aload_n 0, 1) := by decide +kernel
theorem dX0_copyFrom_1 : decode cX0_copyFrom 1 = .ok (.getfield 12, 3) := by decide +kernel
theorem dX0_copyFrom_4 : decode cX0_copyFrom 4 = .ok (.aload_n 1, 1) := by decide +kernel
theorem dX0_copyFrom_5 : decode cX0_copyFrom 5 = .ok (.getfield 12, 3) := by decide +kernel
theorem dX0_copyFrom_8 : decode cX0_copyFrom 8 = .ok (.invokevirtual 86, 3) := by decide +kernel
theorem dX0_copyFrom_11 : decode cX0_copyFrom 11 = .ok (.aload_n 0, 1) := by decide +kernel
theorem dX0_copyFrom_12 : decode cX0_copyFrom 12 = .ok (.getfield 21, 3) := by decide +kernel
theorem dX0_copyFrom_15 : decode cX0_copyFrom 15 = .ok (.aload_n 1, 1) := by decide +kernel
theorem dX0_copyFrom_16 : decode cX0_copyFrom 16 = .ok (.getfield 21, 3) := by decide +kernel
theorem dX0_copyFrom_19 : decode cX0_copyFrom 19 = .ok (.invokevirtual 90, 3) := by decide +kernel
theorem dX0_copyFrom_22 : decode cX0_copyFrom 22 = .ok (.iconst 0, 1) := by decide +kernel
theorem dX0_copyFrom_23 : decode cX0_copyFrom 23 = .ok (.istore_n 2, 1) := by decide +kernel
theorem dX0_copyFrom_24 : decode cX0_copyFrom 24 = .ok (.iload_n 2, 1) := by decide +kernel
theorem dX0_copyFrom_25 : decode cX0_copyFrom 25 = .ok (.bipush 6, 2) := by decide +kernel
theorem dX0_copyFrom_27 : decode cX0_copyFrom 27 = .ok (.if_icmp .ge 24, 3) := by decide +kernel
theorem dX0_copyFrom_30 : decode cX0_copyFrom 30 = .ok (.aload_n 0, 1) := by decide +kernel
theorem dX0_copyFrom_31 : decode cX0_copyFrom 31 = .ok (.getfield 27, 3) := by decide +kernel
theorem dX0_copyFrom_34 : decode cX0_copyFrom 34 = .ok (.iload_n 2, 1) := by decide +kernel
theorem dX0_copyFrom_35 : decode cX0_copyFrom 35 = .ok (.aaload, 1) := by decide +kernel
theorem dX0_copyFrom_36 : decode cX0_copyFrom 36 = .ok (.aload_n 1, 1) := by decide +kernel
theorem dX0_copyFrom_37 : decode cX0_copyFrom 37 = .ok (.getfield 27, 3) := by decide +kernel
theorem dX0_copyFrom_40 : decode cX0_copyFrom 40 = .ok (.iload_n 2, 1) := by decide +kernel
theorem dX0_copyFrom_41 : decode cX0_copyFrom 41 = .ok (.aaload, 1) := by decide +kernel
theorem dX0_copyFrom_42 : decode cX0_copyFrom 42 = .ok (.invokevirtual 93, 3) := by decide +kernel
theorem dX0_copyFrom_45 : decode cX0_copyFrom 45 = .ok (.iinc 2 1, 3) := by decide +kernel
theorem dX0_copyFrom_48 : decode cX0_copyFrom 48 = .ok (.goto (-24), 3) := by decide +kernel
theorem dX0_copyFrom_51 : decode cX0_copyFrom 51 = .ok (.aload_n 0, 1) := by decide +kernel
theorem dX0_copyFrom_52 : decode cX0_copyFrom 52 = .ok (.aload_n 1, 1) := by decide +kernel
theorem dX0_copyFrom_53 : decode cX0_copyFrom 53 = .ok (.getfield 31, 3) := by decide +kernel
theorem dX0_copyFrom_56 : decode cX0_copyFrom 56 = .ok (.putfield 31, 3) := by decide +kernel
theorem dX0_copyFrom_59 : decode cX0_copyFrom 59 = .ok (.aload_n 0, 1) := by decide +kernel
theorem dX0_copyFrom_60 : decode cX0_copyFrom 60 = .ok (.getfield 38, 3) := by decide +kernel
theorem dX0_copyFrom_63 : decode cX0_copyFrom 63 = .ok (.aload_n 1, 1) := by decide +kernel
theorem dX0_copyFrom_64 : decode cX0_copyFrom 64 = .ok (.getfield 38, 3) := by decide +kernel
theorem dX0_copyFrom_67 : decode cX0_copyFrom 67 = .ok (.invokevirtual 96, 3) := by decide +kernel
theorem dX0_copyFrom_70 : decode cX0_copyFrom 70 = .ok (.aload_n 0, 1) := by decide +kernel
theorem dX0_copyFrom_71 : decode cX0_copyFrom 71 = .ok (.getfield 45, 3) := by decide +kernel
theorem dX0_copyFrom_74 : decode cX0_copyFrom 74 = .ok (.aload_n 1, 1) := by decide +kernel
theorem dX0_copyFrom_75 : decode cX0_copyFrom 75 = .ok (.getfield 45, 3) := by decide +kernel
theorem dX0_copyFrom_78 : decode cX0_copyFrom 78 = .ok (.invokevirtual 99, 3) := by decide +kernel
theorem dX0_copyFrom_81 : decode cX0_copyFrom 81 = .ok (.aload_n 0, 1) := by decide +kernel
theorem dX0_copyFrom_82 : decode cX0_copyFrom 82 = .ok (.aload_n 1, 1) := by decide +kernel
theorem dX0_copyFrom_83 : decode cX0_copyFrom 83 = .ok (.getfield 49, 3) := by decide +kernel
theorem dX0_copyFrom_86 : decode cX0_copyFrom 86 = .ok (.putfield 49, 3) := by decide +kernel
theorem dX0_copyFrom_89 : decode cX0_copyFrom 89 = .ok (.aload_n 0, 1) := by decide +kernel
theorem dX0_copyFrom_90 : decode cX0_copyFrom 90 = .ok (.aload_n 1, 1) := by decide +kernel
theorem dX0_copyFrom_91 : decode cX0_copyFrom 91 = .ok (.getfield 52, 3) := by decide +kernel
theorem dX0_copyFrom_94 : decode cX0_copyFrom 94 = .ok (.putfield 52, 3) := by decide +kernel
theorem dX0_copyFrom_97 : decode cX0_copyFrom 97 = .ok (.aload_n 0, 1) := by decide +kernel
theorem dX0_copyFrom_98 : decode cX0_copyFrom 98 = .ok (.aload_n 1, 1) := by decide +kernel
theorem dX0_copyFrom_99 : decode cX0_copyFrom 99 = .ok (.getfield 55, 3) := by decide +kernel
theorem dX0_copyFrom_102 : decode cX0_copyFrom 102 = .ok (.putfield 55, 3) := by decide +kernel
theorem dX0_copyFrom_105 : decode cX0_copyFrom 105 = .ok (.aload_n 0, 1) := by decide +kernel
theorem dX0_copyFrom_106 : decode cX0_copyFrom 106 = .ok (.aload_n 1, 1) := by decide +kernel
theorem dX0_copyFrom_107 : decode cX0_copyFrom 107 = .ok (.getfield 59, 3) := by decide +kernel
theorem dX0_copyFrom_110 : decode cX0_copyFrom 110 = .ok (.putfield 59, 3) := by decide +kernel
theorem dX0_copyFrom_113 : decode cX0_copyFrom 113 = .ok (.aload_n 0, 1) := by decide +kernel
theorem dX0_copyFrom_114 : decode cX0_copyFrom 114 = .ok (.aload_n 1, 1) := by decide +kernel
theorem dX0_copyFrom_115 : decode cX0_copyFrom 115 = .ok (.getfield 62, 3) := by decide +kernel
theorem dX0_copyFrom_118 : decode cX0_copyFrom 118 = .ok (.putfield 62, 3) := by decide +kernel
theorem dX0_copyFrom_121 : decode cX0_copyFrom 121 = .ok (.aload_n 0, 1) := by decide +kernel
theorem dX0_copyFrom_122 : decode cX0_copyFrom 122 = .ok (.aload_n 1, 1) := by decide +kernel
theorem dX0_copyFrom_123 : decode cX0_copyFrom 123 = .ok (.getfield 65, 3) := by decide +kernel
theorem dX0_copyFrom_126 : decode cX0_copyFrom 126 = .ok (.putfield 65, 3) := by decide +kernel
theorem dX0_copyFrom_129 : decode cX0_copyFrom 129 = .ok (.return_, 1) := by decide +kernel
theorem dX0_addOne_0 : decode cX0_addOne 0 = .ok (.aload_n 0, 1) := by decide +kernel
theorem dX0_addOne_1 : decode cX0_addOne 1 = .ok (.getfield 31, 3) := by decide +kernel
theorem dX0_addOne_4 : decode cX0_addOne 4 = .ok (.istore_n 2, 1) := by decide +kernel
theorem dX0_addOne_5 : decode cX0_addOne 5 = .ok (.iload_n 2, 1) := by decide +kernel
theorem dX0_addOne_6 : decode cX0_addOne 6 = .ok (.bipush 6, 2) := by decide +kernel
theorem dX0_addOne_8 : decode cX0_addOne 8 = .ok (.if_icmp .lt 5, 3) := by decide +kernel
theorem dX0_addOne_11 : decode cX0_addOne 11 = .ok (.iconst (-1), 1) := by decide +kernel
theorem dX0_addOne_12 : decode cX0_addOne 12 = .ok (.ireturn, 1) := by decide +kernel
theorem dX0_addOne_13 : decode cX0_addOne 13 = .ok (.aload_n 0, 1) := by decide +kernel
theorem dX0_addOne_14 : decode cX0_addOne 14 = .ok (.getfield 27, 3) := by decide +kernel
theorem dX0_addOne_17 : decode cX0_addOne 17 = .ok (.iload_n 2, 1) := by decide +kernel
theorem dX0_addOne_18 : decode cX0_addOne 18 = .ok (.aaload, 1) := by decide +kernel
theorem dX0_addOne_19 : decode cX0_addOne 19 = .ok (.iload_n 1, 1) := by decide +kernel
theorem dX0_addOne_20 : decode cX0_addOne 20 = .ok (.invokevirtual 102, 3) := by decide +kernel
theorem dX0_addOne_23 : decode cX0_addOne 23 = .ok (.aload_n 0, 1) := by decide +kernel
theorem dX0_addOne_24 : decode cX0_addOne 24 = .ok (.dup, 1) := by decide +kernel
theorem dX0_addOne_25 : decode cX0_addOne 25 = .ok (.getfield 31, 3) := by decide +kernel
theorem dX0_addOne_28 : decode cX0_addOne 28 = .ok (.iconst 1, 1) := by decide +kernel
theorem dX0_addOne_29 : decode cX0_addOne 29 = .ok (.iadd, 1) := by decide +kernel
theorem dX0_addOne_30 : decode cX0_addOne 30 = .ok (.putfield 31, 3) := by decide +kernel
theorem dX0_addOne_33 : decode cX0_addOne 33 = .ok (.iload_n 2, 1) := by decide +kernel
theorem dX0_addOne_34 : decode cX0_addOne 34 = .ok (.ireturn, 1) := by decide +kernel
theorem dX0_isStanding_0 : decode cX0_isStanding 0 = .ok (.iload_n 1, 1) := by decide +kernel
theorem dX0_isStanding_1 : decode cX0_isStanding 1 = .ok (.ifCond .lt 27, 3) := by decide +kernel
theorem dX0_isStanding_4 : decode cX0_isStanding 4 = .ok (.iload_n 1, 1) := by decide +kernel
theorem dX0_isStanding_5 : decode cX0_isStanding 5 = .ok (.aload_n 0, 1) := by decide +kernel
theorem dX0_isStanding_6 : decode cX0_isStanding 6 = .ok (.getfield 31, 3) := by decide +kernel
theorem dX0_isStanding_9 : decode cX0_isStanding 9 = .ok (.if_icmp .ge 19, 3) := by decide +kernel
theorem dX0_isStanding_12 : decode cX0_isStanding 12 = .ok (.aload_n 0, 1) := by decide +kernel
theorem dX0_isStanding_13 : decode cX0_isStanding 13 = .ok (.getfield 27, 3) := by decide +kernel
theorem dX0_isStanding_16 : decode cX0_isStanding 16 = .ok (.iload_n 1, 1) := by decide +kernel
theorem dX0_isStanding_17 : decode cX0_isStanding 17 = .ok (.aaload, 1) := by decide +kernel
theorem dX0_isStanding_18 : decode cX0_isStanding 18 = .ok (.getfield 103, 3) := by decide +kernel
theorem dX0_isStanding_21 : decode cX0_isStanding 21 = .ok (.ifCond .ne 7, 3) := by decide +kernel
theorem dX0_isStanding_24 : decode cX0_isStanding 24 = .ok (.iconst 1, 1) := by decide +kernel
theorem dX0_isStanding_25 : decode cX0_isStanding 25 = .ok (.goto 4, 3) := by decide +kernel
theorem dX0_isStanding_28 : decode cX0_isStanding 28 = .ok (.iconst 0, 1) := by decide +kernel
theorem dX0_isStanding_29 : decode cX0_isStanding 29 = .ok (.ireturn, 1) := by decide +kernel
theorem dX0_walkersThrough_0 : decode cX0_walkersThrough 0 = .ok (.iconst 0, 1) := by decide +kernel
theorem dX0_walkersThrough_1 : decode cX0_walkersThrough 1 = .ok (.istore_n 2, 1) := by decide +kernel
theorem dX0_walkersThrough_2 : decode cX0_walkersThrough 2 = .ok (.iconst 0, 1) := by decide +kernel
theorem dX0_walkersThrough_3 : decode cX0_walkersThrough 3 = .ok (.istore_n 3, 1) := by decide +kernel
theorem dX0_walkersThrough_4 : decode cX0_walkersThrough 4 = .ok (.iload_n 3, 1) := by decide +kernel
theorem dX0_walkersThrough_5 : decode cX0_walkersThrough 5 = .ok (.aload_n 0, 1) := by decide +kernel
theorem dX0_walkersThrough_6 : decode cX0_walkersThrough 6 = .ok (.getfield 31, 3) := by decide +kernel
theorem dX0_walkersThrough_9 : decode cX0_walkersThrough 9 = .ok (.if_icmp .ge 25, 3) := by decide +kernel
theorem dX0_walkersThrough_12 : decode cX0_walkersThrough 12 = .ok (.aload_n 0, 1) := by decide +kernel
theorem dX0_walkersThrough_13 : decode cX0_walkersThrough 13 = .ok (.getfield 27, 3) := by decide +kernel
theorem dX0_walkersThrough_16 : decode cX0_walkersThrough 16 = .ok (.iload_n 3, 1) := by decide +kernel
theorem dX0_walkersThrough_17 : decode cX0_walkersThrough 17 = .ok (.aaload, 1) := by decide +kernel
theorem dX0_walkersThrough_18 : decode cX0_walkersThrough 18 = .ok (.iload_n 1, 1) := by decide +kernel
theorem dX0_walkersThrough_19 : decode cX0_walkersThrough 19 = .ok (.invokevirtual 106, 3) := by decide +kernel
theorem dX0_walkersThrough_22 : decode cX0_walkersThrough 22 = .ok (.ifCond .eq 6, 3) := by decide +kernel
theorem dX0_walkersThrough_25 : decode cX0_walkersThrough 25 = .ok (.iinc 2 1, 3) := by decide +kernel
theorem dX0_walkersThrough_28 : decode cX0_walkersThrough 28 = .ok (.iinc 3 1, 3) := by decide +kernel
theorem dX0_walkersThrough_31 : decode cX0_walkersThrough 31 = .ok (.goto (-27), 3) := by decide +kernel
theorem dX0_walkersThrough_34 : decode cX0_walkersThrough 34 = .ok (.iload_n 2, 1) := by decide +kernel
theorem dX0_walkersThrough_35 : decode cX0_walkersThrough 35 = .ok (.ireturn, 1) := by decide +kernel
theorem dX0_riggerOf_0 : decode cX0_riggerOf 0 = .ok (.iconst 0, 1) := by decide +kernel
theorem dX0_riggerOf_1 : decode cX0_riggerOf 1 = .ok (.istore_n 2, 1) := by decide +kernel
theorem dX0_riggerOf_2 : decode cX0_riggerOf 2 = .ok (.iload_n 2, 1) := by decide +kernel
theorem dX0_riggerOf_3 : decode cX0_riggerOf 3 = .ok (.aload_n 0, 1) := by decide +kernel
theorem dX0_riggerOf_4 : decode cX0_riggerOf 4 = .ok (.getfield 31, 3) := by decide +kernel
theorem dX0_riggerOf_7 : decode cX0_riggerOf 7 = .ok (.if_icmp .ge 37, 3) := by decide +kernel
theorem dX0_riggerOf_10 : decode cX0_riggerOf 10 = .ok (.aload_n 0, 1) := by decide +kernel
theorem dX0_riggerOf_11 : decode cX0_riggerOf 11 = .ok (.getfield 27, 3) := by decide +kernel
theorem dX0_riggerOf_14 : decode cX0_riggerOf 14 = .ok (.iload_n 2, 1) := by decide +kernel
theorem dX0_riggerOf_15 : decode cX0_riggerOf 15 = .ok (.aaload, 1) := by decide +kernel
theorem dX0_riggerOf_16 : decode cX0_riggerOf 16 = .ok (.getfield 103, 3) := by decide +kernel
theorem dX0_riggerOf_19 : decode cX0_riggerOf 19 = .ok (.iconst 2, 1) := by decide +kernel
theorem dX0_riggerOf_20 : decode cX0_riggerOf 20 = .ok (.if_icmp .ne 18, 3) := by decide +kernel
theorem dX0_riggerOf_23 : decode cX0_riggerOf 23 = .ok (.aload_n 0, 1) := by decide +kernel
theorem dX0_riggerOf_24 : decode cX0_riggerOf 24 = .ok (.getfield 27, 3) := by decide +kernel
theorem dX0_riggerOf_27 : decode cX0_riggerOf 27 = .ok (.iload_n 2, 1) := by decide +kernel
theorem dX0_riggerOf_28 : decode cX0_riggerOf 28 = .ok (.aaload, 1) := by decide +kernel
theorem dX0_riggerOf_29 : decode cX0_riggerOf 29 = .ok (.getfield 110, 3) := by decide +kernel
theorem dX0_riggerOf_32 : decode cX0_riggerOf 32 = .ok (.iload_n 1, 1) := by decide +kernel
theorem dX0_riggerOf_33 : decode cX0_riggerOf 33 = .ok (.if_icmp .ne 5, 3) := by decide +kernel
theorem dX0_riggerOf_36 : decode cX0_riggerOf 36 = .ok (.iload_n 2, 1) := by decide +kernel
theorem dX0_riggerOf_37 : decode cX0_riggerOf 37 = .ok (.ireturn, 1) := by decide +kernel
theorem dX0_riggerOf_38 : decode cX0_riggerOf 38 = .ok (.iinc 2 1, 3) := by decide +kernel
theorem dX0_riggerOf_41 : decode cX0_riggerOf 41 = .ok (.goto (-39), 3) := by decide +kernel
theorem dX0_riggerOf_44 : decode cX0_riggerOf 44 = .ok (.iconst (-1), 1) := by decide +kernel
theorem dX0_riggerOf_45 : decode cX0_riggerOf 45 = .ok (.ireturn, 1) := by decide +kernel
theorem dX0_isInUse_0 : decode cX0_isInUse 0 = .ok (.aload_n 0, 1) := by decide +kernel
theorem dX0_isInUse_1 : decode cX0_isInUse 1 = .ok (.getfield 12, 3) := by decide +kernel
theorem dX0_isInUse_4 : decode cX0_isInUse 4 = .ok (.iload_n 1, 1) := by decide +kernel
theorem dX0_isInUse_5 : decode cX0_isInUse 5 = .ok (.invokevirtual 113, 3) := by decide +kernel
theorem dX0_isInUse_8 : decode cX0_isInUse 8 = .ok (.iconst (-1), 1) := by decide +kernel
theorem dX0_isInUse_9 : decode cX0_isInUse 9 = .ok (.if_icmp .ne 20, 3) := by decide +kernel
theorem dX0_isInUse_12 : decode cX0_isInUse 12 = .ok (.aload_n 0, 1) := by decide +kernel
theorem dX0_isInUse_13 : decode cX0_isInUse 13 = .ok (.iload_n 1, 1) := by decide +kernel
theorem dX0_isInUse_14 : decode cX0_isInUse 14 = .ok (.invokevirtual 117, 3) := by decide +kernel
theorem dX0_isInUse_17 : decode cX0_isInUse 17 = .ok (.iconst (-1), 1) := by decide +kernel
theorem dX0_isInUse_18 : decode cX0_isInUse 18 = .ok (.if_icmp .ne 11, 3) := by decide +kernel
theorem dX0_isInUse_21 : decode cX0_isInUse 21 = .ok (.aload_n 0, 1) := by decide +kernel
theorem dX0_isInUse_22 : decode cX0_isInUse 22 = .ok (.iload_n 1, 1) := by decide +kernel
theorem dX0_isInUse_23 : decode cX0_isInUse 23 = .ok (.invokevirtual 120, 3) := by decide +kernel
theorem dX0_isInUse_26 : decode cX0_isInUse 26 = .ok (.ifCond .le 7, 3) := by decide +kernel
theorem dX0_isInUse_29 : decode cX0_isInUse 29 = .ok (.iconst 1, 1) := by decide +kernel
theorem dX0_isInUse_30 : decode cX0_isInUse 30 = .ok (.goto 4, 3) := by decide +kernel
theorem dX0_isInUse_33 : decode cX0_isInUse 33 = .ok (.iconst 0, 1) := by decide +kernel
theorem dX0_isInUse_34 : decode cX0_isInUse 34 = .ok (.ireturn, 1) := by decide +kernel
theorem dX0_isInTime_0 : decode cX0_isInTime 0 = .ok (.aload_n 1, 1) := by decide +kernel
theorem dX0_isInTime_1 : decode cX0_isInTime 1 = .ok (.getfield 123, 3) := by decide +kernel
theorem dX0_isInTime_4 : decode cX0_isInTime 4 = .ok (.iload_n 3, 1) := by decide +kernel
theorem dX0_isInTime_5 : decode cX0_isInTime 5 = .ok (.iadd, 1) := by decide +kernel
theorem dX0_isInTime_6 : decode cX0_isInTime 6 = .ok (.aload_n 0, 1) := by decide +kernel
theorem dX0_isInTime_7 : decode cX0_isInTime 7 = .ok (.getfield 12, 3) := by decide +kernel
theorem dX0_isInTime_10 : decode cX0_isInTime 10 = .ok (.iload_n 2, 1) := by decide +kernel
theorem dX0_isInTime_11 : decode cX0_isInTime 11 = .ok (.invokevirtual 126, 3) := by decide +kernel
theorem dX0_isInTime_14 : decode cX0_isInTime 14 = .ok (.iadd, 1) := by decide +kernel
theorem dX0_isInTime_15 : decode cX0_isInTime 15 = .ok (.aload_n 1, 1) := by decide +kernel
theorem dX0_isInTime_16 : decode cX0_isInTime 16 = .ok (.getfield 129, 3) := by decide +kernel
theorem dX0_isInTime_19 : decode cX0_isInTime 19 = .ok (.if_icmp .gt 7, 3) := by decide +kernel
theorem dX0_isInTime_22 : decode cX0_isInTime 22 = .ok (.iconst 1, 1) := by decide +kernel
theorem dX0_isInTime_23 : decode cX0_isInTime 23 = .ok (.goto 4, 3) := by decide +kernel
theorem dX0_isInTime_26 : decode cX0_isInTime 26 = .ok (.iconst 0, 1) := by decide +kernel
theorem dX0_isInTime_27 : decode cX0_isInTime 27 = .ok (.ireturn, 1) := by decide +kernel
theorem dX0_refusal_0 : decode cX0_refusal 0 = .ok (.aload_n 1, 1) := by decide +kernel
theorem dX0_refusal_1 : decode cX0_refusal 1 = .ok (.getfield 103, 3) := by decide +kernel
theorem dX0_refusal_4 : decode cX0_refusal 4 = .ok (.ifCond .eq 5, 3) := by decide +kernel
theorem dX0_refusal_7 : decode cX0_refusal 7 = .ok (.iconst 1, 1) := by decide +kernel
theorem dX0_refusal_8 : decode cX0_refusal 8 = .ok (.ireturn, 1) := by decide +kernel
theorem dX0_refusal_9 : decode cX0_refusal 9 = .ok (.iload_n 2, 1) := by decide +kernel
theorem dX0_refusal_10 : decode cX0_refusal 10 = .ok (.aload_n 1, 1) := by decide +kernel
theorem dX0_refusal_11 : decode cX0_refusal 11 = .ok (.getfield 110, 3) := by decide +kernel
theorem dX0_refusal_14 : decode cX0_refusal 14 = .ok (.iconst 1, 1) := by decide +kernel
theorem dX0_refusal_15 : decode cX0_refusal 15 = .ok (.isub, 1) := by decide +kernel
theorem dX0_refusal_16 : decode cX0_refusal 16 = .ok (.if_icmp .eq 13, 3) := by decide +kernel
theorem dX0_refusal_19 : decode cX0_refusal 19 = .ok (.iload_n 2, 1) := by decide +kernel
theorem dX0_refusal_20 : decode cX0_refusal 20 = .ok (.aload_n 1, 1) := by decide +kernel
theorem dX0_refusal_21 : decode cX0_refusal 21 = .ok (.getfield 110, 3) := by decide +kernel
theorem dX0_refusal_24 : decode cX0_refusal 24 = .ok (.iconst 1, 1) := by decide +kernel
theorem dX0_refusal_25 : decode cX0_refusal 25 = .ok (.iadd, 1) := by decide +kernel
theorem dX0_refusal_26 : decode cX0_refusal 26 = .ok (.if_icmp .ne 7, 3) := by decide +kernel
theorem dX0_refusal_29 : decode cX0_refusal 29 = .ok (.iconst 1, 1) := by decide +kernel
theorem dX0_refusal_30 : decode cX0_refusal 30 = .ok (.goto 4, 3) := by decide +kernel
theorem dX0_refusal_33 : decode cX0_refusal 33 = .ok (.iconst 0, 1) := by decide +kernel
theorem dX0_refusal_34 : decode cX0_refusal 34 = .ok (.istore_n 3, 1) := by decide +kernel
theorem dX0_refusal_35 : decode cX0_refusal 35 = .ok (.iload_n 3, 1) := by decide +kernel
theorem dX0_refusal_36 : decode cX0_refusal 36 = .ok (.ifCond .eq 18, 3) := by decide +kernel
theorem dX0_refusal_39 : decode cX0_refusal 39 = .ok (.iload_n 2, 1) := by decide +kernel
theorem dX0_refusal_40 : decode cX0_refusal 40 = .ok (.ifCond .lt 14, 3) := by decide +kernel
theorem dX0_refusal_43 : decode cX0_refusal 43 = .ok (.iload_n 2, 1) := by decide +kernel
theorem dX0_refusal_44 : decode cX0_refusal 44 = .ok (.aload_n 0, 1) := by decide +kernel
theorem dX0_refusal_45 : decode cX0_refusal 45 = .ok (.getfield 12, 3) := by decide +kernel
theorem dX0_refusal_48 : decode cX0_refusal 48 = .ok (.getfield 132, 3) := by decide +kernel
theorem dX0_refusal_51 : decode cX0_refusal 51 = .ok (.if_icmp .le 5, 3) := by decide +kernel
theorem dX0_refusal_54 : decode cX0_refusal 54 = .ok (.iconst 2, 1) := by decide +kernel
theorem dX0_refusal_55 : decode cX0_refusal 55 = .ok (.ireturn, 1) := by decide +kernel
theorem dX0_refusal_56 : decode cX0_refusal 56 = .ok (.iload_n 2, 1) := by decide +kernel
theorem dX0_refusal_57 : decode cX0_refusal 57 = .ok (.aload_n 1, 1) := by decide +kernel
theorem dX0_refusal_58 : decode cX0_refusal 58 = .ok (.getfield 110, 3) := by decide +kernel
theorem dX0_refusal_61 : decode cX0_refusal 61 = .ok (.if_icmp .ge 7, 3) := by decide +kernel
theorem dX0_refusal_64 : decode cX0_refusal 64 = .ok (.iconst 1, 1) := by decide +kernel
theorem dX0_refusal_65 : decode cX0_refusal 65 = .ok (.goto 4, 3) := by decide +kernel
theorem dX0_refusal_68 : decode cX0_refusal 68 = .ok (.iconst 0, 1) := by decide +kernel
theorem dX0_refusal_69 : decode cX0_refusal 69 = .ok (.istore 4, 2) := by decide +kernel
theorem dX0_refusal_71 : decode cX0_refusal 71 = .ok (.iload 4, 2) := by decide +kernel
theorem dX0_refusal_73 : decode cX0_refusal 73 = .ok (.ifCond .eq 7, 3) := by decide +kernel
theorem dX0_refusal_76 : decode cX0_refusal 76 = .ok (.iload_n 2, 1) := by decide +kernel
theorem dX0_refusal_77 : decode cX0_refusal 77 = .ok (.goto 7, 3) := by decide +kernel
theorem dX0_refusal_80 : decode cX0_refusal 80 = .ok (.aload_n 1, 1) := by decide +kernel
theorem dX0_refusal_81 : decode cX0_refusal 81 = .ok (.getfield 110, 3) := by decide +kernel
theorem dX0_refusal_84 : decode cX0_refusal 84 = .ok (.istore 5, 2) := by decide +kernel
theorem dX0_refusal_86 : decode cX0_refusal 86 = .ok (.aload_n 0, 1) := by decide +kernel
theorem dX0_refusal_87 : decode cX0_refusal 87 = .ok (.getfield 12, 3) := by decide +kernel
theorem dX0_refusal_90 : decode cX0_refusal 90 = .ok (.iload 5, 2) := by decide +kernel
theorem dX0_refusal_92 : decode cX0_refusal 92 = .ok (.invokevirtual 133, 3) := by decide +kernel
theorem dX0_refusal_95 : decode cX0_refusal 95 = .ok (.ifCond .ne 5, 3) := by decide +kernel
theorem dX0_refusal_98 : decode cX0_refusal 98 = .ok (.iconst 3, 1) := by decide +kernel
theorem dX0_refusal_99 : decode cX0_refusal 99 = .ok (.ireturn, 1) := by decide +kernel
theorem dX0_refusal_100 : decode cX0_refusal 100 = .ok (.aload_n 0, 1) := by decide +kernel
theorem dX0_refusal_101 : decode cX0_refusal 101 = .ok (.getfield 12, 3) := by decide +kernel
theorem dX0_refusal_104 : decode cX0_refusal 104 = .ok (.iload 5, 2) := by decide +kernel
theorem dX0_refusal_106 : decode cX0_refusal 106 = .ok (.invokevirtual 136, 3) := by decide +kernel
theorem dX0_refusal_109 : decode cX0_refusal 109 = .ok (.istore 6, 2) := by decide +kernel
theorem dX0_refusal_111 : decode cX0_refusal 111 = .ok (.iload 4, 2) := by decide +kernel
theorem dX0_refusal_113 : decode cX0_refusal 113 = .ok (.ifCond .eq 22, 3) := by decide +kernel
theorem dX0_refusal_116 : decode cX0_refusal 116 = .ok (.aload_n 0, 1) := by decide +kernel
theorem dX0_refusal_117 : decode cX0_refusal 117 = .ok (.getfield 12, 3) := by decide +kernel
theorem dX0_refusal_120 : decode cX0_refusal 120 = .ok (.iload 5, 2) := by decide +kernel
theorem dX0_refusal_122 : decode cX0_refusal 122 = .ok (.invokevirtual 139, 3) := by decide +kernel
theorem dX0_refusal_125 : decode cX0_refusal 125 = .ok (.ifCond .eq 10, 3) := by decide +kernel
theorem dX0_refusal_128 : decode cX0_refusal 128 = .ok (.iconst 2, 1) := by decide +kernel
theorem dX0_refusal_129 : decode cX0_refusal 129 = .ok (.iload 6, 2) := by decide +kernel
theorem dX0_refusal_131 : decode cX0_refusal 131 = .ok (.imul, 1) := by decide +kernel
theorem dX0_refusal_132 : decode cX0_refusal 132 = .ok (.goto 5, 3) := by decide +kernel
theorem dX0_refusal_135 : decode cX0_refusal 135 = .ok (.iload 6, 2) := by decide +kernel
theorem dX0_refusal_137 : decode cX0_refusal 137 = .ok (.istore 7, 2) := by decide +kernel
theorem dX0_refusal_139 : decode cX0_refusal 139 = .ok (.aload_n 1, 1) := by decide +kernel
theorem dX0_refusal_140 : decode cX0_refusal 140 = .ok (.getfield 142, 3) := by decide +kernel
theorem dX0_refusal_143 : decode cX0_refusal 143 = .ok (.iload 7, 2) := by decide +kernel
theorem dX0_refusal_145 : decode cX0_refusal 145 = .ok (.iadd, 1) := by decide +kernel
theorem dX0_refusal_146 : decode cX0_refusal 146 = .ok (.bipush 100, 2) := by decide +kernel
theorem dX0_refusal_148 : decode cX0_refusal 148 = .ok (.if_icmp .le 5, 3) := by decide +kernel
theorem dX0_refusal_151 : decode cX0_refusal 151 = .ok (.iconst 4, 1) := by decide +kernel
theorem dX0_refusal_152 : decode cX0_refusal 152 = .ok (.ireturn, 1) := by decide +kernel
theorem dX0_refusal_153 : decode cX0_refusal 153 = .ok (.iload 4, 2) := by decide +kernel
theorem dX0_refusal_155 : decode cX0_refusal 155 = .ok (.ifCond .ne 14, 3) := by decide +kernel
theorem dX0_refusal_158 : decode cX0_refusal 158 = .ok (.aload_n 0, 1) := by decide +kernel
theorem dX0_refusal_159 : decode cX0_refusal 159 = .ok (.aload_n 1, 1) := by decide +kernel
theorem dX0_refusal_160 : decode cX0_refusal 160 = .ok (.iload_n 2, 1) := by decide +kernel
theorem dX0_refusal_161 : decode cX0_refusal 161 = .ok (.iload 6, 2) := by decide +kernel
theorem dX0_refusal_163 : decode cX0_refusal 163 = .ok (.invokevirtual 145, 3) := by decide +kernel
theorem dX0_refusal_166 : decode cX0_refusal 166 = .ok (.ifCond .eq 7, 3) := by decide +kernel
theorem dX0_refusal_169 : decode cX0_refusal 169 = .ok (.iconst 0, 1) := by decide +kernel
theorem dX0_refusal_170 : decode cX0_refusal 170 = .ok (.goto 4, 3) := by decide +kernel
theorem dX0_refusal_173 : decode cX0_refusal 173 = .ok (.iconst 5, 1) := by decide +kernel
theorem dX0_refusal_174 : decode cX0_refusal 174 = .ok (.ireturn, 1) := by decide +kernel
theorem dX0_canWalk_0 : decode cX0_canWalk 0 = .ok (.aload_n 0, 1) := by decide +kernel
theorem dX0_canWalk_1 : decode cX0_canWalk 1 = .ok (.iload_n 1, 1) := by decide +kernel
theorem dX0_canWalk_2 : decode cX0_canWalk 2 = .ok (.invokevirtual 149, 3) := by decide +kernel
theorem dX0_canWalk_5 : decode cX0_canWalk 5 = .ok (.ifCond .eq 21, 3) := by decide +kernel
theorem dX0_canWalk_8 : decode cX0_canWalk 8 = .ok (.aload_n 0, 1) := by decide +kernel
theorem dX0_canWalk_9 : decode cX0_canWalk 9 = .ok (.aload_n 0, 1) := by decide +kernel
theorem dX0_canWalk_10 : decode cX0_canWalk 10 = .ok (.getfield 27, 3) := by decide +kernel
theorem dX0_canWalk_13 : decode cX0_canWalk 13 = .ok (.iload_n 1, 1) := by decide +kernel
theorem dX0_canWalk_14 : decode cX0_canWalk 14 = .ok (.aaload, 1) := by decide +kernel
theorem dX0_canWalk_15 : decode cX0_canWalk 15 = .ok (.iload_n 2, 1) := by decide +kernel
theorem dX0_canWalk_16 : decode cX0_canWalk 16 = .ok (.invokevirtual 152, 3) := by decide +kernel
theorem dX0_canWalk_19 : decode cX0_canWalk 19 = .ok (.ifCond .ne 7, 3) := by decide +kernel
theorem dX0_canWalk_22 : decode cX0_canWalk 22 = .ok (.iconst 1, 1) := by decide +kernel
theorem dX0_canWalk_23 : decode cX0_canWalk 23 = .ok (.goto 4, 3) := by decide +kernel
theorem dX0_canWalk_26 : decode cX0_canWalk 26 = .ok (.iconst 0, 1) := by decide +kernel
theorem dX0_canWalk_27 : decode cX0_canWalk 27 = .ok (.ireturn, 1) := by decide +kernel
theorem dX0_startWalk_0 : decode cX0_startWalk 0 = .ok (.aload_n 0, 1) := by decide +kernel
theorem dX0_startWalk_1 : decode cX0_startWalk 1 = .ok (.getfield 27, 3) := by decide +kernel
theorem dX0_startWalk_4 : decode cX0_startWalk 4 = .ok (.iload_n 1, 1) := by decide +kernel
theorem dX0_startWalk_5 : decode cX0_startWalk 5 = .ok (.aaload, 1) := by decide +kernel
theorem dX0_startWalk_6 : decode cX0_startWalk 6 = .ok (.astore_n 3, 1) := by decide +kernel
theorem dX0_startWalk_7 : decode cX0_startWalk 7 = .ok (.aload_n 0, 1) := by decide +kernel
theorem dX0_startWalk_8 : decode cX0_startWalk 8 = .ok (.getfield 12, 3) := by decide +kernel
theorem dX0_startWalk_11 : decode cX0_startWalk 11 = .ok (.aload_n 3, 1) := by decide +kernel
theorem dX0_startWalk_12 : decode cX0_startWalk 12 = .ok (.getfield 110, 3) := by decide +kernel
theorem dX0_startWalk_15 : decode cX0_startWalk 15 = .ok (.iload_n 2, 1) := by decide +kernel
theorem dX0_startWalk_16 : decode cX0_startWalk 16 = .ok (.invokestatic 156, 3) := by decide +kernel
theorem dX0_startWalk_19 : decode cX0_startWalk 19 = .ok (.invokevirtual 136, 3) := by decide +kernel
theorem dX0_startWalk_22 : decode cX0_startWalk 22 = .ok (.istore 4, 2) := by decide +kernel
theorem dX0_startWalk_24 : decode cX0_startWalk 24 = .ok (.aload_n 3, 1) := by decide +kernel
theorem dX0_startWalk_25 : decode cX0_startWalk 25 = .ok (.iload_n 2, 1) := by decide +kernel
theorem dX0_startWalk_26 : decode cX0_startWalk 26 = .ok (.iload 4, 2) := by decide +kernel
theorem dX0_startWalk_28 : decode cX0_startWalk 28 = .ok (.invokevirtual 162, 3) := by decide +kernel
theorem dX0_startWalk_31 : decode cX0_startWalk 31 = .ok (.iload 4, 2) := by decide +kernel
theorem dX0_startWalk_33 : decode cX0_startWalk 33 = .ok (.ireturn, 1) := by decide +kernel
theorem dX0_canTake_0 : decode cX0_canTake 0 = .ok (.aload_n 0, 1) := by decide +kernel
theorem dX0_canTake_1 : decode cX0_canTake 1 = .ok (.iload_n 1, 1) := by decide +kernel
theorem dX0_canTake_2 : decode cX0_canTake 2 = .ok (.invokevirtual 149, 3) := by decide +kernel
theorem dX0_canTake_5 : decode cX0_canTake 5 = .ok (.ifCond .eq 40, 3) := by decide +kernel
theorem dX0_canTake_8 : decode cX0_canTake 8 = .ok (.aload_n 0, 1) := by decide +kernel
theorem dX0_canTake_9 : decode cX0_canTake 9 = .ok (.getfield 27, 3) := by decide +kernel
theorem dX0_canTake_12 : decode cX0_canTake 12 = .ok (.iload_n 1, 1) := by decide +kernel
theorem dX0_canTake_13 : decode cX0_canTake 13 = .ok (.aaload, 1) := by decide +kernel
theorem dX0_canTake_14 : decode cX0_canTake 14 = .ok (.getfield 166, 3) := by decide +kernel
theorem dX0_canTake_17 : decode cX0_canTake 17 = .ok (.iconst (-1), 1) := by decide +kernel
theorem dX0_canTake_18 : decode cX0_canTake 18 = .ok (.if_icmp .ne 27, 3) := by decide +kernel
theorem dX0_canTake_21 : decode cX0_canTake 21 = .ok (.aload_n 0, 1) := by decide +kernel
theorem dX0_canTake_22 : decode cX0_canTake 22 = .ok (.getfield 21, 3) := by decide +kernel
theorem dX0_canTake_25 : decode cX0_canTake 25 = .ok (.iload_n 2, 1) := by decide +kernel
theorem dX0_canTake_26 : decode cX0_canTake 26 = .ok (.aload_n 0, 1) := by decide +kernel
theorem dX0_canTake_27 : decode cX0_canTake 27 = .ok (.getfield 27, 3) := by decide +kernel
theorem dX0_canTake_30 : decode cX0_canTake 30 = .ok (.iload_n 1, 1) := by decide +kernel
theorem dX0_canTake_31 : decode cX0_canTake 31 = .ok (.aaload, 1) := by decide +kernel
theorem dX0_canTake_32 : decode cX0_canTake 32 = .ok (.getfield 110, 3) := by decide +kernel
theorem dX0_canTake_35 : decode cX0_canTake 35 = .ok (.invokevirtual 169, 3) := by decide +kernel
theorem dX0_canTake_38 : decode cX0_canTake 38 = .ok (.ifCond .eq 7, 3) := by decide +kernel
theorem dX0_canTake_41 : decode cX0_canTake 41 = .ok (.iconst 1, 1) := by decide +kernel
theorem dX0_canTake_42 : decode cX0_canTake 42 = .ok (.goto 4, 3) := by decide +kernel
theorem dX0_canTake_45 : decode cX0_canTake 45 = .ok (.iconst 0, 1) := by decide +kernel
theorem dX0_canTake_46 : decode cX0_canTake 46 = .ok (.ireturn, 1) := by decide +kernel
theorem dX0_takeRope_0 : decode cX0_takeRope 0 = .ok (.aload_n 0, 1) := by decide +kernel
theorem dX0_takeRope_1 : decode cX0_takeRope 1 = .ok (.getfield 27, 3) := by decide +kernel
theorem dX0_takeRope_4 : decode cX0_takeRope 4 = .ok (.iload_n 1, 1) := by decide +kernel
theorem dX0_takeRope_5 : decode cX0_takeRope 5 = .ok (.aaload, 1) := by decide +kernel
theorem dX0_takeRope_6 : decode cX0_takeRope 6 = .ok (.iload_n 2, 1) := by decide +kernel
theorem dX0_takeRope_7 : decode cX0_takeRope 7 = .ok (.putfield 166, 3) := by decide +kernel
theorem dX0_takeRope_10 : decode cX0_takeRope 10 = .ok (.aload_n 0, 1) := by decide +kernel
theorem dX0_takeRope_11 : decode cX0_takeRope 11 = .ok (.getfield 21, 3) := by decide +kernel
theorem dX0_takeRope_14 : decode cX0_takeRope 14 = .ok (.iload_n 2, 1) := by decide +kernel
theorem dX0_takeRope_15 : decode cX0_takeRope 15 = .ok (.iconst 1, 1) := by decide +kernel
theorem dX0_takeRope_16 : decode cX0_takeRope 16 = .ok (.iload_n 1, 1) := by decide +kernel
theorem dX0_takeRope_17 : decode cX0_takeRope 17 = .ok (.invokevirtual 173, 3) := by decide +kernel
theorem dX0_takeRope_20 : decode cX0_takeRope 20 = .ok (.return_, 1) := by decide +kernel
theorem dX0_canLay_0 : decode cX0_canLay 0 = .ok (.aload_n 0, 1) := by decide +kernel
theorem dX0_canLay_1 : decode cX0_canLay 1 = .ok (.iload_n 1, 1) := by decide +kernel
theorem dX0_canLay_2 : decode cX0_canLay 2 = .ok (.invokevirtual 149, 3) := by decide +kernel
theorem dX0_canLay_5 : decode cX0_canLay 5 = .ok (.ifCond .eq 20, 3) := by decide +kernel
theorem dX0_canLay_8 : decode cX0_canLay 8 = .ok (.aload_n 0, 1) := by decide +kernel
theorem dX0_canLay_9 : decode cX0_canLay 9 = .ok (.getfield 27, 3) := by decide +kernel
theorem dX0_canLay_12 : decode cX0_canLay 12 = .ok (.iload_n 1, 1) := by decide +kernel
theorem dX0_canLay_13 : decode cX0_canLay 13 = .ok (.aaload, 1) := by decide +kernel
theorem dX0_canLay_14 : decode cX0_canLay 14 = .ok (.getfield 166, 3) := by decide +kernel
theorem dX0_canLay_17 : decode cX0_canLay 17 = .ok (.iconst (-1), 1) := by decide +kernel
theorem dX0_canLay_18 : decode cX0_canLay 18 = .ok (.if_icmp .eq 7, 3) := by decide +kernel
theorem dX0_canLay_21 : decode cX0_canLay 21 = .ok (.iconst 1, 1) := by decide +kernel
theorem dX0_canLay_22 : decode cX0_canLay 22 = .ok (.goto 4, 3) := by decide +kernel
theorem dX0_canLay_25 : decode cX0_canLay 25 = .ok (.iconst 0, 1) := by decide +kernel
theorem dX0_canLay_26 : decode cX0_canLay 26 = .ok (.ireturn, 1) := by decide +kernel
theorem dX0_layRope_0 : decode cX0_layRope 0 = .ok (.aload_n 0, 1) := by decide +kernel
theorem dX0_layRope_1 : decode cX0_layRope 1 = .ok (.getfield 27, 3) := by decide +kernel
theorem dX0_layRope_4 : decode cX0_layRope 4 = .ok (.iload_n 1, 1) := by decide +kernel
theorem dX0_layRope_5 : decode cX0_layRope 5 = .ok (.aaload, 1) := by decide +kernel
theorem dX0_layRope_6 : decode cX0_layRope 6 = .ok (.astore_n 2, 1) := by decide +kernel
theorem dX0_layRope_7 : decode cX0_layRope 7 = .ok (.aload_n 2, 1) := by decide +kernel
theorem dX0_layRope_8 : decode cX0_layRope 8 = .ok (.getfield 166, 3) := by decide +kernel
theorem dX0_layRope_11 : decode cX0_layRope 11 = .ok (.istore_n 3, 1) := by decide +kernel
theorem dX0_layRope_12 : decode cX0_layRope 12 = .ok (.aload_n 0, 1) := by decide +kernel
theorem dX0_layRope_13 : decode cX0_layRope 13 = .ok (.getfield 21, 3) := by decide +kernel
theorem dX0_layRope_16 : decode cX0_layRope 16 = .ok (.iload_n 3, 1) := by decide +kernel
theorem dX0_layRope_17 : decode cX0_layRope 17 = .ok (.iconst 0, 1) := by decide +kernel
theorem dX0_layRope_18 : decode cX0_layRope 18 = .ok (.aload_n 2, 1) := by decide +kernel
theorem dX0_layRope_19 : decode cX0_layRope 19 = .ok (.getfield 110, 3) := by decide +kernel
theorem dX0_layRope_22 : decode cX0_layRope 22 = .ok (.invokevirtual 173, 3) := by decide +kernel
theorem dX0_layRope_25 : decode cX0_layRope 25 = .ok (.aload_n 2, 1) := by decide +kernel
theorem dX0_layRope_26 : decode cX0_layRope 26 = .ok (.iconst (-1), 1) := by decide +kernel
theorem dX0_layRope_27 : decode cX0_layRope 27 = .ok (.putfield 166, 3) := by decide +kernel
theorem dX0_layRope_30 : decode cX0_layRope 30 = .ok (.iload_n 3, 1) := by decide +kernel
theorem dX0_layRope_31 : decode cX0_layRope 31 = .ok (.ireturn, 1) := by decide +kernel
theorem dX0_canRig_0 : decode cX0_canRig 0 = .ok (.aload_n 0, 1) := by decide +kernel
theorem dX0_canRig_1 : decode cX0_canRig 1 = .ok (.iload_n 1, 1) := by decide +kernel
theorem dX0_canRig_2 : decode cX0_canRig 2 = .ok (.invokevirtual 177, 3) := by decide +kernel
theorem dX0_canRig_5 : decode cX0_canRig 5 = .ok (.ifCond .ne 5, 3) := by decide +kernel
theorem dX0_canRig_8 : decode cX0_canRig 8 = .ok (.iconst 0, 1) := by decide +kernel
theorem dX0_canRig_9 : decode cX0_canRig 9 = .ok (.ireturn, 1) := by decide +kernel
theorem dX0_canRig_10 : decode cX0_canRig 10 = .ok (.aload_n 0, 1) := by decide +kernel
theorem dX0_canRig_11 : decode cX0_canRig 11 = .ok (.getfield 27, 3) := by decide +kernel
theorem dX0_canRig_14 : decode cX0_canRig 14 = .ok (.iload_n 1, 1) := by decide +kernel
theorem dX0_canRig_15 : decode cX0_canRig 15 = .ok (.aaload, 1) := by decide +kernel
theorem dX0_canRig_16 : decode cX0_canRig 16 = .ok (.astore_n 2, 1) := by decide +kernel
theorem dX0_canRig_17 : decode cX0_canRig 17 = .ok (.aload_n 2, 1) := by decide +kernel
theorem dX0_canRig_18 : decode cX0_canRig 18 = .ok (.getfield 110, 3) := by decide +kernel
theorem dX0_canRig_21 : decode cX0_canRig 21 = .ok (.istore_n 3, 1) := by decide +kernel
theorem dX0_canRig_22 : decode cX0_canRig 22 = .ok (.aload_n 0, 1) := by decide +kernel
theorem dX0_canRig_23 : decode cX0_canRig 23 = .ok (.getfield 12, 3) := by decide +kernel
theorem dX0_canRig_26 : decode cX0_canRig 26 = .ok (.iload_n 3, 1) := by decide +kernel
theorem dX0_canRig_27 : decode cX0_canRig 27 = .ok (.invokevirtual 139, 3) := by decide +kernel
theorem dX0_canRig_30 : decode cX0_canRig 30 = .ok (.ifCond .eq 64, 3) := by decide +kernel
theorem dX0_canRig_33 : decode cX0_canRig 33 = .ok (.aload_n 0, 1) := by decide +kernel
theorem dX0_canRig_34 : decode cX0_canRig 34 = .ok (.getfield 12, 3) := by decide +kernel
theorem dX0_canRig_37 : decode cX0_canRig 37 = .ok (.iload_n 3, 1) := by decide +kernel
theorem dX0_canRig_38 : decode cX0_canRig 38 = .ok (.invokevirtual 113, 3) := by decide +kernel
theorem dX0_canRig_41 : decode cX0_canRig 41 = .ok (.iconst (-1), 1) := by decide +kernel
theorem dX0_canRig_42 : decode cX0_canRig 42 = .ok (.if_icmp .ne 52, 3) := by decide +kernel
theorem dX0_canRig_45 : decode cX0_canRig 45 = .ok (.aload_n 0, 1) := by decide +kernel
theorem dX0_canRig_46 : decode cX0_canRig 46 = .ok (.iload_n 3, 1) := by decide +kernel
theorem dX0_canRig_47 : decode cX0_canRig 47 = .ok (.invokevirtual 117, 3) := by decide +kernel
theorem dX0_canRig_50 : decode cX0_canRig 50 = .ok (.iconst (-1), 1) := by decide +kernel
theorem dX0_canRig_51 : decode cX0_canRig 51 = .ok (.if_icmp .ne 43, 3) := by decide +kernel
theorem dX0_canRig_54 : decode cX0_canRig 54 = .ok (.aload_n 0, 1) := by decide +kernel
theorem dX0_canRig_55 : decode cX0_canRig 55 = .ok (.getfield 21, 3) := by decide +kernel
theorem dX0_canRig_58 : decode cX0_canRig 58 = .ok (.aload_n 2, 1) := by decide +kernel
theorem dX0_canRig_59 : decode cX0_canRig 59 = .ok (.getfield 166, 3) := by decide +kernel
theorem dX0_canRig_62 : decode cX0_canRig 62 = .ok (.aload_n 0, 1) := by decide +kernel
theorem dX0_canRig_63 : decode cX0_canRig 63 = .ok (.getfield 12, 3) := by decide +kernel
theorem dX0_canRig_66 : decode cX0_canRig 66 = .ok (.iload_n 3, 1) := by decide +kernel
theorem dX0_canRig_67 : decode cX0_canRig 67 = .ok (.invokevirtual 180, 3) := by decide +kernel
theorem dX0_canRig_70 : decode cX0_canRig 70 = .ok (.invokevirtual 183, 3) := by decide +kernel
theorem dX0_canRig_73 : decode cX0_canRig 73 = .ok (.ifCond .eq 21, 3) := by decide +kernel
theorem dX0_canRig_76 : decode cX0_canRig 76 = .ok (.aload_n 0, 1) := by decide +kernel
theorem dX0_canRig_77 : decode cX0_canRig 77 = .ok (.aload_n 2, 1) := by decide +kernel
theorem dX0_canRig_78 : decode cX0_canRig 78 = .ok (.aload_n 2, 1) := by decide +kernel
theorem dX0_canRig_79 : decode cX0_canRig 79 = .ok (.getfield 110, 3) := by decide +kernel
theorem dX0_canRig_82 : decode cX0_canRig 82 = .ok (.bipush 10, 2) := by decide +kernel
theorem dX0_canRig_84 : decode cX0_canRig 84 = .ok (.invokevirtual 145, 3) := by decide +kernel
theorem dX0_canRig_87 : decode cX0_canRig 87 = .ok (.ifCond .eq 7, 3) := by decide +kernel
theorem dX0_canRig_90 : decode cX0_canRig 90 = .ok (.iconst 1, 1) := by decide +kernel
theorem dX0_canRig_91 : decode cX0_canRig 91 = .ok (.goto 4, 3) := by decide +kernel
theorem dX0_canRig_94 : decode cX0_canRig 94 = .ok (.iconst 0, 1) := by decide +kernel
theorem dX0_canRig_95 : decode cX0_canRig 95 = .ok (.ireturn, 1) := by decide +kernel
theorem dX0_startRig_0 : decode cX0_startRig 0 = .ok (.aload_n 0, 1) := by decide +kernel
theorem dX0_startRig_1 : decode cX0_startRig 1 = .ok (.getfield 27, 3) := by decide +kernel
theorem dX0_startRig_4 : decode cX0_startRig 4 = .ok (.iload_n 1, 1) := by decide +kernel
theorem dX0_startRig_5 : decode cX0_startRig 5 = .ok (.aaload, 1) := by decide +kernel
theorem dX0_startRig_6 : decode cX0_startRig 6 = .ok (.astore_n 2, 1) := by decide +kernel
theorem dX0_startRig_7 : decode cX0_startRig 7 = .ok (.aload_n 2, 1) := by decide +kernel
theorem dX0_startRig_8 : decode cX0_startRig 8 = .ok (.iconst 2, 1) := by decide +kernel
theorem dX0_startRig_9 : decode cX0_startRig 9 = .ok (.putfield 103, 3) := by decide +kernel
theorem dX0_startRig_12 : decode cX0_startRig 12 = .ok (.aload_n 2, 1) := by decide +kernel
theorem dX0_startRig_13 : decode cX0_startRig 13 = .ok (.bipush 10, 2) := by decide +kernel
theorem dX0_startRig_15 : decode cX0_startRig 15 = .ok (.putfield 186, 3) := by decide +kernel
theorem dX0_startRig_18 : decode cX0_startRig 18 = .ok (.aload_n 2, 1) := by decide +kernel
theorem dX0_startRig_19 : decode cX0_startRig 19 = .ok (.getfield 110, 3) := by decide +kernel
theorem dX0_startRig_22 : decode cX0_startRig 22 = .ok (.ireturn, 1) := by decide +kernel
theorem dX0_canUnrig_0 : decode cX0_canUnrig 0 = .ok (.aload_n 0, 1) := by decide +kernel
theorem dX0_canUnrig_1 : decode cX0_canUnrig 1 = .ok (.iload_n 1, 1) := by decide +kernel
theorem dX0_canUnrig_2 : decode cX0_canUnrig 2 = .ok (.invokevirtual 149, 3) := by decide +kernel
theorem dX0_canUnrig_5 : decode cX0_canUnrig 5 = .ok (.ifCond .eq 16, 3) := by decide +kernel
theorem dX0_canUnrig_8 : decode cX0_canUnrig 8 = .ok (.aload_n 0, 1) := by decide +kernel
theorem dX0_canUnrig_9 : decode cX0_canUnrig 9 = .ok (.getfield 27, 3) := by decide +kernel
theorem dX0_canUnrig_12 : decode cX0_canUnrig 12 = .ok (.iload_n 1, 1) := by decide +kernel
theorem dX0_canUnrig_13 : decode cX0_canUnrig 13 = .ok (.aaload, 1) := by decide +kernel
theorem dX0_canUnrig_14 : decode cX0_canUnrig 14 = .ok (.getfield 166, 3) := by decide +kernel
theorem dX0_canUnrig_17 : decode cX0_canUnrig 17 = .ok (.iconst (-1), 1) := by decide +kernel
theorem dX0_canUnrig_18 : decode cX0_canUnrig 18 = .ok (.if_icmp .eq 5, 3) := by decide +kernel
theorem dX0_canUnrig_21 : decode cX0_canUnrig 21 = .ok (.iconst 0, 1) := by decide +kernel
theorem dX0_canUnrig_22 : decode cX0_canUnrig 22 = .ok (.ireturn, 1) := by decide +kernel
theorem dX0_canUnrig_23 : decode cX0_canUnrig 23 = .ok (.aload_n 0, 1) := by decide +kernel
theorem dX0_canUnrig_24 : decode cX0_canUnrig 24 = .ok (.getfield 27, 3) := by decide +kernel
theorem dX0_canUnrig_27 : decode cX0_canUnrig 27 = .ok (.iload_n 1, 1) := by decide +kernel
theorem dX0_canUnrig_28 : decode cX0_canUnrig 28 = .ok (.aaload, 1) := by decide +kernel
theorem dX0_canUnrig_29 : decode cX0_canUnrig 29 = .ok (.getfield 110, 3) := by decide +kernel
theorem dX0_canUnrig_32 : decode cX0_canUnrig 32 = .ok (.istore_n 2, 1) := by decide +kernel
theorem dX0_canUnrig_33 : decode cX0_canUnrig 33 = .ok (.aload_n 0, 1) := by decide +kernel
theorem dX0_canUnrig_34 : decode cX0_canUnrig 34 = .ok (.getfield 12, 3) := by decide +kernel
theorem dX0_canUnrig_37 : decode cX0_canUnrig 37 = .ok (.iload_n 2, 1) := by decide +kernel
theorem dX0_canUnrig_38 : decode cX0_canUnrig 38 = .ok (.invokevirtual 113, 3) := by decide +kernel
theorem dX0_canUnrig_41 : decode cX0_canUnrig 41 = .ok (.iconst (-1), 1) := by decide +kernel
theorem dX0_canUnrig_42 : decode cX0_canUnrig 42 = .ok (.if_icmp .eq 15, 3) := by decide +kernel
theorem dX0_canUnrig_45 : decode cX0_canUnrig 45 = .ok (.aload_n 0, 1) := by decide +kernel
theorem dX0_canUnrig_46 : decode cX0_canUnrig 46 = .ok (.iload_n 2, 1) := by decide +kernel
theorem dX0_canUnrig_47 : decode cX0_canUnrig 47 = .ok (.invokevirtual 120, 3) := by decide +kernel
theorem dX0_canUnrig_50 : decode cX0_canUnrig 50 = .ok (.ifCond .ne 7, 3) := by decide +kernel
theorem dX0_canUnrig_53 : decode cX0_canUnrig 53 = .ok (.iconst 1, 1) := by decide +kernel
theorem dX0_canUnrig_54 : decode cX0_canUnrig 54 = .ok (.goto 4, 3) := by decide +kernel
theorem dX0_canUnrig_57 : decode cX0_canUnrig 57 = .ok (.iconst 0, 1) := by decide +kernel
theorem dX0_canUnrig_58 : decode cX0_canUnrig 58 = .ok (.ireturn, 1) := by decide +kernel
theorem dX0_unrig_0 : decode cX0_unrig 0 = .ok (.aload_n 0, 1) := by decide +kernel
theorem dX0_unrig_1 : decode cX0_unrig 1 = .ok (.getfield 27, 3) := by decide +kernel
theorem dX0_unrig_4 : decode cX0_unrig 4 = .ok (.iload_n 1, 1) := by decide +kernel
theorem dX0_unrig_5 : decode cX0_unrig 5 = .ok (.aaload, 1) := by decide +kernel
theorem dX0_unrig_6 : decode cX0_unrig 6 = .ok (.getfield 110, 3) := by decide +kernel
theorem dX0_unrig_9 : decode cX0_unrig 9 = .ok (.istore_n 2, 1) := by decide +kernel
theorem dX0_unrig_10 : decode cX0_unrig 10 = .ok (.aload_n 0, 1) := by decide +kernel
theorem dX0_unrig_11 : decode cX0_unrig 11 = .ok (.getfield 12, 3) := by decide +kernel
theorem dX0_unrig_14 : decode cX0_unrig 14 = .ok (.iload_n 2, 1) := by decide +kernel
theorem dX0_unrig_15 : decode cX0_unrig 15 = .ok (.invokevirtual 113, 3) := by decide +kernel
theorem dX0_unrig_18 : decode cX0_unrig 18 = .ok (.istore_n 3, 1) := by decide +kernel
theorem dX0_unrig_19 : decode cX0_unrig 19 = .ok (.aload_n 0, 1) := by decide +kernel
theorem dX0_unrig_20 : decode cX0_unrig 20 = .ok (.getfield 12, 3) := by decide +kernel
theorem dX0_unrig_23 : decode cX0_unrig 23 = .ok (.iload_n 2, 1) := by decide +kernel
theorem dX0_unrig_24 : decode cX0_unrig 24 = .ok (.iconst (-1), 1) := by decide +kernel
theorem dX0_unrig_25 : decode cX0_unrig 25 = .ok (.invokevirtual 189, 3) := by decide +kernel
theorem dX0_unrig_28 : decode cX0_unrig 28 = .ok (.aload_n 0, 1) := by decide +kernel
theorem dX0_unrig_29 : decode cX0_unrig 29 = .ok (.iload_n 1, 1) := by decide +kernel
theorem dX0_unrig_30 : decode cX0_unrig 30 = .ok (.iload_n 3, 1) := by decide +kernel
theorem dX0_unrig_31 : decode cX0_unrig 31 = .ok (.invokevirtual 192, 3) := by decide +kernel
theorem dX0_unrig_34 : decode cX0_unrig 34 = .ok (.iload_n 3, 1) := by decide +kernel
theorem dX0_unrig_35 : decode cX0_unrig 35 = .ok (.ireturn, 1) := by decide +kernel
theorem dX0_isTeam_0 : decode cX0_isTeam 0 = .ok (.iload_n 1, 1) := by decide +kernel
theorem dX0_isTeam_1 : decode cX0_isTeam 1 = .ok (.ifCond .lt 25, 3) := by decide +kernel
theorem dX0_isTeam_4 : decode cX0_isTeam 4 = .ok (.iload_n 1, 1) := by decide +kernel
theorem dX0_isTeam_5 : decode cX0_isTeam 5 = .ok (.iconst 1, 1) := by decide +kernel
theorem dX0_isTeam_6 : decode cX0_isTeam 6 = .ok (.aload_n 0, 1) := by decide +kernel
theorem dX0_isTeam_7 : decode cX0_isTeam 7 = .ok (.getfield 31, 3) := by decide +kernel
theorem dX0_isTeam_10 : decode cX0_isTeam 10 = .ok (.ishl, 1) := by decide +kernel
theorem dX0_isTeam_11 : decode cX0_isTeam 11 = .ok (.if_icmp .ge 15, 3) := by decide +kernel
theorem dX0_isTeam_14 : decode cX0_isTeam 14 = .ok (.iload_n 1, 1) := by decide +kernel
theorem dX0_isTeam_15 : decode cX0_isTeam 15 = .ok (.invokestatic 195, 3) := by decide +kernel
theorem dX0_isTeam_18 : decode cX0_isTeam 18 = .ok (.iconst 3, 1) := by decide +kernel
theorem dX0_isTeam_19 : decode cX0_isTeam 19 = .ok (.if_icmp .lt 7, 3) := by decide +kernel
theorem dX0_isTeam_22 : decode cX0_isTeam 22 = .ok (.iconst 1, 1) := by decide +kernel
theorem dX0_isTeam_23 : decode cX0_isTeam 23 = .ok (.goto 4, 3) := by decide +kernel
theorem dX0_isTeam_26 : decode cX0_isTeam 26 = .ok (.iconst 0, 1) := by decide +kernel
theorem dX0_isTeam_27 : decode cX0_isTeam 27 = .ok (.ireturn, 1) := by decide +kernel
theorem dX0_canCarry_0 : decode cX0_canCarry 0 = .ok (.aload_n 0, 1) := by decide +kernel
theorem dX0_canCarry_1 : decode cX0_canCarry 1 = .ok (.invokevirtual 200, 3) := by decide +kernel
theorem dX0_canCarry_4 : decode cX0_canCarry 4 = .ok (.iload_n 1, 1) := by decide +kernel
theorem dX0_canCarry_5 : decode cX0_canCarry 5 = .ok (.iand, 1) := by decide +kernel
theorem dX0_canCarry_6 : decode cX0_canCarry 6 = .ok (.iload_n 1, 1) := by decide +kernel
theorem dX0_canCarry_7 : decode cX0_canCarry 7 = .ok (.if_icmp .ne 7, 3) := by decide +kernel
theorem dX0_canCarry_10 : decode cX0_canCarry 10 = .ok (.iconst 1, 1) := by decide +kernel
theorem dX0_canCarry_11 : decode cX0_canCarry 11 = .ok (.goto 4, 3) := by decide +kernel
theorem dX0_canCarry_14 : decode cX0_canCarry 14 = .ok (.iconst 0, 1) := by decide +kernel
theorem dX0_canCarry_15 : decode cX0_canCarry 15 = .ok (.ireturn, 1) := by decide +kernel
theorem dX0_fitCarriers_0 : decode cX0_fitCarriers 0 = .ok (.aload_n 0, 1) := by decide +kernel
theorem dX0_fitCarriers_1 : decode cX0_fitCarriers 1 = .ok (.getfield 55, 3) := by decide +kernel
theorem dX0_fitCarriers_4 : decode cX0_fitCarriers 4 = .ok (.ifCond .ne 26, 3) := by decide +kernel
theorem dX0_fitCarriers_7 : decode cX0_fitCarriers 7 = .ok (.aload_n 0, 1) := by decide +kernel
theorem dX0_fitCarriers_8 : decode cX0_fitCarriers 8 = .ok (.getfield 52, 3) := by decide +kernel
theorem dX0_fitCarriers_11 : decode cX0_fitCarriers 11 = .ok (.ifCond .eq 19, 3) := by decide +kernel
theorem dX0_fitCarriers_14 : decode cX0_fitCarriers 14 = .ok (.aload_n 0, 1) := by decide +kernel
theorem dX0_fitCarriers_15 : decode cX0_fitCarriers 15 = .ok (.getfield 12, 3) := by decide +kernel
theorem dX0_fitCarriers_18 : decode cX0_fitCarriers 18 = .ok (.aload_n 0, 1) := by decide +kernel
theorem dX0_fitCarriers_19 : decode cX0_fitCarriers 19 = .ok (.getfield 52, 3) := by decide +kernel
theorem dX0_fitCarriers_22 : decode cX0_fitCarriers 22 = .ok (.iconst 1, 1) := by decide +kernel
theorem dX0_fitCarriers_23 : decode cX0_fitCarriers 23 = .ok (.isub, 1) := by decide +kernel
theorem dX0_fitCarriers_24 : decode cX0_fitCarriers 24 = .ok (.invokevirtual 133, 3) := by decide +kernel
theorem dX0_fitCarriers_27 : decode cX0_fitCarriers 27 = .ok (.ifCond .ne 5, 3) := by decide +kernel
theorem dX0_fitCarriers_30 : decode cX0_fitCarriers 30 = .ok (.iconst 0, 1) := by decide +kernel
theorem dX0_fitCarriers_31 : decode cX0_fitCarriers 31 = .ok (.ireturn, 1) := by decide +kernel
theorem dX0_fitCarriers_32 : decode cX0_fitCarriers 32 = .ok (.iconst 3, 1) := by decide +kernel
theorem dX0_fitCarriers_33 : decode cX0_fitCarriers 33 = .ok (.aload_n 0, 1) := by decide +kernel
theorem dX0_fitCarriers_34 : decode cX0_fitCarriers 34 = .ok (.getfield 12, 3) := by decide +kernel
theorem dX0_fitCarriers_37 : decode cX0_fitCarriers 37 = .ok (.aload_n 0, 1) := by decide +kernel
theorem dX0_fitCarriers_38 : decode cX0_fitCarriers 38 = .ok (.getfield 52, 3) := by decide +kernel
theorem dX0_fitCarriers_41 : decode cX0_fitCarriers 41 = .ok (.iconst 1, 1) := by decide +kernel
theorem dX0_fitCarriers_42 : decode cX0_fitCarriers 42 = .ok (.isub, 1) := by decide +kernel
theorem dX0_fitCarriers_43 : decode cX0_fitCarriers 43 = .ok (.invokevirtual 136, 3) := by decide +kernel
theorem dX0_fitCarriers_46 : decode cX0_fitCarriers 46 = .ok (.imul, 1) := by decide +kernel
theorem dX0_fitCarriers_47 : decode cX0_fitCarriers 47 = .ok (.istore_n 1, 1) := by decide +kernel
theorem dX0_fitCarriers_48 : decode cX0_fitCarriers 48 = .ok (.iconst 0, 1) := by decide +kernel
theorem dX0_fitCarriers_49 : decode cX0_fitCarriers 49 = .ok (.istore_n 2, 1) := by decide +kernel
theorem dX0_fitCarriers_50 : decode cX0_fitCarriers 50 = .ok (.iconst 0, 1) := by decide +kernel
theorem dX0_fitCarriers_51 : decode cX0_fitCarriers 51 = .ok (.istore_n 3, 1) := by decide +kernel
theorem dX0_fitCarriers_52 : decode cX0_fitCarriers 52 = .ok (.iload_n 3, 1) := by decide +kernel
theorem dX0_fitCarriers_53 : decode cX0_fitCarriers 53 = .ok (.aload_n 0, 1) := by decide +kernel
theorem dX0_fitCarriers_54 : decode cX0_fitCarriers 54 = .ok (.getfield 31, 3) := by decide +kernel
theorem dX0_fitCarriers_57 : decode cX0_fitCarriers 57 = .ok (.if_icmp .ge 73, 3) := by decide +kernel
theorem dX0_fitCarriers_60 : decode cX0_fitCarriers 60 = .ok (.aload_n 0, 1) := by decide +kernel
theorem dX0_fitCarriers_61 : decode cX0_fitCarriers 61 = .ok (.getfield 27, 3) := by decide +kernel
theorem dX0_fitCarriers_64 : decode cX0_fitCarriers 64 = .ok (.iload_n 3, 1) := by decide +kernel
theorem dX0_fitCarriers_65 : decode cX0_fitCarriers 65 = .ok (.aaload, 1) := by decide +kernel
theorem dX0_fitCarriers_66 : decode cX0_fitCarriers 66 = .ok (.astore 4, 2) := by decide +kernel
theorem dX0_fitCarriers_68 : decode cX0_fitCarriers 68 = .ok (.aload 4, 2) := by decide +kernel
theorem dX0_fitCarriers_70 : decode cX0_fitCarriers 70 = .ok (.getfield 103, 3) := by decide +kernel
theorem dX0_fitCarriers_73 : decode cX0_fitCarriers 73 = .ok (.ifCond .ne 51, 3) := by decide +kernel
theorem dX0_fitCarriers_76 : decode cX0_fitCarriers 76 = .ok (.aload 4, 2) := by decide +kernel
theorem dX0_fitCarriers_78 : decode cX0_fitCarriers 78 = .ok (.getfield 110, 3) := by decide +kernel
theorem dX0_fitCarriers_81 : decode cX0_fitCarriers 81 = .ok (.aload_n 0, 1) := by decide +kernel
theorem dX0_fitCarriers_82 : decode cX0_fitCarriers 82 = .ok (.getfield 52, 3) := by decide +kernel
theorem dX0_fitCarriers_85 : decode cX0_fitCarriers 85 = .ok (.if_icmp .ne 39, 3) := by decide +kernel
theorem dX0_fitCarriers_88 : decode cX0_fitCarriers 88 = .ok (.aload 4, 2) := by decide +kernel
theorem dX0_fitCarriers_90 : decode cX0_fitCarriers 90 = .ok (.getfield 142, 3) := by decide +kernel
theorem dX0_fitCarriers_93 : decode cX0_fitCarriers 93 = .ok (.iconst 2, 1) := by decide +kernel
theorem dX0_fitCarriers_94 : decode cX0_fitCarriers 94 = .ok (.iload_n 1, 1) := by decide +kernel
theorem dX0_fitCarriers_95 : decode cX0_fitCarriers 95 = .ok (.imul, 1) := by decide +kernel
theorem dX0_fitCarriers_96 : decode cX0_fitCarriers 96 = .ok (.iadd, 1) := by decide +kernel
theorem dX0_fitCarriers_97 : decode cX0_fitCarriers 97 = .ok (.bipush 100, 2) := by decide +kernel
theorem dX0_fitCarriers_99 : decode cX0_fitCarriers 99 = .ok (.if_icmp .gt 25, 3) := by decide +kernel
theorem dX0_fitCarriers_102 : decode cX0_fitCarriers 102 = .ok (.aload_n 0, 1) := by decide +kernel
theorem dX0_fitCarriers_103 : decode cX0_fitCarriers 103 = .ok (.aload 4, 2) := by decide +kernel
theorem dX0_fitCarriers_105 : decode cX0_fitCarriers 105 = .ok (.aload_n 0, 1) := by decide +kernel
theorem dX0_fitCarriers_106 : decode cX0_fitCarriers 106 = .ok (.getfield 52, 3) := by decide +kernel
theorem dX0_fitCarriers_109 : decode cX0_fitCarriers 109 = .ok (.iconst 1, 1) := by decide +kernel
theorem dX0_fitCarriers_110 : decode cX0_fitCarriers 110 = .ok (.isub, 1) := by decide +kernel
theorem dX0_fitCarriers_111 : decode cX0_fitCarriers 111 = .ok (.iload_n 1, 1) := by decide +kernel
theorem dX0_fitCarriers_112 : decode cX0_fitCarriers 112 = .ok (.invokevirtual 145, 3) := by decide +kernel
theorem dX0_fitCarriers_115 : decode cX0_fitCarriers 115 = .ok (.ifCond .eq 9, 3) := by decide +kernel
theorem dX0_fitCarriers_118 : decode cX0_fitCarriers 118 = .ok (.iload_n 2, 1) := by decide +kernel
theorem dX0_fitCarriers_119 : decode cX0_fitCarriers 119 = .ok (.iconst 1, 1) := by decide +kernel
theorem dX0_fitCarriers_120 : decode cX0_fitCarriers 120 = .ok (.iload_n 3, 1) := by decide +kernel
theorem dX0_fitCarriers_121 : decode cX0_fitCarriers 121 = .ok (.ishl, 1) := by decide +kernel
theorem dX0_fitCarriers_122 : decode cX0_fitCarriers 122 = .ok (.ior, 1) := by decide +kernel
theorem dX0_fitCarriers_123 : decode cX0_fitCarriers 123 = .ok (.istore_n 2, 1) := by decide +kernel
theorem dX0_fitCarriers_124 : decode cX0_fitCarriers 124 = .ok (.iinc 3 1, 3) := by decide +kernel
theorem dX0_fitCarriers_127 : decode cX0_fitCarriers 127 = .ok (.goto (-75), 3) := by decide +kernel
theorem dX0_fitCarriers_130 : decode cX0_fitCarriers 130 = .ok (.iload_n 2, 1) := by decide +kernel
theorem dX0_fitCarriers_131 : decode cX0_fitCarriers 131 = .ok (.ireturn, 1) := by decide +kernel
theorem dX0_startCarry_0 : decode cX0_startCarry 0 = .ok (.iconst 3, 1) := by decide +kernel
theorem dX0_startCarry_1 : decode cX0_startCarry 1 = .ok (.aload_n 0, 1) := by decide +kernel
theorem dX0_startCarry_2 : decode cX0_startCarry 2 = .ok (.getfield 12, 3) := by decide +kernel
theorem dX0_startCarry_5 : decode cX0_startCarry 5 = .ok (.aload_n 0, 1) := by decide +kernel
theorem dX0_startCarry_6 : decode cX0_startCarry 6 = .ok (.getfield 52, 3) := by decide +kernel
theorem dX0_startCarry_9 : decode cX0_startCarry 9 = .ok (.iconst 1, 1) := by decide +kernel
theorem dX0_startCarry_10 : decode cX0_startCarry 10 = .ok (.isub, 1) := by decide +kernel
theorem dX0_startCarry_11 : decode cX0_startCarry 11 = .ok (.invokevirtual 136, 3) := by decide +kernel
theorem dX0_startCarry_14 : decode cX0_startCarry 14 = .ok (.imul, 1) := by decide +kernel
theorem dX0_startCarry_15 : decode cX0_startCarry 15 = .ok (.istore_n 2, 1) := by decide +kernel
theorem dX0_startCarry_16 : decode cX0_startCarry 16 = .ok (.iconst 0, 1) := by decide +kernel
theorem dX0_startCarry_17 : decode cX0_startCarry 17 = .ok (.istore_n 3, 1) := by decide +kernel
theorem dX0_startCarry_18 : decode cX0_startCarry 18 = .ok (.iload_n 3, 1) := by decide +kernel
theorem dX0_startCarry_19 : decode cX0_startCarry 19 = .ok (.aload_n 0, 1) := by decide +kernel
theorem dX0_startCarry_20 : decode cX0_startCarry 20 = .ok (.getfield 31, 3) := by decide +kernel
theorem dX0_startCarry_23 : decode cX0_startCarry 23 = .ok (.if_icmp .ge 44, 3) := by decide +kernel
theorem dX0_startCarry_26 : decode cX0_startCarry 26 = .ok (.iload_n 1, 1) := by decide +kernel
theorem dX0_startCarry_27 : decode cX0_startCarry 27 = .ok (.iload_n 3, 1) := by decide +kernel
theorem dX0_startCarry_28 : decode cX0_startCarry 28 = .ok (.ishr, 1) := by decide +kernel
theorem dX0_startCarry_29 : decode cX0_startCarry 29 = .ok (.iconst 1, 1) := by decide +kernel
theorem dX0_startCarry_30 : decode cX0_startCarry 30 = .ok (.iand, 1) := by decide +kernel
theorem dX0_startCarry_31 : decode cX0_startCarry 31 = .ok (.iconst 1, 1) := by decide +kernel
theorem dX0_startCarry_32 : decode cX0_startCarry 32 = .ok (.if_icmp .ne 29, 3) := by decide +kernel
theorem dX0_startCarry_35 : decode cX0_startCarry 35 = .ok (.aload_n 0, 1) := by decide +kernel
theorem dX0_startCarry_36 : decode cX0_startCarry 36 = .ok (.getfield 27, 3) := by decide +kernel
theorem dX0_startCarry_39 : decode cX0_startCarry 39 = .ok (.iload_n 3, 1) := by decide +kernel
theorem dX0_startCarry_40 : decode cX0_startCarry 40 = .ok (.aaload, 1) := by decide +kernel
theorem dX0_startCarry_41 : decode cX0_startCarry 41 = .ok (.aload_n 0, 1) := by decide +kernel
theorem dX0_startCarry_42 : decode cX0_startCarry 42 = .ok (.getfield 52, 3) := by decide +kernel
theorem dX0_startCarry_45 : decode cX0_startCarry 45 = .ok (.iconst 1, 1) := by decide +kernel
theorem dX0_startCarry_46 : decode cX0_startCarry 46 = .ok (.isub, 1) := by decide +kernel
theorem dX0_startCarry_47 : decode cX0_startCarry 47 = .ok (.iload_n 2, 1) := by decide +kernel
theorem dX0_startCarry_48 : decode cX0_startCarry 48 = .ok (.invokevirtual 162, 3) := by decide +kernel
theorem dX0_startCarry_51 : decode cX0_startCarry 51 = .ok (.aload_n 0, 1) := by decide +kernel
theorem dX0_startCarry_52 : decode cX0_startCarry 52 = .ok (.getfield 27, 3) := by decide +kernel
theorem dX0_startCarry_55 : decode cX0_startCarry 55 = .ok (.iload_n 3, 1) := by decide +kernel
theorem dX0_startCarry_56 : decode cX0_startCarry 56 = .ok (.aaload, 1) := by decide +kernel
theorem dX0_startCarry_57 : decode cX0_startCarry 57 = .ok (.iconst 1, 1) := by decide +kernel
theorem dX0_startCarry_58 : decode cX0_startCarry 58 = .ok (.putfield 204, 3) := by decide +kernel
theorem dX0_startCarry_61 : decode cX0_startCarry 61 = .ok (.iinc 3 1, 3) := by decide +kernel
theorem dX0_startCarry_64 : decode cX0_startCarry 64 = .ok (.goto (-46), 3) := by decide +kernel
theorem dX0_startCarry_67 : decode cX0_startCarry 67 = .ok (.aload_n 0, 1) := by decide +kernel
theorem dX0_startCarry_68 : decode cX0_startCarry 68 = .ok (.iconst 1, 1) := by decide +kernel
theorem dX0_startCarry_69 : decode cX0_startCarry 69 = .ok (.putfield 55, 3) := by decide +kernel
theorem dX0_startCarry_72 : decode cX0_startCarry 72 = .ok (.aload_n 0, 1) := by decide +kernel
theorem dX0_startCarry_73 : decode cX0_startCarry 73 = .ok (.getfield 45, 3) := by decide +kernel
theorem dX0_startCarry_76 : decode cX0_startCarry 76 = .ok (.aload_n 0, 1) := by decide +kernel
theorem dX0_startCarry_77 : decode cX0_startCarry 77 = .ok (.getfield 49, 3) := by decide +kernel
theorem dX0_startCarry_80 : decode cX0_startCarry 80 = .ok (.aload_n 0, 1) := by decide +kernel
theorem dX0_startCarry_81 : decode cX0_startCarry 81 = .ok (.getfield 52, 3) := by decide +kernel
theorem dX0_startCarry_84 : decode cX0_startCarry 84 = .ok (.iload_n 1, 1) := by decide +kernel
theorem dX0_startCarry_85 : decode cX0_startCarry 85 = .ok (.invokevirtual 207, 3) := by decide +kernel
theorem dX0_startCarry_88 : decode cX0_startCarry 88 = .ok (.iload_n 2, 1) := by decide +kernel
theorem dX0_startCarry_89 : decode cX0_startCarry 89 = .ok (.ireturn, 1) := by decide +kernel
theorem dX0_canSend_0 : decode cX0_canSend 0 = .ok (.aload_n 0, 1) := by decide +kernel
theorem dX0_canSend_1 : decode cX0_canSend 1 = .ok (.iload_n 1, 1) := by decide +kernel
theorem dX0_canSend_2 : decode cX0_canSend 2 = .ok (.invokevirtual 149, 3) := by decide +kernel
theorem dX0_canSend_5 : decode cX0_canSend 5 = .ok (.ifCond .eq 31, 3) := by decide +kernel
theorem dX0_canSend_8 : decode cX0_canSend 8 = .ok (.aload_n 0, 1) := by decide +kernel
theorem dX0_canSend_9 : decode cX0_canSend 9 = .ok (.getfield 38, 3) := by decide +kernel
theorem dX0_canSend_12 : decode cX0_canSend 12 = .ok (.getfield 76, 3) := by decide +kernel
theorem dX0_canSend_15 : decode cX0_canSend 15 = .ok (.bipush 10, 2) := by decide +kernel
theorem dX0_canSend_17 : decode cX0_canSend 17 = .ok (.if_icmp .lt 15, 3) := by decide +kernel
theorem dX0_canSend_20 : decode cX0_canSend 20 = .ok (.aload_n 0, 1) := by decide +kernel
theorem dX0_canSend_21 : decode cX0_canSend 21 = .ok (.getfield 27, 3) := by decide +kernel
theorem dX0_canSend_24 : decode cX0_canSend 24 = .ok (.iload_n 1, 1) := by decide +kernel
theorem dX0_canSend_25 : decode cX0_canSend 25 = .ok (.aaload, 1) := by decide +kernel
theorem dX0_canSend_26 : decode cX0_canSend 26 = .ok (.getfield 110, 3) := by decide +kernel
theorem dX0_canSend_29 : decode cX0_canSend 29 = .ok (.ifCond .ne 7, 3) := by decide +kernel
theorem dX0_canSend_32 : decode cX0_canSend 32 = .ok (.iconst 1, 1) := by decide +kernel
theorem dX0_canSend_33 : decode cX0_canSend 33 = .ok (.goto 4, 3) := by decide +kernel
theorem dX0_canSend_36 : decode cX0_canSend 36 = .ok (.iconst 0, 1) := by decide +kernel
theorem dX0_canSend_37 : decode cX0_canSend 37 = .ok (.ireturn, 1) := by decide +kernel
theorem dX0_sendFrom_0 : decode cX0_sendFrom 0 = .ok (.aload_n 0, 1) := by decide +kernel
theorem dX0_sendFrom_1 : decode cX0_sendFrom 1 = .ok (.getfield 27, 3) := by decide +kernel
theorem dX0_sendFrom_4 : decode cX0_sendFrom 4 = .ok (.iload_n 1, 1) := by decide +kernel
theorem dX0_sendFrom_5 : decode cX0_sendFrom 5 = .ok (.aaload, 1) := by decide +kernel
theorem dX0_sendFrom_6 : decode cX0_sendFrom 6 = .ok (.getfield 110, 3) := by decide +kernel
theorem dX0_sendFrom_9 : decode cX0_sendFrom 9 = .ok (.istore_n 2, 1) := by decide +kernel
theorem dX0_sendFrom_10 : decode cX0_sendFrom 10 = .ok (.iload_n 2, 1) := by decide +kernel
theorem dX0_sendFrom_11 : decode cX0_sendFrom 11 = .ok (.ifCond .ne 19, 3) := by decide +kernel
theorem dX0_sendFrom_14 : decode cX0_sendFrom 14 = .ok (.aload_n 0, 1) := by decide +kernel
theorem dX0_sendFrom_15 : decode cX0_sendFrom 15 = .ok (.getfield 38, 3) := by decide +kernel
theorem dX0_sendFrom_18 : decode cX0_sendFrom 18 = .ok (.dup, 1) := by decide +kernel
theorem dX0_sendFrom_19 : decode cX0_sendFrom 19 = .ok (.getfield 77, 3) := by decide +kernel
theorem dX0_sendFrom_22 : decode cX0_sendFrom 22 = .ok (.iconst 1, 1) := by decide +kernel
theorem dX0_sendFrom_23 : decode cX0_sendFrom 23 = .ok (.iadd, 1) := by decide +kernel
theorem dX0_sendFrom_24 : decode cX0_sendFrom 24 = .ok (.putfield 77, 3) := by decide +kernel
theorem dX0_sendFrom_27 : decode cX0_sendFrom 27 = .ok (.goto 16, 3) := by decide +kernel
theorem dX0_sendFrom_30 : decode cX0_sendFrom 30 = .ok (.aload_n 0, 1) := by decide +kernel
theorem dX0_sendFrom_31 : decode cX0_sendFrom 31 = .ok (.getfield 38, 3) := by decide +kernel
theorem dX0_sendFrom_34 : decode cX0_sendFrom 34 = .ok (.iload_n 1, 1) := by decide +kernel
theorem dX0_sendFrom_35 : decode cX0_sendFrom 35 = .ok (.aload_n 0, 1) := by decide +kernel
theorem dX0_sendFrom_36 : decode cX0_sendFrom 36 = .ok (.getfield 49, 3) := by decide +kernel
theorem dX0_sendFrom_39 : decode cX0_sendFrom 39 = .ok (.iload_n 2, 1) := by decide +kernel
theorem dX0_sendFrom_40 : decode cX0_sendFrom 40 = .ok (.invokevirtual 210, 3) := by decide +kernel
theorem dX0_sendFrom_43 : decode cX0_sendFrom 43 = .ok (.return_, 1) := by decide +kernel
theorem dX0_canPass_0 : decode cX0_canPass 0 = .ok (.aload_n 0, 1) := by decide +kernel
theorem dX0_canPass_1 : decode cX0_canPass 1 = .ok (.getfield 49, 3) := by decide +kernel
theorem dX0_canPass_4 : decode cX0_canPass 4 = .ok (.iload_n 1, 1) := by decide +kernel
theorem dX0_canPass_5 : decode cX0_canPass 5 = .ok (.iadd, 1) := by decide +kernel
theorem dX0_canPass_6 : decode cX0_canPass 6 = .ok (.ldc 211, 2) := by decide +kernel
theorem dX0_canPass_8 : decode cX0_canPass 8 = .ok (.if_icmp .gt 7, 3) := by decide +kernel
theorem dX0_canPass_11 : decode cX0_canPass 11 = .ok (.iconst 1, 1) := by decide +kernel
theorem dX0_canPass_12 : decode cX0_canPass 12 = .ok (.goto 4, 3) := by decide +kernel
theorem dX0_canPass_15 : decode cX0_canPass 15 = .ok (.iconst 0, 1) := by decide +kernel
theorem dX0_canPass_16 : decode cX0_canPass 16 = .ok (.ireturn, 1) := by decide +kernel
theorem dX0_letPass_0 : decode cX0_letPass 0 = .ok (.aload_n 0, 1) := by decide +kernel
theorem dX0_letPass_1 : decode cX0_letPass 1 = .ok (.getfield 38, 3) := by decide +kernel
theorem dX0_letPass_4 : decode cX0_letPass 4 = .ok (.getfield 77, 3) := by decide +kernel
theorem dX0_letPass_7 : decode cX0_letPass 7 = .ok (.istore_n 2, 1) := by decide +kernel
theorem dX0_letPass_8 : decode cX0_letPass 8 = .ok (.iconst 0, 1) := by decide +kernel
theorem dX0_letPass_9 : decode cX0_letPass 9 = .ok (.istore_n 3, 1) := by decide +kernel
theorem dX0_letPass_10 : decode cX0_letPass 10 = .ok (.iload_n 3, 1) := by decide +kernel
theorem dX0_letPass_11 : decode cX0_letPass 11 = .ok (.iload_n 1, 1) := by decide +kernel
theorem dX0_letPass_12 : decode cX0_letPass 12 = .ok (.if_icmp .ge 72, 3) := by decide +kernel
theorem dX0_letPass_15 : decode cX0_letPass 15 = .ok (.iconst 0, 1) := by decide +kernel
theorem dX0_letPass_16 : decode cX0_letPass 16 = .ok (.istore 4, 2) := by decide +kernel
theorem dX0_letPass_18 : decode cX0_letPass 18 = .ok (.iload 4, 2) := by decide +kernel
theorem dX0_letPass_20 : decode cX0_letPass 20 = .ok (.aload_n 0, 1) := by decide +kernel
theorem dX0_letPass_21 : decode cX0_letPass 21 = .ok (.getfield 31, 3) := by decide +kernel
theorem dX0_letPass_24 : decode cX0_letPass 24 = .ok (.if_icmp .ge 15, 3) := by decide +kernel
theorem dX0_letPass_27 : decode cX0_letPass 27 = .ok (.aload_n 0, 1) := by decide +kernel
theorem dX0_letPass_28 : decode cX0_letPass 28 = .ok (.iload 4, 2) := by decide +kernel
theorem dX0_letPass_30 : decode cX0_letPass 30 = .ok (.invokevirtual 212, 3) := by decide +kernel
theorem dX0_letPass_33 : decode cX0_letPass 33 = .ok (.iinc 4 1, 3) := by decide +kernel
theorem dX0_letPass_36 : decode cX0_letPass 36 = .ok (.goto (-18), 3) := by decide +kernel
theorem dX0_letPass_39 : decode cX0_letPass 39 = .ok (.aload_n 0, 1) := by decide +kernel
theorem dX0_letPass_40 : decode cX0_letPass 40 = .ok (.getfield 49, 3) := by decide +kernel
theorem dX0_letPass_43 : decode cX0_letPass 43 = .ok (.aload_n 0, 1) := by decide +kernel
theorem dX0_letPass_44 : decode cX0_letPass 44 = .ok (.getfield 59, 3) := by decide +kernel
theorem dX0_letPass_47 : decode cX0_letPass 47 = .ok (.if_icmp .lt 14, 3) := by decide +kernel
theorem dX0_letPass_50 : decode cX0_letPass 50 = .ok (.aload_n 0, 1) := by decide +kernel
theorem dX0_letPass_51 : decode cX0_letPass 51 = .ok (.getfield 49, 3) := by decide +kernel
theorem dX0_letPass_54 : decode cX0_letPass 54 = .ok (.aload_n 0, 1) := by decide +kernel
theorem dX0_letPass_55 : decode cX0_letPass 55 = .ok (.getfield 62, 3) := by decide +kernel
theorem dX0_letPass_58 : decode cX0_letPass 58 = .ok (.if_icmp .lt 10, 3) := by decide +kernel
theorem dX0_letPass_61 : decode cX0_letPass 61 = .ok (.aload_n 0, 1) := by decide +kernel
theorem dX0_letPass_62 : decode cX0_letPass 62 = .ok (.getfield 38, 3) := by decide +kernel
theorem dX0_letPass_65 : decode cX0_letPass 65 = .ok (.invokevirtual 215, 3) := by decide +kernel
theorem dX0_letPass_68 : decode cX0_letPass 68 = .ok (.aload_n 0, 1) := by decide +kernel
theorem dX0_letPass_69 : decode cX0_letPass 69 = .ok (.dup, 1) := by decide +kernel
theorem dX0_letPass_70 : decode cX0_letPass 70 = .ok (.getfield 49, 3) := by decide +kernel
theorem dX0_letPass_73 : decode cX0_letPass 73 = .ok (.iconst 1, 1) := by decide +kernel
theorem dX0_letPass_74 : decode cX0_letPass 74 = .ok (.iadd, 1) := by decide +kernel
theorem dX0_letPass_75 : decode cX0_letPass 75 = .ok (.putfield 49, 3) := by decide +kernel
theorem dX0_letPass_78 : decode cX0_letPass 78 = .ok (.iinc 3 1, 3) := by decide +kernel
theorem dX0_letPass_81 : decode cX0_letPass 81 = .ok (.goto (-71), 3) := by decide +kernel
theorem dX0_letPass_84 : decode cX0_letPass 84 = .ok (.aload_n 0, 1) := by decide +kernel
theorem dX0_letPass_85 : decode cX0_letPass 85 = .ok (.getfield 38, 3) := by decide +kernel
theorem dX0_letPass_88 : decode cX0_letPass 88 = .ok (.getfield 77, 3) := by decide +kernel
theorem dX0_letPass_91 : decode cX0_letPass 91 = .ok (.iload_n 2, 1) := by decide +kernel
theorem dX0_letPass_92 : decode cX0_letPass 92 = .ok (.isub, 1) := by decide +kernel
theorem dX0_letPass_93 : decode cX0_letPass 93 = .ok (.ireturn, 1) := by decide +kernel
theorem dX0_letMinutePass_0 : decode cX0_letMinutePass 0 = .ok (.aload_n 0, 1) := by decide +kernel
theorem dX0_letMinutePass_1 : decode cX0_letMinutePass 1 = .ok (.getfield 27, 3) := by decide +kernel
theorem dX0_letMinutePass_4 : decode cX0_letMinutePass 4 = .ok (.iload_n 1, 1) := by decide +kernel
theorem dX0_letMinutePass_5 : decode cX0_letMinutePass 5 = .ok (.aaload, 1) := by decide +kernel
theorem dX0_letMinutePass_6 : decode cX0_letMinutePass 6 = .ok (.astore_n 2, 1) := by decide +kernel
theorem dX0_letMinutePass_7 : decode cX0_letMinutePass 7 = .ok (.aload_n 2, 1) := by decide +kernel
theorem dX0_letMinutePass_8 : decode cX0_letMinutePass 8 = .ok (.getfield 103, 3) := by decide +kernel
theorem dX0_letMinutePass_11 : decode cX0_letMinutePass 11 = .ok (.ifCond .ne 14, 3) := by decide +kernel
theorem dX0_letMinutePass_14 : decode cX0_letMinutePass 14 = .ok (.aload_n 2, 1) := by decide +kernel
theorem dX0_letMinutePass_15 : decode cX0_letMinutePass 15 = .ok (.getfield 110, 3) := by decide +kernel
theorem dX0_letMinutePass_18 : decode cX0_letMinutePass 18 = .ok (.ifCond .ne 7, 3) := by decide +kernel
theorem dX0_letMinutePass_21 : decode cX0_letMinutePass 21 = .ok (.iconst 1, 1) := by decide +kernel
theorem dX0_letMinutePass_22 : decode cX0_letMinutePass 22 = .ok (.goto 4, 3) := by decide +kernel
theorem dX0_letMinutePass_25 : decode cX0_letMinutePass 25 = .ok (.iconst 0, 1) := by decide +kernel
theorem dX0_letMinutePass_26 : decode cX0_letMinutePass 26 = .ok (.istore_n 3, 1) := by decide +kernel
theorem dX0_letMinutePass_27 : decode cX0_letMinutePass 27 = .ok (.aload_n 2, 1) := by decide +kernel
theorem dX0_letMinutePass_28 : decode cX0_letMinutePass 28 = .ok (.getfield 103, 3) := by decide +kernel
theorem dX0_letMinutePass_31 : decode cX0_letMinutePass 31 = .ok (.ifCond .ne 49, 3) := by decide +kernel
theorem dX0_letMinutePass_34 : decode cX0_letMinutePass 34 = .ok (.aload_n 2, 1) := by decide +kernel
theorem dX0_letMinutePass_35 : decode cX0_letMinutePass 35 = .ok (.getfield 110, 3) := by decide +kernel
theorem dX0_letMinutePass_38 : decode cX0_letMinutePass 38 = .ok (.ifCond .le 42, 3) := by decide +kernel
theorem dX0_letMinutePass_41 : decode cX0_letMinutePass 41 = .ok (.aload_n 0, 1) := by decide +kernel
theorem dX0_letMinutePass_42 : decode cX0_letMinutePass 42 = .ok (.aload_n 2, 1) := by decide +kernel
theorem dX0_letMinutePass_43 : decode cX0_letMinutePass 43 = .ok (.aload_n 2, 1) := by decide +kernel
theorem dX0_letMinutePass_44 : decode cX0_letMinutePass 44 = .ok (.getfield 110, 3) := by decide +kernel
theorem dX0_letMinutePass_47 : decode cX0_letMinutePass 47 = .ok (.iconst 1, 1) := by decide +kernel
theorem dX0_letMinutePass_48 : decode cX0_letMinutePass 48 = .ok (.invokevirtual 145, 3) := by decide +kernel
theorem dX0_letMinutePass_51 : decode cX0_letMinutePass 51 = .ok (.ifCond .ne 29, 3) := by decide +kernel
theorem dX0_letMinutePass_54 : decode cX0_letMinutePass 54 = .ok (.aload_n 0, 1) := by decide +kernel
theorem dX0_letMinutePass_55 : decode cX0_letMinutePass 55 = .ok (.aload_n 2, 1) := by decide +kernel
theorem dX0_letMinutePass_56 : decode cX0_letMinutePass 56 = .ok (.aload_n 2, 1) := by decide +kernel
theorem dX0_letMinutePass_57 : decode cX0_letMinutePass 57 = .ok (.getfield 110, 3) := by decide +kernel
theorem dX0_letMinutePass_60 : decode cX0_letMinutePass 60 = .ok (.iconst 1, 1) := by decide +kernel
theorem dX0_letMinutePass_61 : decode cX0_letMinutePass 61 = .ok (.isub, 1) := by decide +kernel
theorem dX0_letMinutePass_62 : decode cX0_letMinutePass 62 = .ok (.invokevirtual 152, 3) := by decide +kernel
theorem dX0_letMinutePass_65 : decode cX0_letMinutePass 65 = .ok (.ifCond .ne 15, 3) := by decide +kernel
theorem dX0_letMinutePass_68 : decode cX0_letMinutePass 68 = .ok (.aload_n 0, 1) := by decide +kernel
theorem dX0_letMinutePass_69 : decode cX0_letMinutePass 69 = .ok (.iload_n 1, 1) := by decide +kernel
theorem dX0_letMinutePass_70 : decode cX0_letMinutePass 70 = .ok (.aload_n 2, 1) := by decide +kernel
theorem dX0_letMinutePass_71 : decode cX0_letMinutePass 71 = .ok (.getfield 110, 3) := by decide +kernel
theorem dX0_letMinutePass_74 : decode cX0_letMinutePass 74 = .ok (.iconst 1, 1) := by decide +kernel
theorem dX0_letMinutePass_75 : decode cX0_letMinutePass 75 = .ok (.isub, 1) := by decide +kernel
theorem dX0_letMinutePass_76 : decode cX0_letMinutePass 76 = .ok (.invokevirtual 218, 3) := by decide +kernel
theorem dX0_letMinutePass_79 : decode cX0_letMinutePass 79 = .ok (.pop, 1) := by decide +kernel
theorem dX0_letMinutePass_80 : decode cX0_letMinutePass 80 = .ok (.aload_n 2, 1) := by decide +kernel
theorem dX0_letMinutePass_81 : decode cX0_letMinutePass 81 = .ok (.getfield 103, 3) := by decide +kernel
theorem dX0_letMinutePass_84 : decode cX0_letMinutePass 84 = .ok (.iconst 1, 1) := by decide +kernel
theorem dX0_letMinutePass_85 : decode cX0_letMinutePass 85 = .ok (.if_icmp .ne 11, 3) := by decide +kernel
theorem dX0_letMinutePass_88 : decode cX0_letMinutePass 88 = .ok (.aload_n 0, 1) := by decide +kernel
theorem dX0_letMinutePass_89 : decode cX0_letMinutePass 89 = .ok (.aload_n 2, 1) := by decide +kernel
theorem dX0_letMinutePass_90 : decode cX0_letMinutePass 90 = .ok (.invokevirtual 221, 3) := by decide +kernel
theorem dX0_letMinutePass_93 : decode cX0_letMinutePass 93 = .ok (.goto 16, 3) := by decide +kernel
theorem dX0_letMinutePass_96 : decode cX0_letMinutePass 96 = .ok (.aload_n 2, 1) := by decide +kernel
theorem dX0_letMinutePass_97 : decode cX0_letMinutePass 97 = .ok (.getfield 103, 3) := by decide +kernel
theorem dX0_letMinutePass_100 : decode cX0_letMinutePass 100 = .ok (.iconst 2, 1) := by decide +kernel
theorem dX0_letMinutePass_101 : decode cX0_letMinutePass 101 = .ok (.if_icmp .ne 8, 3) := by decide +kernel
theorem dX0_letMinutePass_104 : decode cX0_letMinutePass 104 = .ok (.aload_n 0, 1) := by decide +kernel
theorem dX0_letMinutePass_105 : decode cX0_letMinutePass 105 = .ok (.aload_n 2, 1) := by decide +kernel
theorem dX0_letMinutePass_106 : decode cX0_letMinutePass 106 = .ok (.invokevirtual 224, 3) := by decide +kernel
theorem dX0_letMinutePass_109 : decode cX0_letMinutePass 109 = .ok (.iload_n 3, 1) := by decide +kernel
theorem dX0_letMinutePass_110 : decode cX0_letMinutePass 110 = .ok (.ifCond .eq 20, 3) := by decide +kernel
theorem dX0_letMinutePass_113 : decode cX0_letMinutePass 113 = .ok (.aload_n 2, 1) := by decide +kernel
theorem dX0_letMinutePass_114 : decode cX0_letMinutePass 114 = .ok (.getfield 142, 3) := by decide +kernel
theorem dX0_letMinutePass_117 : decode cX0_letMinutePass 117 = .ok (.ifCond .le 13, 3) := by decide +kernel
theorem dX0_letMinutePass_120 : decode cX0_letMinutePass 120 = .ok (.aload_n 2, 1) := by decide +kernel
theorem dX0_letMinutePass_121 : decode cX0_letMinutePass 121 = .ok (.dup, 1) := by decide +kernel
theorem dX0_letMinutePass_122 : decode cX0_letMinutePass 122 = .ok (.getfield 142, 3) := by decide +kernel
theorem dX0_letMinutePass_125 : decode cX0_letMinutePass 125 = .ok (.iconst 1, 1) := by decide +kernel
theorem dX0_letMinutePass_126 : decode cX0_letMinutePass 126 = .ok (.isub, 1) := by decide +kernel
theorem dX0_letMinutePass_127 : decode cX0_letMinutePass 127 = .ok (.putfield 142, 3) := by decide +kernel
theorem dX0_letMinutePass_130 : decode cX0_letMinutePass 130 = .ok (.aload_n 2, 1) := by decide +kernel
theorem dX0_letMinutePass_131 : decode cX0_letMinutePass 131 = .ok (.invokevirtual 227, 3) := by decide +kernel
theorem dX0_letMinutePass_134 : decode cX0_letMinutePass 134 = .ok (.ifCond .eq 13, 3) := by decide +kernel
theorem dX0_letMinutePass_137 : decode cX0_letMinutePass 137 = .ok (.aload_n 0, 1) := by decide +kernel
theorem dX0_letMinutePass_138 : decode cX0_letMinutePass 138 = .ok (.dup, 1) := by decide +kernel
theorem dX0_letMinutePass_139 : decode cX0_letMinutePass 139 = .ok (.getfield 65, 3) := by decide +kernel
theorem dX0_letMinutePass_142 : decode cX0_letMinutePass 142 = .ok (.iconst 1, 1) := by decide +kernel
theorem dX0_letMinutePass_143 : decode cX0_letMinutePass 143 = .ok (.iadd, 1) := by decide +kernel
theorem dX0_letMinutePass_144 : decode cX0_letMinutePass 144 = .ok (.putfield 65, 3) := by decide +kernel
theorem dX0_letMinutePass_147 : decode cX0_letMinutePass 147 = .ok (.return_, 1) := by decide +kernel
theorem dX0_walkOn_0 : decode cX0_walkOn 0 = .ok (.aload_n 1, 1) := by decide +kernel
theorem dX0_walkOn_1 : decode cX0_walkOn 1 = .ok (.getfield 231, 3) := by decide +kernel
theorem dX0_walkOn_4 : decode cX0_walkOn 4 = .ok (.aload_n 1, 1) := by decide +kernel
theorem dX0_walkOn_5 : decode cX0_walkOn 5 = .ok (.getfield 110, 3) := by decide +kernel
theorem dX0_walkOn_8 : decode cX0_walkOn 8 = .ok (.if_icmp .ge 21, 3) := by decide +kernel
theorem dX0_walkOn_11 : decode cX0_walkOn 11 = .ok (.aload_n 0, 1) := by decide +kernel
theorem dX0_walkOn_12 : decode cX0_walkOn 12 = .ok (.getfield 12, 3) := by decide +kernel
theorem dX0_walkOn_15 : decode cX0_walkOn 15 = .ok (.aload_n 1, 1) := by decide +kernel
theorem dX0_walkOn_16 : decode cX0_walkOn 16 = .ok (.getfield 231, 3) := by decide +kernel
theorem dX0_walkOn_19 : decode cX0_walkOn 19 = .ok (.invokevirtual 139, 3) := by decide +kernel
theorem dX0_walkOn_22 : decode cX0_walkOn 22 = .ok (.ifCond .eq 7, 3) := by decide +kernel
theorem dX0_walkOn_25 : decode cX0_walkOn 25 = .ok (.iconst 1, 1) := by decide +kernel
theorem dX0_walkOn_26 : decode cX0_walkOn 26 = .ok (.goto 4, 3) := by decide +kernel
theorem dX0_walkOn_29 : decode cX0_walkOn 29 = .ok (.iconst 0, 1) := by decide +kernel
theorem dX0_walkOn_30 : decode cX0_walkOn 30 = .ok (.istore_n 2, 1) := by decide +kernel
theorem dX0_walkOn_31 : decode cX0_walkOn 31 = .ok (.aload_n 1, 1) := by decide +kernel
theorem dX0_walkOn_32 : decode cX0_walkOn 32 = .ok (.dup, 1) := by decide +kernel
theorem dX0_walkOn_33 : decode cX0_walkOn 33 = .ok (.getfield 142, 3) := by decide +kernel
theorem dX0_walkOn_36 : decode cX0_walkOn 36 = .ok (.aload_n 1, 1) := by decide +kernel
theorem dX0_walkOn_37 : decode cX0_walkOn 37 = .ok (.getfield 204, 3) := by decide +kernel
theorem dX0_walkOn_40 : decode cX0_walkOn 40 = .ok (.ifCond .ne 7, 3) := by decide +kernel
theorem dX0_walkOn_43 : decode cX0_walkOn 43 = .ok (.iload_n 2, 1) := by decide +kernel
theorem dX0_walkOn_44 : decode cX0_walkOn 44 = .ok (.ifCond .eq 7, 3) := by decide +kernel
theorem dX0_walkOn_47 : decode cX0_walkOn 47 = .ok (.iconst 2, 1) := by decide +kernel
theorem dX0_walkOn_48 : decode cX0_walkOn 48 = .ok (.goto 4, 3) := by decide +kernel
theorem dX0_walkOn_51 : decode cX0_walkOn 51 = .ok (.iconst 1, 1) := by decide +kernel
theorem dX0_walkOn_52 : decode cX0_walkOn 52 = .ok (.iadd, 1) := by decide +kernel
theorem dX0_walkOn_53 : decode cX0_walkOn 53 = .ok (.putfield 142, 3) := by decide +kernel
theorem dX0_walkOn_56 : decode cX0_walkOn 56 = .ok (.aload_n 1, 1) := by decide +kernel
theorem dX0_walkOn_57 : decode cX0_walkOn 57 = .ok (.dup, 1) := by decide +kernel
theorem dX0_walkOn_58 : decode cX0_walkOn 58 = .ok (.getfield 186, 3) := by decide +kernel
theorem dX0_walkOn_61 : decode cX0_walkOn 61 = .ok (.iconst 1, 1) := by decide +kernel
theorem dX0_walkOn_62 : decode cX0_walkOn 62 = .ok (.isub, 1) := by decide +kernel
theorem dX0_walkOn_63 : decode cX0_walkOn 63 = .ok (.putfield 186, 3) := by decide +kernel
theorem dX0_walkOn_66 : decode cX0_walkOn 66 = .ok (.aload_n 1, 1) := by decide +kernel
theorem dX0_walkOn_67 : decode cX0_walkOn 67 = .ok (.getfield 186, 3) := by decide +kernel
theorem dX0_walkOn_70 : decode cX0_walkOn 70 = .ok (.ifCond .le 4, 3) := by decide +kernel
theorem dX0_walkOn_73 : decode cX0_walkOn 73 = .ok (.return_, 1) := by decide +kernel
theorem dX0_walkOn_74 : decode cX0_walkOn 74 = .ok (.aload_n 1, 1) := by decide +kernel
theorem dX0_walkOn_75 : decode cX0_walkOn 75 = .ok (.invokevirtual 234, 3) := by decide +kernel
theorem dX0_walkOn_78 : decode cX0_walkOn 78 = .ok (.aload_n 1, 1) := by decide +kernel
theorem dX0_walkOn_79 : decode cX0_walkOn 79 = .ok (.getfield 204, 3) := by decide +kernel
theorem dX0_walkOn_82 : decode cX0_walkOn 82 = .ok (.ifCond .eq 21, 3) := by decide +kernel
theorem dX0_walkOn_85 : decode cX0_walkOn 85 = .ok (.aload_n 1, 1) := by decide +kernel
theorem dX0_walkOn_86 : decode cX0_walkOn 86 = .ok (.iconst 0, 1) := by decide +kernel
theorem dX0_walkOn_87 : decode cX0_walkOn 87 = .ok (.putfield 204, 3) := by decide +kernel
theorem dX0_walkOn_90 : decode cX0_walkOn 90 = .ok (.aload_n 0, 1) := by decide +kernel
theorem dX0_walkOn_91 : decode cX0_walkOn 91 = .ok (.aload_n 1, 1) := by decide +kernel
theorem dX0_walkOn_92 : decode cX0_walkOn 92 = .ok (.getfield 110, 3) := by decide +kernel
theorem dX0_walkOn_95 : decode cX0_walkOn 95 = .ok (.putfield 52, 3) := by decide +kernel
theorem dX0_walkOn_98 : decode cX0_walkOn 98 = .ok (.aload_n 0, 1) := by decide +kernel
theorem dX0_walkOn_99 : decode cX0_walkOn 99 = .ok (.iconst 0, 1) := by decide +kernel
theorem dX0_walkOn_100 : decode cX0_walkOn 100 = .ok (.putfield 55, 3) := by decide +kernel
theorem dX0_walkOn_103 : decode cX0_walkOn 103 = .ok (.return_, 1) := by decide +kernel
theorem dX0_rigOn_0 : decode cX0_rigOn 0 = .ok (.aload_n 1, 1) := by decide +kernel
theorem dX0_rigOn_1 : decode cX0_rigOn 1 = .ok (.dup, 1) := by decide +kernel
theorem dX0_rigOn_2 : decode cX0_rigOn 2 = .ok (.getfield 186, 3) := by decide +kernel
theorem dX0_rigOn_5 : decode cX0_rigOn 5 = .ok (.iconst 1, 1) := by decide +kernel
theorem dX0_rigOn_6 : decode cX0_rigOn 6 = .ok (.isub, 1) := by decide +kernel
theorem dX0_rigOn_7 : decode cX0_rigOn 7 = .ok (.putfield 186, 3) := by decide +kernel
theorem dX0_rigOn_10 : decode cX0_rigOn 10 = .ok (.aload_n 1, 1) := by decide +kernel
theorem dX0_rigOn_11 : decode cX0_rigOn 11 = .ok (.getfield 186, 3) := by decide +kernel
theorem dX0_rigOn_14 : decode cX0_rigOn 14 = .ok (.ifCond .le 4, 3) := by decide +kernel
theorem dX0_rigOn_17 : decode cX0_rigOn 17 = .ok (.return_, 1) := by decide +kernel
theorem dX0_rigOn_18 : decode cX0_rigOn 18 = .ok (.aload_n 0, 1) := by decide +kernel
theorem dX0_rigOn_19 : decode cX0_rigOn 19 = .ok (.getfield 21, 3) := by decide +kernel
theorem dX0_rigOn_22 : decode cX0_rigOn 22 = .ok (.aload_n 1, 1) := by decide +kernel
theorem dX0_rigOn_23 : decode cX0_rigOn 23 = .ok (.getfield 166, 3) := by decide +kernel
theorem dX0_rigOn_26 : decode cX0_rigOn 26 = .ok (.iconst 2, 1) := by decide +kernel
theorem dX0_rigOn_27 : decode cX0_rigOn 27 = .ok (.aload_n 1, 1) := by decide +kernel
theorem dX0_rigOn_28 : decode cX0_rigOn 28 = .ok (.getfield 110, 3) := by decide +kernel
theorem dX0_rigOn_31 : decode cX0_rigOn 31 = .ok (.invokevirtual 173, 3) := by decide +kernel
theorem dX0_rigOn_34 : decode cX0_rigOn 34 = .ok (.aload_n 0, 1) := by decide +kernel
theorem dX0_rigOn_35 : decode cX0_rigOn 35 = .ok (.getfield 12, 3) := by decide +kernel
theorem dX0_rigOn_38 : decode cX0_rigOn 38 = .ok (.aload_n 1, 1) := by decide +kernel
theorem dX0_rigOn_39 : decode cX0_rigOn 39 = .ok (.getfield 110, 3) := by decide +kernel
theorem dX0_rigOn_42 : decode cX0_rigOn 42 = .ok (.aload_n 1, 1) := by decide +kernel
theorem dX0_rigOn_43 : decode cX0_rigOn 43 = .ok (.getfield 166, 3) := by decide +kernel
theorem dX0_rigOn_46 : decode cX0_rigOn 46 = .ok (.invokevirtual 189, 3) := by decide +kernel
theorem dX0_rigOn_49 : decode cX0_rigOn 49 = .ok (.aload_n 1, 1) := by decide +kernel
theorem dX0_rigOn_50 : decode cX0_rigOn 50 = .ok (.iconst (-1), 1) := by decide +kernel
theorem dX0_rigOn_51 : decode cX0_rigOn 51 = .ok (.putfield 166, 3) := by decide +kernel
theorem dX0_rigOn_54 : decode cX0_rigOn 54 = .ok (.aload_n 1, 1) := by decide +kernel
theorem dX0_rigOn_55 : decode cX0_rigOn 55 = .ok (.iconst 0, 1) := by decide +kernel
theorem dX0_rigOn_56 : decode cX0_rigOn 56 = .ok (.putfield 103, 3) := by decide +kernel
theorem dX0_rigOn_59 : decode cX0_rigOn 59 = .ok (.return_, 1) := by decide +kernel
theorem dX0_wayUpOf_0 : decode cX0_wayUpOf 0 = .ok (.aload_n 1, 1) := by decide +kernel
theorem dX0_wayUpOf_1 : decode cX0_wayUpOf 1 = .ok (.getfield 103, 3) := by decide +kernel
theorem dX0_wayUpOf_4 : decode cX0_wayUpOf 4 = .ok (.ifCond .ne 17, 3) := by decide +kernel
theorem dX0_wayUpOf_7 : decode cX0_wayUpOf 7 = .ok (.aload_n 0, 1) := by decide +kernel
theorem dX0_wayUpOf_8 : decode cX0_wayUpOf 8 = .ok (.getfield 12, 3) := by decide +kernel
theorem dX0_wayUpOf_11 : decode cX0_wayUpOf 11 = .ok (.aload_n 1, 1) := by decide +kernel
theorem dX0_wayUpOf_12 : decode cX0_wayUpOf 12 = .ok (.getfield 110, 3) := by decide +kernel
theorem dX0_wayUpOf_15 : decode cX0_wayUpOf 15 = .ok (.invokevirtual 237, 3) := by decide +kernel
theorem dX0_wayUpOf_18 : decode cX0_wayUpOf 18 = .ok (.ifCond .ne 5, 3) := by decide +kernel
theorem dX0_wayUpOf_21 : decode cX0_wayUpOf 21 = .ok (.iconst (-1), 1) := by decide +kernel
theorem dX0_wayUpOf_22 : decode cX0_wayUpOf 22 = .ok (.ireturn, 1) := by decide +kernel
theorem dX0_wayUpOf_23 : decode cX0_wayUpOf 23 = .ok (.aload_n 0, 1) := by decide +kernel
theorem dX0_wayUpOf_24 : decode cX0_wayUpOf 24 = .ok (.getfield 12, 3) := by decide +kernel
theorem dX0_wayUpOf_27 : decode cX0_wayUpOf 27 = .ok (.aload_n 1, 1) := by decide +kernel
theorem dX0_wayUpOf_28 : decode cX0_wayUpOf 28 = .ok (.getfield 110, 3) := by decide +kernel
theorem dX0_wayUpOf_31 : decode cX0_wayUpOf 31 = .ok (.invokevirtual 126, 3) := by decide +kernel
theorem dX0_wayUpOf_34 : decode cX0_wayUpOf 34 = .ok (.ireturn, 1) := by decide +kernel
theorem dX0_spareOf_0 : decode cX0_spareOf 0 = .ok (.aload_n 0, 1) := by decide +kernel
theorem dX0_spareOf_1 : decode cX0_spareOf 1 = .ok (.aload_n 1, 1) := by decide +kernel
theorem dX0_spareOf_2 : decode cX0_spareOf 2 = .ok (.invokevirtual 240, 3) := by decide +kernel
theorem dX0_spareOf_5 : decode cX0_spareOf 5 = .ok (.istore_n 2, 1) := by decide +kernel
theorem dX0_spareOf_6 : decode cX0_spareOf 6 = .ok (.iload_n 2, 1) := by decide +kernel
theorem dX0_spareOf_7 : decode cX0_spareOf 7 = .ok (.iconst (-1), 1) := by decide +kernel
theorem dX0_spareOf_8 : decode cX0_spareOf 8 = .ok (.if_icmp .eq 10, 3) := by decide +kernel
theorem dX0_spareOf_11 : decode cX0_spareOf 11 = .ok (.aload_n 1, 1) := by decide +kernel
theorem dX0_spareOf_12 : decode cX0_spareOf 12 = .ok (.getfield 110, 3) := by decide +kernel
theorem dX0_spareOf_15 : decode cX0_spareOf 15 = .ok (.ifCond .ne 5, 3) := by decide +kernel
theorem dX0_spareOf_18 : decode cX0_spareOf 18 = .ok (.iconst (-1), 1) := by decide +kernel
theorem dX0_spareOf_19 : decode cX0_spareOf 19 = .ok (.ireturn, 1) := by decide +kernel
theorem dX0_spareOf_20 : decode cX0_spareOf 20 = .ok (.iconst 0, 1) := by decide +kernel
theorem dX0_spareOf_21 : decode cX0_spareOf 21 = .ok (.aload_n 1, 1) := by decide +kernel
theorem dX0_spareOf_22 : decode cX0_spareOf 22 = .ok (.getfield 129, 3) := by decide +kernel
theorem dX0_spareOf_25 : decode cX0_spareOf 25 = .ok (.aload_n 1, 1) := by decide +kernel
theorem dX0_spareOf_26 : decode cX0_spareOf 26 = .ok (.getfield 123, 3) := by decide +kernel
theorem dX0_spareOf_29 : decode cX0_spareOf 29 = .ok (.isub, 1) := by decide +kernel
theorem dX0_spareOf_30 : decode cX0_spareOf 30 = .ok (.iload_n 2, 1) := by decide +kernel
theorem dX0_spareOf_31 : decode cX0_spareOf 31 = .ok (.isub, 1) := by decide +kernel
theorem dX0_spareOf_32 : decode cX0_spareOf 32 = .ok (.invokestatic 244, 3) := by decide +kernel
theorem dX0_spareOf_35 : decode cX0_spareOf 35 = .ok (.ireturn, 1) := by decide +kernel
theorem dX0_reachOf_0 : decode cX0_reachOf 0 = .ok (.aload_n 1, 1) := by decide +kernel
theorem dX0_reachOf_1 : decode cX0_reachOf 1 = .ok (.getfield 103, 3) := by decide +kernel
theorem dX0_reachOf_4 : decode cX0_reachOf 4 = .ok (.ifCond .eq 5, 3) := by decide +kernel
theorem dX0_reachOf_7 : decode cX0_reachOf 7 = .ok (.iconst (-1), 1) := by decide +kernel
theorem dX0_reachOf_8 : decode cX0_reachOf 8 = .ok (.ireturn, 1) := by decide +kernel
theorem dX0_reachOf_9 : decode cX0_reachOf 9 = .ok (.aload_n 1, 1) := by decide +kernel
theorem dX0_reachOf_10 : decode cX0_reachOf 10 = .ok (.getfield 110, 3) := by decide +kernel
theorem dX0_reachOf_13 : decode cX0_reachOf 13 = .ok (.istore_n 2, 1) := by decide +kernel
theorem dX0_reachOf_14 : decode cX0_reachOf 14 = .ok (.iload_n 2, 1) := by decide +kernel
theorem dX0_reachOf_15 : decode cX0_reachOf 15 = .ok (.ifCond .eq 16, 3) := by decide +kernel
theorem dX0_reachOf_18 : decode cX0_reachOf 18 = .ok (.aload_n 0, 1) := by decide +kernel
theorem dX0_reachOf_19 : decode cX0_reachOf 19 = .ok (.getfield 49, 3) := by decide +kernel
theorem dX0_reachOf_22 : decode cX0_reachOf 22 = .ok (.iload_n 2, 1) := by decide +kernel
theorem dX0_reachOf_23 : decode cX0_reachOf 23 = .ok (.iadd, 1) := by decide +kernel
theorem dX0_reachOf_24 : decode cX0_reachOf 24 = .ok (.aload_n 0, 1) := by decide +kernel
theorem dX0_reachOf_25 : decode cX0_reachOf 25 = .ok (.getfield 59, 3) := by decide +kernel
theorem dX0_reachOf_28 : decode cX0_reachOf 28 = .ok (.if_icmp .gt 5, 3) := by decide +kernel
theorem dX0_reachOf_31 : decode cX0_reachOf 31 = .ok (.iload_n 2, 1) := by decide +kernel
theorem dX0_reachOf_32 : decode cX0_reachOf 32 = .ok (.ireturn, 1) := by decide +kernel
theorem dX0_reachOf_33 : decode cX0_reachOf 33 = .ok (.iconst 0, 1) := by decide +kernel
theorem dX0_reachOf_34 : decode cX0_reachOf 34 = .ok (.aload_n 0, 1) := by decide +kernel
theorem dX0_reachOf_35 : decode cX0_reachOf 35 = .ok (.getfield 62, 3) := by decide +kernel
theorem dX0_reachOf_38 : decode cX0_reachOf 38 = .ok (.aload_n 0, 1) := by decide +kernel
theorem dX0_reachOf_39 : decode cX0_reachOf 39 = .ok (.getfield 49, 3) := by decide +kernel
theorem dX0_reachOf_42 : decode cX0_reachOf 42 = .ok (.aload_n 0, 1) := by decide +kernel
theorem dX0_reachOf_43 : decode cX0_reachOf 43 = .ok (.getfield 59, 3) := by decide +kernel
theorem dX0_reachOf_46 : decode cX0_reachOf 46 = .ok (.invokestatic 244, 3) := by decide +kernel
theorem dX0_reachOf_49 : decode cX0_reachOf 49 = .ok (.isub, 1) := by decide +kernel
theorem dX0_reachOf_50 : decode cX0_reachOf 50 = .ok (.invokestatic 244, 3) := by decide +kernel
theorem dX0_reachOf_53 : decode cX0_reachOf 53 = .ok (.istore_n 3, 1) := by decide +kernel
theorem dX0_reachOf_54 : decode cX0_reachOf 54 = .ok (.iload_n 2, 1) := by decide +kernel
theorem dX0_reachOf_55 : decode cX0_reachOf 55 = .ok (.iload_n 3, 1) := by decide +kernel
theorem dX0_reachOf_56 : decode cX0_reachOf 56 = .ok (.iadd, 1) := by decide +kernel
theorem dX0_reachOf_57 : decode cX0_reachOf 57 = .ok (.istore 4, 2) := by decide +kernel
theorem dX0_reachOf_59 : decode cX0_reachOf 59 = .ok (.iload 4, 2) := by decide +kernel
theorem dX0_reachOf_61 : decode cX0_reachOf 61 = .ok (.sipush 1000, 3) := by decide +kernel
theorem dX0_reachOf_64 : decode cX0_reachOf 64 = .ok (.if_icmp .le 7, 3) := by decide +kernel
theorem dX0_reachOf_67 : decode cX0_reachOf 67 = .ok (.iconst (-1), 1) := by decide +kernel
theorem dX0_reachOf_68 : decode cX0_reachOf 68 = .ok (.goto 5, 3) := by decide +kernel
theorem dX0_reachOf_71 : decode cX0_reachOf 71 = .ok (.iload 4, 2) := by decide +kernel
theorem dX0_reachOf_73 : decode cX0_reachOf 73 = .ok (.ireturn, 1) := by decide +kernel
theorem dX0_sumOfTiredness_0 : decode cX0_sumOfTiredness 0 = .ok (.iconst 0, 1) := by decide +kernel
theorem dX0_sumOfTiredness_1 : decode cX0_sumOfTiredness 1 = .ok (.istore_n 1, 1) := by decide +kernel
theorem dX0_sumOfTiredness_2 : decode cX0_sumOfTiredness 2 = .ok (.iconst 0, 1) := by decide +kernel
theorem dX0_sumOfTiredness_3 : decode cX0_sumOfTiredness 3 = .ok (.istore_n 2, 1) := by decide +kernel
theorem dX0_sumOfTiredness_4 : decode cX0_sumOfTiredness 4 = .ok (.iload_n 2, 1) := by decide +kernel
theorem dX0_sumOfTiredness_5 : decode cX0_sumOfTiredness 5 = .ok (.aload_n 0, 1) := by decide +kernel
theorem dX0_sumOfTiredness_6 : decode cX0_sumOfTiredness 6 = .ok (.getfield 31, 3) := by decide +kernel
theorem dX0_sumOfTiredness_9 : decode cX0_sumOfTiredness 9 = .ok (.if_icmp .ge 21, 3) := by decide +kernel
theorem dX0_sumOfTiredness_12 : decode cX0_sumOfTiredness 12 = .ok (.iload_n 1, 1) := by decide +kernel
theorem dX0_sumOfTiredness_13 : decode cX0_sumOfTiredness 13 = .ok (.aload_n 0, 1) := by decide +kernel
theorem dX0_sumOfTiredness_14 : decode cX0_sumOfTiredness 14 = .ok (.getfield 27, 3) := by decide +kernel
theorem dX0_sumOfTiredness_17 : decode cX0_sumOfTiredness 17 = .ok (.iload_n 2, 1) := by decide +kernel
theorem dX0_sumOfTiredness_18 : decode cX0_sumOfTiredness 18 = .ok (.aaload, 1) := by decide +kernel
theorem dX0_sumOfTiredness_19 : decode cX0_sumOfTiredness 19 = .ok (.getfield 142, 3) := by decide +kernel
theorem dX0_sumOfTiredness_22 : decode cX0_sumOfTiredness 22 = .ok (.iadd, 1) := by decide +kernel
theorem dX0_sumOfTiredness_23 : decode cX0_sumOfTiredness 23 = .ok (.istore_n 1, 1) := by decide +kernel
theorem dX0_sumOfTiredness_24 : decode cX0_sumOfTiredness 24 = .ok (.iinc 2 1, 3) := by decide +kernel
theorem dX0_sumOfTiredness_27 : decode cX0_sumOfTiredness 27 = .ok (.goto (-23), 3) := by decide +kernel
theorem dX0_sumOfTiredness_30 : decode cX0_sumOfTiredness 30 = .ok (.iload_n 1, 1) := by decide +kernel
theorem dX0_sumOfTiredness_31 : decode cX0_sumOfTiredness 31 = .ok (.ireturn, 1) := by decide +kernel
theorem dX0_countOfBelow_0 : decode cX0_countOfBelow 0 = .ok (.iconst 0, 1) := by decide +kernel
theorem dX0_countOfBelow_1 : decode cX0_countOfBelow 1 = .ok (.istore_n 1, 1) := by decide +kernel
theorem dX0_countOfBelow_2 : decode cX0_countOfBelow 2 = .ok (.iconst 0, 1) := by decide +kernel
theorem dX0_countOfBelow_3 : decode cX0_countOfBelow 3 = .ok (.istore_n 2, 1) := by decide +kernel
theorem dX0_countOfBelow_4 : decode cX0_countOfBelow 4 = .ok (.iload_n 2, 1) := by decide +kernel
theorem dX0_countOfBelow_5 : decode cX0_countOfBelow 5 = .ok (.aload_n 0, 1) := by decide +kernel
theorem dX0_countOfBelow_6 : decode cX0_countOfBelow 6 = .ok (.getfield 31, 3) := by decide +kernel
theorem dX0_countOfBelow_9 : decode cX0_countOfBelow 9 = .ok (.if_icmp .ge 24, 3) := by decide +kernel
theorem dX0_countOfBelow_12 : decode cX0_countOfBelow 12 = .ok (.aload_n 0, 1) := by decide +kernel
theorem dX0_countOfBelow_13 : decode cX0_countOfBelow 13 = .ok (.getfield 27, 3) := by decide +kernel
theorem dX0_countOfBelow_16 : decode cX0_countOfBelow 16 = .ok (.iload_n 2, 1) := by decide +kernel
theorem dX0_countOfBelow_17 : decode cX0_countOfBelow 17 = .ok (.aaload, 1) := by decide +kernel
theorem dX0_countOfBelow_18 : decode cX0_countOfBelow 18 = .ok (.invokevirtual 247, 3) := by decide +kernel
theorem dX0_countOfBelow_21 : decode cX0_countOfBelow 21 = .ok (.ifCond .eq 6, 3) := by decide +kernel
theorem dX0_countOfBelow_24 : decode cX0_countOfBelow 24 = .ok (.iinc 1 1, 3) := by decide +kernel
theorem dX0_countOfBelow_27 : decode cX0_countOfBelow 27 = .ok (.iinc 2 1, 3) := by decide +kernel
theorem dX0_countOfBelow_30 : decode cX0_countOfBelow 30 = .ok (.goto (-26), 3) := by decide +kernel
theorem dX0_countOfBelow_33 : decode cX0_countOfBelow 33 = .ok (.iload_n 1, 1) := by decide +kernel
theorem dX0_countOfBelow_34 : decode cX0_countOfBelow 34 = .ok (.ireturn, 1) := by decide +kernel
theorem dX0_aboutPassage_0 : decode cX0_aboutPassage 0 = .ok (.iload_n 2, 1) := by decide +kernel
theorem dX0_aboutPassage_1 : decode cX0_aboutPassage 1 = .ok (.tableswitch 64 0 3 #[31, 40, 49, 58], 31) := by decide +kernel
theorem dX0_aboutPassage_32 : decode cX0_aboutPassage 32 = .ok (.aload_n 0, 1) := by decide +kernel
theorem dX0_aboutPassage_33 : decode cX0_aboutPassage 33 = .ok (.getfield 12, 3) := by decide +kernel
theorem dX0_aboutPassage_36 : decode cX0_aboutPassage 36 = .ok (.iload_n 1, 1) := by decide +kernel
theorem dX0_aboutPassage_37 : decode cX0_aboutPassage 37 = .ok (.invokevirtual 180, 3) := by decide +kernel
theorem dX0_aboutPassage_40 : decode cX0_aboutPassage 40 = .ok (.ireturn, 1) := by decide +kernel
theorem dX0_aboutPassage_41 : decode cX0_aboutPassage 41 = .ok (.aload_n 0, 1) := by decide +kernel
theorem dX0_aboutPassage_42 : decode cX0_aboutPassage 42 = .ok (.getfield 12, 3) := by decide +kernel
theorem dX0_aboutPassage_45 : decode cX0_aboutPassage 45 = .ok (.iload_n 1, 1) := by decide +kernel
theorem dX0_aboutPassage_46 : decode cX0_aboutPassage 46 = .ok (.invokevirtual 136, 3) := by decide +kernel
theorem dX0_aboutPassage_49 : decode cX0_aboutPassage 49 = .ok (.ireturn, 1) := by decide +kernel
theorem dX0_aboutPassage_50 : decode cX0_aboutPassage 50 = .ok (.aload_n 0, 1) := by decide +kernel
theorem dX0_aboutPassage_51 : decode cX0_aboutPassage 51 = .ok (.getfield 12, 3) := by decide +kernel
theorem dX0_aboutPassage_54 : decode cX0_aboutPassage 54 = .ok (.iload_n 1, 1) := by decide +kernel
theorem dX0_aboutPassage_55 : decode cX0_aboutPassage 55 = .ok (.invokevirtual 113, 3) := by decide +kernel
theorem dX0_aboutPassage_58 : decode cX0_aboutPassage 58 = .ok (.ireturn, 1) := by decide +kernel
theorem dX0_aboutPassage_59 : decode cX0_aboutPassage 59 = .ok (.aload_n 0, 1) := by decide +kernel
theorem dX0_aboutPassage_60 : decode cX0_aboutPassage 60 = .ok (.iload_n 1, 1) := by decide +kernel
theorem dX0_aboutPassage_61 : decode cX0_aboutPassage 61 = .ok (.invokevirtual 120, 3) := by decide +kernel
theorem dX0_aboutPassage_64 : decode cX0_aboutPassage 64 = .ok (.ireturn, 1) := by decide +kernel
theorem dX0_aboutPassage_65 : decode cX0_aboutPassage 65 = .ok (.aload_n 0, 1) := by decide +kernel
theorem dX0_aboutPassage_66 : decode cX0_aboutPassage 66 = .ok (.iload_n 1, 1) := by decide +kernel
theorem dX0_aboutPassage_67 : decode cX0_aboutPassage 67 = .ok (.invokevirtual 117, 3) := by decide +kernel
theorem dX0_aboutPassage_70 : decode cX0_aboutPassage 70 = .ok (.ireturn, 1) := by decide +kernel
theorem dX0_about_0 : decode cX0_about 0 = .ok (.iload_n 1, 1) := by decide +kernel
theorem dX0_about_1 : decode cX0_about 1 = .ok (.tableswitch 158 0 12 #[67, 75, 83, 88, 93, 98, 111, 116, 124, 132, 140, 148, 153], 67) := by decide +kernel
theorem dX0_about_68 : decode cX0_about 68 = .ok (.aload_n 0, 1) := by decide +kernel
theorem dX0_about_69 : decode cX0_about 69 = .ok (.getfield 12, 3) := by decide +kernel
theorem dX0_about_72 : decode cX0_about 72 = .ok (.getfield 132, 3) := by decide +kernel
theorem dX0_about_75 : decode cX0_about 75 = .ok (.ireturn, 1) := by decide +kernel
theorem dX0_about_76 : decode cX0_about 76 = .ok (.aload_n 0, 1) := by decide +kernel
theorem dX0_about_77 : decode cX0_about 77 = .ok (.getfield 21, 3) := by decide +kernel
theorem dX0_about_80 : decode cX0_about 80 = .ok (.getfield 73, 3) := by decide +kernel
theorem dX0_about_83 : decode cX0_about 83 = .ok (.ireturn, 1) := by decide +kernel
theorem dX0_about_84 : decode cX0_about 84 = .ok (.aload_n 0, 1) := by decide +kernel
theorem dX0_about_85 : decode cX0_about 85 = .ok (.getfield 31, 3) := by decide +kernel
theorem dX0_about_88 : decode cX0_about 88 = .ok (.ireturn, 1) := by decide +kernel
theorem dX0_about_89 : decode cX0_about 89 = .ok (.aload_n 0, 1) := by decide +kernel
theorem dX0_about_90 : decode cX0_about 90 = .ok (.getfield 49, 3) := by decide +kernel
theorem dX0_about_93 : decode cX0_about 93 = .ok (.ireturn, 1) := by decide +kernel
theorem dX0_about_94 : decode cX0_about 94 = .ok (.aload_n 0, 1) := by decide +kernel
theorem dX0_about_95 : decode cX0_about 95 = .ok (.getfield 52, 3) := by decide +kernel
theorem dX0_about_98 : decode cX0_about 98 = .ok (.ireturn, 1) := by decide +kernel
theorem dX0_about_99 : decode cX0_about 99 = .ok (.aload_n 0, 1) := by decide +kernel
theorem dX0_about_100 : decode cX0_about 100 = .ok (.getfield 55, 3) := by decide +kernel
theorem dX0_about_103 : decode cX0_about 103 = .ok (.ifCond .eq 7, 3) := by decide +kernel
theorem dX0_about_106 : decode cX0_about 106 = .ok (.iconst 1, 1) := by decide +kernel
theorem dX0_about_107 : decode cX0_about 107 = .ok (.goto 4, 3) := by decide +kernel
theorem dX0_about_110 : decode cX0_about 110 = .ok (.iconst 0, 1) := by decide +kernel
theorem dX0_about_111 : decode cX0_about 111 = .ok (.ireturn, 1) := by decide +kernel
theorem dX0_about_112 : decode cX0_about 112 = .ok (.aload_n 0, 1) := by decide +kernel
theorem dX0_about_113 : decode cX0_about 113 = .ok (.invokevirtual 250, 3) := by decide +kernel
theorem dX0_about_116 : decode cX0_about 116 = .ok (.ireturn, 1) := by decide +kernel
theorem dX0_about_117 : decode cX0_about 117 = .ok (.aload_n 0, 1) := by decide +kernel
theorem dX0_about_118 : decode cX0_about 118 = .ok (.getfield 38, 3) := by decide +kernel
theorem dX0_about_121 : decode cX0_about 121 = .ok (.getfield 76, 3) := by decide +kernel
theorem dX0_about_124 : decode cX0_about 124 = .ok (.ireturn, 1) := by decide +kernel
theorem dX0_about_125 : decode cX0_about 125 = .ok (.aload_n 0, 1) := by decide +kernel
theorem dX0_about_126 : decode cX0_about 126 = .ok (.getfield 38, 3) := by decide +kernel
theorem dX0_about_129 : decode cX0_about 129 = .ok (.getfield 77, 3) := by decide +kernel
theorem dX0_about_132 : decode cX0_about 132 = .ok (.ireturn, 1) := by decide +kernel
theorem dX0_about_133 : decode cX0_about 133 = .ok (.aload_n 0, 1) := by decide +kernel
theorem dX0_about_134 : decode cX0_about 134 = .ok (.getfield 45, 3) := by decide +kernel
theorem dX0_about_137 : decode cX0_about 137 = .ok (.getfield 83, 3) := by decide +kernel
theorem dX0_about_140 : decode cX0_about 140 = .ok (.ireturn, 1) := by decide +kernel
theorem dX0_about_141 : decode cX0_about 141 = .ok (.aload_n 0, 1) := by decide +kernel
theorem dX0_about_142 : decode cX0_about 142 = .ok (.getfield 12, 3) := by decide +kernel
theorem dX0_about_145 : decode cX0_about 145 = .ok (.invokevirtual 253, 3) := by decide +kernel
theorem dX0_about_148 : decode cX0_about 148 = .ok (.ireturn, 1) := by decide +kernel
theorem dX0_about_149 : decode cX0_about 149 = .ok (.aload_n 0, 1) := by decide +kernel
theorem dX0_about_150 : decode cX0_about 150 = .ok (.getfield 59, 3) := by decide +kernel
theorem dX0_about_153 : decode cX0_about 153 = .ok (.ireturn, 1) := by decide +kernel
theorem dX0_about_154 : decode cX0_about 154 = .ok (.aload_n 0, 1) := by decide +kernel
theorem dX0_about_155 : decode cX0_about 155 = .ok (.getfield 62, 3) := by decide +kernel
theorem dX0_about_158 : decode cX0_about 158 = .ok (.ireturn, 1) := by decide +kernel
theorem dX0_about_159 : decode cX0_about 159 = .ok (.aload_n 0, 1) := by decide +kernel
theorem dX0_about_160 : decode cX0_about 160 = .ok (.getfield 65, 3) := by decide +kernel
theorem dX0_about_163 : decode cX0_about 163 = .ok (.ireturn, 1) := by decide +kernel
theorem dX0_hash_0 : decode cX0_hash 0 = .ok (.iconst 0, 1) := by decide +kernel
theorem dX0_hash_1 : decode cX0_hash 1 = .ok (.istore_n 3, 1) := by decide +kernel
theorem dX0_hash_2 : decode cX0_hash 2 = .ok (.iload_n 3, 1) := by decide +kernel
theorem dX0_hash_3 : decode cX0_hash 3 = .ok (.bipush 13, 2) := by decide +kernel
theorem dX0_hash_5 : decode cX0_hash 5 = .ok (.if_icmp .gt 22, 3) := by decide +kernel
theorem dX0_hash_8 : decode cX0_hash 8 = .ok (.ldc2_w 256, 3) := by decide +kernel
theorem dX0_hash_11 : decode cX0_hash 11 = .ok (.lload_n 1, 1) := by decide +kernel
theorem dX0_hash_12 : decode cX0_hash 12 = .ok (.lmul, 1) := by decide +kernel
theorem dX0_hash_13 : decode cX0_hash 13 = .ok (.aload_n 0, 1) := by decide +kernel
theorem dX0_hash_14 : decode cX0_hash 14 = .ok (.iload_n 3, 1) := by decide +kernel
theorem dX0_hash_15 : decode cX0_hash 15 = .ok (.invokevirtual 258, 3) := by decide +kernel
theorem dX0_hash_18 : decode cX0_hash 18 = .ok (.i2l, 1) := by decide +kernel
theorem dX0_hash_19 : decode cX0_hash 19 = .ok (.ladd, 1) := by decide +kernel
theorem dX0_hash_20 : decode cX0_hash 20 = .ok (.lstore_n 1, 1) := by decide +kernel
theorem dX0_hash_21 : decode cX0_hash 21 = .ok (.iinc 3 1, 3) := by decide +kernel
theorem dX0_hash_24 : decode cX0_hash 24 = .ok (.goto (-22), 3) := by decide +kernel
theorem dX0_hash_27 : decode cX0_hash 27 = .ok (.iconst 0, 1) := by decide +kernel
theorem dX0_hash_28 : decode cX0_hash 28 = .ok (.istore_n 3, 1) := by decide +kernel
theorem dX0_hash_29 : decode cX0_hash 29 = .ok (.iload_n 3, 1) := by decide +kernel
theorem dX0_hash_30 : decode cX0_hash 30 = .ok (.aload_n 0, 1) := by decide +kernel
theorem dX0_hash_31 : decode cX0_hash 31 = .ok (.getfield 12, 3) := by decide +kernel
theorem dX0_hash_34 : decode cX0_hash 34 = .ok (.getfield 132, 3) := by decide +kernel
theorem dX0_hash_37 : decode cX0_hash 37 = .ok (.if_icmp .ge 39, 3) := by decide +kernel
theorem dX0_hash_40 : decode cX0_hash 40 = .ok (.iconst 0, 1) := by decide +kernel
theorem dX0_hash_41 : decode cX0_hash 41 = .ok (.istore 4, 2) := by decide +kernel
theorem dX0_hash_43 : decode cX0_hash 43 = .ok (.iload 4, 2) := by decide +kernel
theorem dX0_hash_45 : decode cX0_hash 45 = .ok (.iconst 4, 1) := by decide +kernel
theorem dX0_hash_46 : decode cX0_hash 46 = .ok (.if_icmp .gt 24, 3) := by decide +kernel
theorem dX0_hash_49 : decode cX0_hash 49 = .ok (.ldc2_w 256, 3) := by decide +kernel
theorem dX0_hash_52 : decode cX0_hash 52 = .ok (.lload_n 1, 1) := by decide +kernel
theorem dX0_hash_53 : decode cX0_hash 53 = .ok (.lmul, 1) := by decide +kernel
theorem dX0_hash_54 : decode cX0_hash 54 = .ok (.aload_n 0, 1) := by decide +kernel
theorem dX0_hash_55 : decode cX0_hash 55 = .ok (.iload_n 3, 1) := by decide +kernel
theorem dX0_hash_56 : decode cX0_hash 56 = .ok (.iload 4, 2) := by decide +kernel
theorem dX0_hash_58 : decode cX0_hash 58 = .ok (.invokevirtual 261, 3) := by decide +kernel
theorem dX0_hash_61 : decode cX0_hash 61 = .ok (.i2l, 1) := by decide +kernel
theorem dX0_hash_62 : decode cX0_hash 62 = .ok (.ladd, 1) := by decide +kernel
theorem dX0_hash_63 : decode cX0_hash 63 = .ok (.lstore_n 1, 1) := by decide +kernel
theorem dX0_hash_64 : decode cX0_hash 64 = .ok (.iinc 4 1, 3) := by decide +kernel
theorem dX0_hash_67 : decode cX0_hash 67 = .ok (.goto (-24), 3) := by decide +kernel
theorem dX0_hash_70 : decode cX0_hash 70 = .ok (.iinc 3 1, 3) := by decide +kernel
theorem dX0_hash_73 : decode cX0_hash 73 = .ok (.goto (-44), 3) := by decide +kernel
theorem dX0_hash_76 : decode cX0_hash 76 = .ok (.iconst 0, 1) := by decide +kernel
theorem dX0_hash_77 : decode cX0_hash 77 = .ok (.istore_n 3, 1) := by decide +kernel
theorem dX0_hash_78 : decode cX0_hash 78 = .ok (.iload_n 3, 1) := by decide +kernel
theorem dX0_hash_79 : decode cX0_hash 79 = .ok (.aload_n 0, 1) := by decide +kernel
theorem dX0_hash_80 : decode cX0_hash 80 = .ok (.getfield 21, 3) := by decide +kernel
theorem dX0_hash_83 : decode cX0_hash 83 = .ok (.getfield 73, 3) := by decide +kernel
theorem dX0_hash_86 : decode cX0_hash 86 = .ok (.if_icmp .ge 42, 3) := by decide +kernel
theorem dX0_hash_89 : decode cX0_hash 89 = .ok (.iconst 0, 1) := by decide +kernel
theorem dX0_hash_90 : decode cX0_hash 90 = .ok (.istore 4, 2) := by decide +kernel
theorem dX0_hash_92 : decode cX0_hash 92 = .ok (.iload 4, 2) := by decide +kernel
theorem dX0_hash_94 : decode cX0_hash 94 = .ok (.iconst 2, 1) := by decide +kernel
theorem dX0_hash_95 : decode cX0_hash 95 = .ok (.if_icmp .gt 27, 3) := by decide +kernel
theorem dX0_hash_98 : decode cX0_hash 98 = .ok (.ldc2_w 256, 3) := by decide +kernel
theorem dX0_hash_101 : decode cX0_hash 101 = .ok (.lload_n 1, 1) := by decide +kernel
theorem dX0_hash_102 : decode cX0_hash 102 = .ok (.lmul, 1) := by decide +kernel
theorem dX0_hash_103 : decode cX0_hash 103 = .ok (.aload_n 0, 1) := by decide +kernel
theorem dX0_hash_104 : decode cX0_hash 104 = .ok (.getfield 21, 3) := by decide +kernel
theorem dX0_hash_107 : decode cX0_hash 107 = .ok (.iload_n 3, 1) := by decide +kernel
theorem dX0_hash_108 : decode cX0_hash 108 = .ok (.iload 4, 2) := by decide +kernel
theorem dX0_hash_110 : decode cX0_hash 110 = .ok (.invokevirtual 264, 3) := by decide +kernel
theorem dX0_hash_113 : decode cX0_hash 113 = .ok (.i2l, 1) := by decide +kernel
theorem dX0_hash_114 : decode cX0_hash 114 = .ok (.ladd, 1) := by decide +kernel
theorem dX0_hash_115 : decode cX0_hash 115 = .ok (.lstore_n 1, 1) := by decide +kernel
theorem dX0_hash_116 : decode cX0_hash 116 = .ok (.iinc 4 1, 3) := by decide +kernel
theorem dX0_hash_119 : decode cX0_hash 119 = .ok (.goto (-27), 3) := by decide +kernel
theorem dX0_hash_122 : decode cX0_hash 122 = .ok (.iinc 3 1, 3) := by decide +kernel
theorem dX0_hash_125 : decode cX0_hash 125 = .ok (.goto (-47), 3) := by decide +kernel
theorem dX0_hash_128 : decode cX0_hash 128 = .ok (.iconst 0, 1) := by decide +kernel
theorem dX0_hash_129 : decode cX0_hash 129 = .ok (.istore_n 3, 1) := by decide +kernel
theorem dX0_hash_130 : decode cX0_hash 130 = .ok (.iload_n 3, 1) := by decide +kernel
theorem dX0_hash_131 : decode cX0_hash 131 = .ok (.aload_n 0, 1) := by decide +kernel
theorem dX0_hash_132 : decode cX0_hash 132 = .ok (.getfield 31, 3) := by decide +kernel
theorem dX0_hash_135 : decode cX0_hash 135 = .ok (.if_icmp .ge 44, 3) := by decide +kernel
theorem dX0_hash_138 : decode cX0_hash 138 = .ok (.iconst 0, 1) := by decide +kernel
theorem dX0_hash_139 : decode cX0_hash 139 = .ok (.istore 4, 2) := by decide +kernel
theorem dX0_hash_141 : decode cX0_hash 141 = .ok (.iload 4, 2) := by decide +kernel
theorem dX0_hash_143 : decode cX0_hash 143 = .ok (.bipush 8, 2) := by decide +kernel
theorem dX0_hash_145 : decode cX0_hash 145 = .ok (.if_icmp .gt 28, 3) := by decide +kernel
theorem dX0_hash_148 : decode cX0_hash 148 = .ok (.ldc2_w 256, 3) := by decide +kernel
theorem dX0_hash_151 : decode cX0_hash 151 = .ok (.lload_n 1, 1) := by decide +kernel
theorem dX0_hash_152 : decode cX0_hash 152 = .ok (.lmul, 1) := by decide +kernel
theorem dX0_hash_153 : decode cX0_hash 153 = .ok (.aload_n 0, 1) := by decide +kernel
theorem dX0_hash_154 : decode cX0_hash 154 = .ok (.getfield 27, 3) := by decide +kernel
theorem dX0_hash_157 : decode cX0_hash 157 = .ok (.iload_n 3, 1) := by decide +kernel
theorem dX0_hash_158 : decode cX0_hash 158 = .ok (.aaload, 1) := by decide +kernel
theorem dX0_hash_159 : decode cX0_hash 159 = .ok (.iload 4, 2) := by decide +kernel
theorem dX0_hash_161 : decode cX0_hash 161 = .ok (.invokevirtual 266, 3) := by decide +kernel
theorem dX0_hash_164 : decode cX0_hash 164 = .ok (.i2l, 1) := by decide +kernel
theorem dX0_hash_165 : decode cX0_hash 165 = .ok (.ladd, 1) := by decide +kernel
theorem dX0_hash_166 : decode cX0_hash 166 = .ok (.lstore_n 1, 1) := by decide +kernel
theorem dX0_hash_167 : decode cX0_hash 167 = .ok (.iinc 4 1, 3) := by decide +kernel
theorem dX0_hash_170 : decode cX0_hash 170 = .ok (.goto (-29), 3) := by decide +kernel
theorem dX0_hash_173 : decode cX0_hash 173 = .ok (.iinc 3 1, 3) := by decide +kernel
theorem dX0_hash_176 : decode cX0_hash 176 = .ok (.goto (-46), 3) := by decide +kernel
theorem dX0_hash_179 : decode cX0_hash 179 = .ok (.iconst 0, 1) := by decide +kernel
theorem dX0_hash_180 : decode cX0_hash 180 = .ok (.istore_n 3, 1) := by decide +kernel
theorem dX0_hash_181 : decode cX0_hash 181 = .ok (.iload_n 3, 1) := by decide +kernel
theorem dX0_hash_182 : decode cX0_hash 182 = .ok (.aload_n 0, 1) := by decide +kernel
theorem dX0_hash_183 : decode cX0_hash 183 = .ok (.getfield 38, 3) := by decide +kernel
theorem dX0_hash_186 : decode cX0_hash 186 = .ok (.getfield 76, 3) := by decide +kernel
theorem dX0_hash_189 : decode cX0_hash 189 = .ok (.if_icmp .ge 42, 3) := by decide +kernel
theorem dX0_hash_192 : decode cX0_hash 192 = .ok (.iconst 0, 1) := by decide +kernel
theorem dX0_hash_193 : decode cX0_hash 193 = .ok (.istore 4, 2) := by decide +kernel
theorem dX0_hash_195 : decode cX0_hash 195 = .ok (.iload 4, 2) := by decide +kernel
theorem dX0_hash_197 : decode cX0_hash 197 = .ok (.iconst 2, 1) := by decide +kernel
theorem dX0_hash_198 : decode cX0_hash 198 = .ok (.if_icmp .gt 27, 3) := by decide +kernel
theorem dX0_hash_201 : decode cX0_hash 201 = .ok (.ldc2_w 256, 3) := by decide +kernel
theorem dX0_hash_204 : decode cX0_hash 204 = .ok (.lload_n 1, 1) := by decide +kernel
theorem dX0_hash_205 : decode cX0_hash 205 = .ok (.lmul, 1) := by decide +kernel
theorem dX0_hash_206 : decode cX0_hash 206 = .ok (.aload_n 0, 1) := by decide +kernel
theorem dX0_hash_207 : decode cX0_hash 207 = .ok (.getfield 38, 3) := by decide +kernel
theorem dX0_hash_210 : decode cX0_hash 210 = .ok (.iload_n 3, 1) := by decide +kernel
theorem dX0_hash_211 : decode cX0_hash 211 = .ok (.iload 4, 2) := by decide +kernel
theorem dX0_hash_213 : decode cX0_hash 213 = .ok (.invokevirtual 267, 3) := by decide +kernel
theorem dX0_hash_216 : decode cX0_hash 216 = .ok (.i2l, 1) := by decide +kernel
theorem dX0_hash_217 : decode cX0_hash 217 = .ok (.ladd, 1) := by decide +kernel
theorem dX0_hash_218 : decode cX0_hash 218 = .ok (.lstore_n 1, 1) := by decide +kernel
theorem dX0_hash_219 : decode cX0_hash 219 = .ok (.iinc 4 1, 3) := by decide +kernel
theorem dX0_hash_222 : decode cX0_hash 222 = .ok (.goto (-27), 3) := by decide +kernel
theorem dX0_hash_225 : decode cX0_hash 225 = .ok (.iinc 3 1, 3) := by decide +kernel
theorem dX0_hash_228 : decode cX0_hash 228 = .ok (.goto (-47), 3) := by decide +kernel
theorem dX0_hash_231 : decode cX0_hash 231 = .ok (.iconst 0, 1) := by decide +kernel
theorem dX0_hash_232 : decode cX0_hash 232 = .ok (.istore_n 3, 1) := by decide +kernel
theorem dX0_hash_233 : decode cX0_hash 233 = .ok (.iload_n 3, 1) := by decide +kernel
theorem dX0_hash_234 : decode cX0_hash 234 = .ok (.aload_n 0, 1) := by decide +kernel
theorem dX0_hash_235 : decode cX0_hash 235 = .ok (.getfield 45, 3) := by decide +kernel
theorem dX0_hash_238 : decode cX0_hash 238 = .ok (.getfield 80, 3) := by decide +kernel
theorem dX0_hash_241 : decode cX0_hash 241 = .ok (.if_icmp .ge 42, 3) := by decide +kernel
theorem dX0_hash_244 : decode cX0_hash 244 = .ok (.iconst 0, 1) := by decide +kernel
theorem dX0_hash_245 : decode cX0_hash 245 = .ok (.istore 4, 2) := by decide +kernel
theorem dX0_hash_247 : decode cX0_hash 247 = .ok (.iload 4, 2) := by decide +kernel
theorem dX0_hash_249 : decode cX0_hash 249 = .ok (.iconst 2, 1) := by decide +kernel
theorem dX0_hash_250 : decode cX0_hash 250 = .ok (.if_icmp .gt 27, 3) := by decide +kernel
theorem dX0_hash_253 : decode cX0_hash 253 = .ok (.ldc2_w 256, 3) := by decide +kernel
theorem dX0_hash_256 : decode cX0_hash 256 = .ok (.lload_n 1, 1) := by decide +kernel
theorem dX0_hash_257 : decode cX0_hash 257 = .ok (.lmul, 1) := by decide +kernel
theorem dX0_hash_258 : decode cX0_hash 258 = .ok (.aload_n 0, 1) := by decide +kernel
theorem dX0_hash_259 : decode cX0_hash 259 = .ok (.getfield 45, 3) := by decide +kernel
theorem dX0_hash_262 : decode cX0_hash 262 = .ok (.iload_n 3, 1) := by decide +kernel
theorem dX0_hash_263 : decode cX0_hash 263 = .ok (.iload 4, 2) := by decide +kernel
theorem dX0_hash_265 : decode cX0_hash 265 = .ok (.invokevirtual 268, 3) := by decide +kernel
theorem dX0_hash_268 : decode cX0_hash 268 = .ok (.i2l, 1) := by decide +kernel
theorem dX0_hash_269 : decode cX0_hash 269 = .ok (.ladd, 1) := by decide +kernel
theorem dX0_hash_270 : decode cX0_hash 270 = .ok (.lstore_n 1, 1) := by decide +kernel
theorem dX0_hash_271 : decode cX0_hash 271 = .ok (.iinc 4 1, 3) := by decide +kernel
theorem dX0_hash_274 : decode cX0_hash 274 = .ok (.goto (-27), 3) := by decide +kernel
theorem dX0_hash_277 : decode cX0_hash 277 = .ok (.iinc 3 1, 3) := by decide +kernel
theorem dX0_hash_280 : decode cX0_hash 280 = .ok (.goto (-47), 3) := by decide +kernel
theorem dX0_hash_283 : decode cX0_hash 283 = .ok (.lload_n 1, 1) := by decide +kernel
theorem dX0_hash_284 : decode cX0_hash 284 = .ok (.lreturn, 1) := by decide +kernel
end
section
theorem dX1_init_0 : decode cX1_init 0 = .ok (.aload_n 0, 1) := by decide +kernel
theorem dX1_init_1 : decode cX1_init 1 = .ok (.invokespecial 3, 3) := by decide +kernel
theorem dX1_init_4 : decode cX1_init 4 = .ok (.aload_n 0, 1) := by decide +kernel
theorem dX1_init_5 : decode cX1_init 5 = .ok (.iconst 0, 1) := by decide +kernel
theorem dX1_init_6 : decode cX1_init 6 = .ok (.putfield 9, 3) := by decide +kernel
theorem dX1_init_9 : decode cX1_init 9 = .ok (.aload_n 0, 1) := by decide +kernel
theorem dX1_init_10 : decode cX1_init 10 = .ok (.iconst 0, 1) := by decide +kernel
theorem dX1_init_11 : decode cX1_init 11 = .ok (.putfield 15, 3) := by decide +kernel
theorem dX1_init_14 : decode cX1_init 14 = .ok (.aload_n 0, 1) := by decide +kernel
theorem dX1_init_15 : decode cX1_init 15 = .ok (.iconst 0, 1) := by decide +kernel
theorem dX1_init_16 : decode cX1_init 16 = .ok (.putfield 18, 3) := by decide +kernel
theorem dX1_init_19 : decode cX1_init 19 = .ok (.aload_n 0, 1) := by decide +kernel
theorem dX1_init_20 : decode cX1_init 20 = .ok (.iconst (-1), 1) := by decide +kernel
theorem dX1_init_21 : decode cX1_init 21 = .ok (.putfield 21, 3) := by decide +kernel
theorem dX1_init_24 : decode cX1_init 24 = .ok (.aload_n 0, 1) := by decide +kernel
theorem dX1_init_25 : decode cX1_init 25 = .ok (.iconst 0, 1) := by decide +kernel
theorem dX1_init_26 : decode cX1_init 26 = .ok (.putfield 24, 3) := by decide +kernel
theorem dX1_init_29 : decode cX1_init 29 = .ok (.aload_n 0, 1) := by decide +kernel
theorem dX1_init_30 : decode cX1_init 30 = .ok (.iconst (-1), 1) := by decide +kernel
theorem dX1_init_31 : decode cX1_init 31 = .ok (.putfield 27, 3) := by decide +kernel
theorem dX1_init_34 : decode cX1_init 34 = .ok (.aload_n 0, 1) := by decide +kernel
theorem dX1_init_35 : decode cX1_init 35 = .ok (.iconst 0, 1) := by decide +kernel
theorem dX1_init_36 : decode cX1_init 36 = .ok (.putfield 30, 3) := by decide +kernel
theorem dX1_init_39 : decode cX1_init 39 = .ok (.aload_n 0, 1) := by decide +kernel
theorem dX1_init_40 : decode cX1_init 40 = .ok (.iconst 0, 1) := by decide +kernel
theorem dX1_init_41 : decode cX1_init 41 = .ok (.putfield 33, 3) := by decide +kernel
theorem dX1_init_44 : decode cX1_init 44 = .ok (.aload_n 0, 1) := by decide +kernel
theorem dX1_init_45 : decode cX1_init 45 = .ok (.iconst 0, 1) := by decide +kernel
theorem dX1_init_46 : decode cX1_init 46 = .ok (.putfield 36, 3) := by decide +kernel
theorem dX1_init_49 : decode cX1_init 49 = .ok (.return_, 1) := by decide +kernel
theorem dX1_startAnew_0 : decode cX1_startAnew 0 = .ok (.aload_n 0, 1) := by decide +kernel
theorem dX1_startAnew_1 : decode cX1_startAnew 1 = .ok (.iload_n 1, 1) := by decide +kernel
theorem dX1_startAnew_2 : decode cX1_startAnew 2 = .ok (.putfield 9, 3) := by decide +kernel
theorem dX1_startAnew_5 : decode cX1_startAnew 5 = .ok (.aload_n 0, 1) := by decide +kernel
theorem dX1_startAnew_6 : decode cX1_startAnew 6 = .ok (.iconst 0, 1) := by decide +kernel
theorem dX1_startAnew_7 : decode cX1_startAnew 7 = .ok (.putfield 15, 3) := by decide +kernel
theorem dX1_startAnew_10 : decode cX1_startAnew 10 = .ok (.aload_n 0, 1) := by decide +kernel
theorem dX1_startAnew_11 : decode cX1_startAnew 11 = .ok (.iconst 0, 1) := by decide +kernel
theorem dX1_startAnew_12 : decode cX1_startAnew 12 = .ok (.putfield 18, 3) := by decide +kernel
theorem dX1_startAnew_15 : decode cX1_startAnew 15 = .ok (.aload_n 0, 1) := by decide +kernel
theorem dX1_startAnew_16 : decode cX1_startAnew 16 = .ok (.iconst (-1), 1) := by decide +kernel
theorem dX1_startAnew_17 : decode cX1_startAnew 17 = .ok (.putfield 21, 3) := by decide +kernel
theorem dX1_startAnew_20 : decode cX1_startAnew 20 = .ok (.aload_n 0, 1) := by decide +kernel
theorem dX1_startAnew_21 : decode cX1_startAnew 21 = .ok (.iconst 0, 1) := by decide +kernel
theorem dX1_startAnew_22 : decode cX1_startAnew 22 = .ok (.putfield 24, 3) := by decide +kernel
theorem dX1_startAnew_25 : decode cX1_startAnew 25 = .ok (.aload_n 0, 1) := by decide +kernel
theorem dX1_startAnew_26 : decode cX1_startAnew 26 = .ok (.iconst (-1), 1) := by decide +kernel
theorem dX1_startAnew_27 : decode cX1_startAnew 27 = .ok (.putfield 27, 3) := by decide +kernel
theorem dX1_startAnew_30 : decode cX1_startAnew 30 = .ok (.aload_n 0, 1) := by decide +kernel
theorem dX1_startAnew_31 : decode cX1_startAnew 31 = .ok (.iconst 0, 1) := by decide +kernel
theorem dX1_startAnew_32 : decode cX1_startAnew 32 = .ok (.putfield 30, 3) := by decide +kernel
theorem dX1_startAnew_35 : decode cX1_startAnew 35 = .ok (.aload_n 0, 1) := by decide +kernel
theorem dX1_startAnew_36 : decode cX1_startAnew 36 = .ok (.iconst 0, 1) := by decide +kernel
theorem dX1_startAnew_37 : decode cX1_startAnew 37 = .ok (.putfield 33, 3) := by decide +kernel
theorem dX1_startAnew_40 : decode cX1_startAnew 40 = .ok (.aload_n 0, 1) := by decide +kernel
theorem dX1_startAnew_41 : decode cX1_startAnew 41 = .ok (.iconst 0, 1) := by decide +kernel
theorem dX1_startAnew_42 : decode cX1_startAnew 42 = .ok (.putfield 36, 3) := by decide +kernel
theorem dX1_startAnew_45 : decode cX1_startAnew 45 = .ok (.return_, 1) := by decide +kernel
theorem dX1_copyFrom_0 : decode cX1_copyFrom 0 = .ok (.aload_n 0, 1) := by decide +kernel
theorem dX1_copyFrom_1 : decode cX1_copyFrom 1 = .ok (.aload_n 1, 1) := by decide +kernel
theorem dX1_copyFrom_2 : decode cX1_copyFrom 2 = .ok (.getfield 9, 3) := by decide +kernel
theorem dX1_copyFrom_5 : decode cX1_copyFrom 5 = .ok (.putfield 9, 3) := by decide +kernel
theorem dX1_copyFrom_8 : decode cX1_copyFrom 8 = .ok (.aload_n 0, 1) := by decide +kernel
theorem dX1_copyFrom_9 : decode cX1_copyFrom 9 = .ok (.aload_n 1, 1) := by decide +kernel
theorem dX1_copyFrom_10 : decode cX1_copyFrom 10 = .ok (.getfield 15, 3) := by decide +kernel
theorem dX1_copyFrom_13 : decode cX1_copyFrom 13 = .ok (.putfield 15, 3) := by decide +kernel
theorem dX1_copyFrom_16 : decode cX1_copyFrom 16 = .ok (.aload_n 0, 1) := by decide +kernel
theorem dX1_copyFrom_17 : decode cX1_copyFrom 17 = .ok (.aload_n 1, 1) := by decide +kernel
theorem dX1_copyFrom_18 : decode cX1_copyFrom 18 = .ok (.getfield 18, 3) := by decide +kernel
theorem dX1_copyFrom_21 : decode cX1_copyFrom 21 = .ok (.putfield 18, 3) := by decide +kernel
theorem dX1_copyFrom_24 : decode cX1_copyFrom 24 = .ok (.aload_n 0, 1) := by decide +kernel
theorem dX1_copyFrom_25 : decode cX1_copyFrom 25 = .ok (.aload_n 1, 1) := by decide +kernel
theorem dX1_copyFrom_26 : decode cX1_copyFrom 26 = .ok (.getfield 21, 3) := by decide +kernel
theorem dX1_copyFrom_29 : decode cX1_copyFrom 29 = .ok (.putfield 21, 3) := by decide +kernel
theorem dX1_copyFrom_32 : decode cX1_copyFrom 32 = .ok (.aload_n 0, 1) := by decide +kernel
theorem dX1_copyFrom_33 : decode cX1_copyFrom 33 = .ok (.aload_n 1, 1) := by decide +kernel
theorem dX1_copyFrom_34 : decode cX1_copyFrom 34 = .ok (.getfield 24, 3) := by decide +kernel
theorem dX1_copyFrom_37 : decode cX1_copyFrom 37 = .ok (.putfield 24, 3) := by decide +kernel
theorem dX1_copyFrom_40 : decode cX1_copyFrom 40 = .ok (.aload_n 0, 1) := by decide +kernel
theorem dX1_copyFrom_41 : decode cX1_copyFrom 41 = .ok (.aload_n 1, 1) := by decide +kernel
theorem dX1_copyFrom_42 : decode cX1_copyFrom 42 = .ok (.getfield 27, 3) := by decide +kernel
theorem dX1_copyFrom_45 : decode cX1_copyFrom 45 = .ok (.putfield 27, 3) := by decide +kernel
theorem dX1_copyFrom_48 : decode cX1_copyFrom 48 = .ok (.aload_n 0, 1) := by decide +kernel
theorem dX1_copyFrom_49 : decode cX1_copyFrom 49 = .ok (.aload_n 1, 1) := by decide +kernel
theorem dX1_copyFrom_50 : decode cX1_copyFrom 50 = .ok (.getfield 30, 3) := by decide +kernel
theorem dX1_copyFrom_53 : decode cX1_copyFrom 53 = .ok (.putfield 30, 3) := by decide +kernel
theorem dX1_copyFrom_56 : decode cX1_copyFrom 56 = .ok (.aload_n 0, 1) := by decide +kernel
theorem dX1_copyFrom_57 : decode cX1_copyFrom 57 = .ok (.aload_n 1, 1) := by decide +kernel
theorem dX1_copyFrom_58 : decode cX1_copyFrom 58 = .ok (.getfield 33, 3) := by decide +kernel
theorem dX1_copyFrom_61 : decode cX1_copyFrom 61 = .ok (.putfield 33, 3) := by decide +kernel
theorem dX1_copyFrom_64 : decode cX1_copyFrom 64 = .ok (.aload_n 0, 1) := by decide +kernel
theorem dX1_copyFrom_65 : decode cX1_copyFrom 65 = .ok (.aload_n 1, 1) := by decide +kernel
theorem dX1_copyFrom_66 : decode cX1_copyFrom 66 = .ok (.getfield 36, 3) := by decide +kernel
theorem dX1_copyFrom_69 : decode cX1_copyFrom 69 = .ok (.putfield 36, 3) := by decide +kernel
theorem dX1_copyFrom_72 : decode cX1_copyFrom 72 = .ok (.return_, 1) := by decide +kernel
theorem dX1_walkTo_0 : decode cX1_walkTo 0 = .ok (.aload_n 0, 1) := by decide +kernel
theorem dX1_walkTo_1 : decode cX1_walkTo 1 = .ok (.iconst 1, 1) := by decide +kernel
theorem dX1_walkTo_2 : decode cX1_walkTo 2 = .ok (.putfield 18, 3) := by decide +kernel
theorem dX1_walkTo_5 : decode cX1_walkTo 5 = .ok (.aload_n 0, 1) := by decide +kernel
theorem dX1_walkTo_6 : decode cX1_walkTo 6 = .ok (.iload_n 1, 1) := by decide +kernel
theorem dX1_walkTo_7 : decode cX1_walkTo 7 = .ok (.putfield 21, 3) := by decide +kernel
theorem dX1_walkTo_10 : decode cX1_walkTo 10 = .ok (.aload_n 0, 1) := by decide +kernel
theorem dX1_walkTo_11 : decode cX1_walkTo 11 = .ok (.iload_n 2, 1) := by decide +kernel
theorem dX1_walkTo_12 : decode cX1_walkTo 12 = .ok (.putfield 24, 3) := by decide +kernel
theorem dX1_walkTo_15 : decode cX1_walkTo 15 = .ok (.return_, 1) := by decide +kernel
theorem dX1_arrive_0 : decode cX1_arrive 0 = .ok (.aload_n 0, 1) := by decide +kernel
theorem dX1_arrive_1 : decode cX1_arrive 1 = .ok (.aload_n 0, 1) := by decide +kernel
theorem dX1_arrive_2 : decode cX1_arrive 2 = .ok (.getfield 21, 3) := by decide +kernel
theorem dX1_arrive_5 : decode cX1_arrive 5 = .ok (.putfield 15, 3) := by decide +kernel
theorem dX1_arrive_8 : decode cX1_arrive 8 = .ok (.aload_n 0, 1) := by decide +kernel
theorem dX1_arrive_9 : decode cX1_arrive 9 = .ok (.iconst (-1), 1) := by decide +kernel
theorem dX1_arrive_10 : decode cX1_arrive 10 = .ok (.putfield 21, 3) := by decide +kernel
theorem dX1_arrive_13 : decode cX1_arrive 13 = .ok (.aload_n 0, 1) := by decide +kernel
theorem dX1_arrive_14 : decode cX1_arrive 14 = .ok (.iconst 0, 1) := by decide +kernel
theorem dX1_arrive_15 : decode cX1_arrive 15 = .ok (.putfield 18, 3) := by decide +kernel
theorem dX1_arrive_18 : decode cX1_arrive 18 = .ok (.return_, 1) := by decide +kernel
theorem dX1_walksThrough_0 : decode cX1_walksThrough 0 = .ok (.aload_n 0, 1) := by decide +kernel
theorem dX1_walksThrough_1 : decode cX1_walksThrough 1 = .ok (.getfield 18, 3) := by decide +kernel
theorem dX1_walksThrough_4 : decode cX1_walksThrough 4 = .ok (.iconst 1, 1) := by decide +kernel
theorem dX1_walksThrough_5 : decode cX1_walksThrough 5 = .ok (.if_icmp .ne 22, 3) := by decide +kernel
theorem dX1_walksThrough_8 : decode cX1_walksThrough 8 = .ok (.aload_n 0, 1) := by decide +kernel
theorem dX1_walksThrough_9 : decode cX1_walksThrough 9 = .ok (.getfield 15, 3) := by decide +kernel
theorem dX1_walksThrough_12 : decode cX1_walksThrough 12 = .ok (.aload_n 0, 1) := by decide +kernel
theorem dX1_walksThrough_13 : decode cX1_walksThrough 13 = .ok (.getfield 21, 3) := by decide +kernel
theorem dX1_walksThrough_16 : decode cX1_walksThrough 16 = .ok (.invokestatic 40, 3) := by decide +kernel
theorem dX1_walksThrough_19 : decode cX1_walksThrough 19 = .ok (.iload_n 1, 1) := by decide +kernel
theorem dX1_walksThrough_20 : decode cX1_walksThrough 20 = .ok (.if_icmp .ne 7, 3) := by decide +kernel
theorem dX1_walksThrough_23 : decode cX1_walksThrough 23 = .ok (.iconst 1, 1) := by decide +kernel
theorem dX1_walksThrough_24 : decode cX1_walksThrough 24 = .ok (.goto 4, 3) := by decide +kernel
theorem dX1_walksThrough_27 : decode cX1_walksThrough 27 = .ok (.iconst 0, 1) := by decide +kernel
theorem dX1_walksThrough_28 : decode cX1_walksThrough 28 = .ok (.ireturn, 1) := by decide +kernel
theorem dX1_isBelow_0 : decode cX1_isBelow 0 = .ok (.aload_n 0, 1) := by decide +kernel
theorem dX1_isBelow_1 : decode cX1_isBelow 1 = .ok (.getfield 18, 3) := by decide +kernel
theorem dX1_isBelow_4 : decode cX1_isBelow 4 = .ok (.iconst 1, 1) := by decide +kernel
theorem dX1_isBelow_5 : decode cX1_isBelow 5 = .ok (.if_icmp .eq 10, 3) := by decide +kernel
theorem dX1_isBelow_8 : decode cX1_isBelow 8 = .ok (.aload_n 0, 1) := by decide +kernel
theorem dX1_isBelow_9 : decode cX1_isBelow 9 = .ok (.getfield 15, 3) := by decide +kernel
theorem dX1_isBelow_12 : decode cX1_isBelow 12 = .ok (.ifCond .eq 7, 3) := by decide +kernel
theorem dX1_isBelow_15 : decode cX1_isBelow 15 = .ok (.iconst 1, 1) := by decide +kernel
theorem dX1_isBelow_16 : decode cX1_isBelow 16 = .ok (.goto 4, 3) := by decide +kernel
theorem dX1_isBelow_19 : decode cX1_isBelow 19 = .ok (.iconst 0, 1) := by decide +kernel
theorem dX1_isBelow_20 : decode cX1_isBelow 20 = .ok (.ireturn, 1) := by decide +kernel
theorem dX1_countBelow_0 : decode cX1_countBelow 0 = .ok (.aload_n 0, 1) := by decide +kernel
theorem dX1_countBelow_1 : decode cX1_countBelow 1 = .ok (.aload_n 0, 1) := by decide +kernel
theorem dX1_countBelow_2 : decode cX1_countBelow 2 = .ok (.invokevirtual 46, 3) := by decide +kernel
theorem dX1_countBelow_5 : decode cX1_countBelow 5 = .ok (.ifCond .eq 12, 3) := by decide +kernel
theorem dX1_countBelow_8 : decode cX1_countBelow 8 = .ok (.aload_n 0, 1) := by decide +kernel
theorem dX1_countBelow_9 : decode cX1_countBelow 9 = .ok (.getfield 33, 3) := by decide +kernel
theorem dX1_countBelow_12 : decode cX1_countBelow 12 = .ok (.iconst 1, 1) := by decide +kernel
theorem dX1_countBelow_13 : decode cX1_countBelow 13 = .ok (.iadd, 1) := by decide +kernel
theorem dX1_countBelow_14 : decode cX1_countBelow 14 = .ok (.goto 4, 3) := by decide +kernel
theorem dX1_countBelow_17 : decode cX1_countBelow 17 = .ok (.iconst 0, 1) := by decide +kernel
theorem dX1_countBelow_18 : decode cX1_countBelow 18 = .ok (.putfield 33, 3) := by decide +kernel
theorem dX1_countBelow_21 : decode cX1_countBelow 21 = .ok (.aload_n 0, 1) := by decide +kernel
theorem dX1_countBelow_22 : decode cX1_countBelow 22 = .ok (.getfield 33, 3) := by decide +kernel
theorem dX1_countBelow_25 : decode cX1_countBelow 25 = .ok (.aload_n 0, 1) := by decide +kernel
theorem dX1_countBelow_26 : decode cX1_countBelow 26 = .ok (.getfield 9, 3) := by decide +kernel
theorem dX1_countBelow_29 : decode cX1_countBelow 29 = .ok (.if_icmp .le 7, 3) := by decide +kernel
theorem dX1_countBelow_32 : decode cX1_countBelow 32 = .ok (.iconst 1, 1) := by decide +kernel
theorem dX1_countBelow_33 : decode cX1_countBelow 33 = .ok (.goto 4, 3) := by decide +kernel
theorem dX1_countBelow_36 : decode cX1_countBelow 36 = .ok (.iconst 0, 1) := by decide +kernel
theorem dX1_countBelow_37 : decode cX1_countBelow 37 = .ok (.ireturn, 1) := by decide +kernel
theorem dX1_about_0 : decode cX1_about 0 = .ok (.iload_n 1, 1) := by decide +kernel
theorem dX1_about_1 : decode cX1_about 1 = .ok (.tableswitch 87 0 7 #[47, 52, 57, 62, 67, 72, 77, 82], 47) := by decide +kernel
theorem dX1_about_48 : decode cX1_about 48 = .ok (.aload_n 0, 1) := by decide +kernel
theorem dX1_about_49 : decode cX1_about 49 = .ok (.getfield 9, 3) := by decide +kernel
theorem dX1_about_52 : decode cX1_about 52 = .ok (.ireturn, 1) := by decide +kernel
theorem dX1_about_53 : decode cX1_about 53 = .ok (.aload_n 0, 1) := by decide +kernel
theorem dX1_about_54 : decode cX1_about 54 = .ok (.getfield 15, 3) := by decide +kernel
theorem dX1_about_57 : decode cX1_about 57 = .ok (.ireturn, 1) := by decide +kernel
theorem dX1_about_58 : decode cX1_about 58 = .ok (.aload_n 0, 1) := by decide +kernel
theorem dX1_about_59 : decode cX1_about 59 = .ok (.getfield 18, 3) := by decide +kernel
theorem dX1_about_62 : decode cX1_about 62 = .ok (.ireturn, 1) := by decide +kernel
theorem dX1_about_63 : decode cX1_about 63 = .ok (.aload_n 0, 1) := by decide +kernel
theorem dX1_about_64 : decode cX1_about 64 = .ok (.getfield 21, 3) := by decide +kernel
theorem dX1_about_67 : decode cX1_about 67 = .ok (.ireturn, 1) := by decide +kernel
theorem dX1_about_68 : decode cX1_about 68 = .ok (.aload_n 0, 1) := by decide +kernel
theorem dX1_about_69 : decode cX1_about 69 = .ok (.getfield 24, 3) := by decide +kernel
theorem dX1_about_72 : decode cX1_about 72 = .ok (.ireturn, 1) := by decide +kernel
theorem dX1_about_73 : decode cX1_about 73 = .ok (.aload_n 0, 1) := by decide +kernel
theorem dX1_about_74 : decode cX1_about 74 = .ok (.getfield 27, 3) := by decide +kernel
theorem dX1_about_77 : decode cX1_about 77 = .ok (.ireturn, 1) := by decide +kernel
theorem dX1_about_78 : decode cX1_about 78 = .ok (.aload_n 0, 1) := by decide +kernel
theorem dX1_about_79 : decode cX1_about 79 = .ok (.getfield 30, 3) := by decide +kernel
theorem dX1_about_82 : decode cX1_about 82 = .ok (.ireturn, 1) := by decide +kernel
theorem dX1_about_83 : decode cX1_about 83 = .ok (.aload_n 0, 1) := by decide +kernel
theorem dX1_about_84 : decode cX1_about 84 = .ok (.getfield 33, 3) := by decide +kernel
theorem dX1_about_87 : decode cX1_about 87 = .ok (.ireturn, 1) := by decide +kernel
theorem dX1_about_88 : decode cX1_about 88 = .ok (.aload_n 0, 1) := by decide +kernel
theorem dX1_about_89 : decode cX1_about 89 = .ok (.getfield 36, 3) := by decide +kernel
theorem dX1_about_92 : decode cX1_about 92 = .ok (.ifCond .eq 7, 3) := by decide +kernel
theorem dX1_about_95 : decode cX1_about 95 = .ok (.iconst 1, 1) := by decide +kernel
theorem dX1_about_96 : decode cX1_about 96 = .ok (.goto 4, 3) := by decide +kernel
theorem dX1_about_99 : decode cX1_about 99 = .ok (.iconst 0, 1) := by decide +kernel
theorem dX1_about_100 : decode cX1_about 100 = .ok (.ireturn, 1) := by decide +kernel
end
section
theorem dX2_init_0 : decode cX2_init 0 = .ok (.aload_n 0, 1) := by decide +kernel
theorem dX2_init_1 : decode cX2_init 1 = .ok (.invokespecial 3, 3) := by decide +kernel
theorem dX2_init_4 : decode cX2_init 4 = .ok (.aload_n 0, 1) := by decide +kernel
theorem dX2_init_5 : decode cX2_init 5 = .ok (.bipush 12, 2) := by decide +kernel
theorem dX2_init_7 : decode cX2_init 7 = .ok (.newarray .int, 2) := by decide +kernel
theorem dX2_init_9 : decode cX2_init 9 = .ok (.putfield 9, 3) := by decide +kernel
theorem dX2_init_12 : decode cX2_init 12 = .ok (.aload_n 0, 1) := by decide +kernel
theorem dX2_init_13 : decode cX2_init 13 = .ok (.bipush 12, 2) := by decide +kernel
theorem dX2_init_15 : decode cX2_init 15 = .ok (.newarray .int, 2) := by decide +kernel
theorem dX2_init_17 : decode cX2_init 17 = .ok (.putfield 15, 3) := by decide +kernel
theorem dX2_init_20 : decode cX2_init 20 = .ok (.aload_n 0, 1) := by decide +kernel
theorem dX2_init_21 : decode cX2_init 21 = .ok (.bipush 12, 2) := by decide +kernel
theorem dX2_init_23 : decode cX2_init 23 = .ok (.newarray .int, 2) := by decide +kernel
theorem dX2_init_25 : decode cX2_init 25 = .ok (.putfield 18, 3) := by decide +kernel
theorem dX2_init_28 : decode cX2_init 28 = .ok (.aload_n 0, 1) := by decide +kernel
theorem dX2_init_29 : decode cX2_init 29 = .ok (.iconst 0, 1) := by decide +kernel
theorem dX2_init_30 : decode cX2_init 30 = .ok (.putfield 21, 3) := by decide +kernel
theorem dX2_init_33 : decode cX2_init 33 = .ok (.aload_n 0, 1) := by decide +kernel
theorem dX2_init_34 : decode cX2_init 34 = .ok (.iconst 0, 1) := by decide +kernel
theorem dX2_init_35 : decode cX2_init 35 = .ok (.putfield 25, 3) := by decide +kernel
theorem dX2_init_38 : decode cX2_init 38 = .ok (.return_, 1) := by decide +kernel
theorem dX2_copyFrom_0 : decode cX2_copyFrom 0 = .ok (.iconst 0, 1) := by decide +kernel
theorem dX2_copyFrom_1 : decode cX2_copyFrom 1 = .ok (.istore_n 2, 1) := by decide +kernel
theorem dX2_copyFrom_2 : decode cX2_copyFrom 2 = .ok (.iload_n 2, 1) := by decide +kernel
theorem dX2_copyFrom_3 : decode cX2_copyFrom 3 = .ok (.bipush 12, 2) := by decide +kernel
theorem dX2_copyFrom_5 : decode cX2_copyFrom 5 = .ok (.if_icmp .ge 45, 3) := by decide +kernel
theorem dX2_copyFrom_8 : decode cX2_copyFrom 8 = .ok (.aload_n 0, 1) := by decide +kernel
theorem dX2_copyFrom_9 : decode cX2_copyFrom 9 = .ok (.getfield 9, 3) := by decide +kernel
theorem dX2_copyFrom_12 : decode cX2_copyFrom 12 = .ok (.iload_n 2, 1) := by decide +kernel
theorem dX2_copyFrom_13 : decode cX2_copyFrom 13 = .ok (.aload_n 1, 1) := by decide +kernel
theorem dX2_copyFrom_14 : decode cX2_copyFrom 14 = .ok (.getfield 9, 3) := by decide +kernel
theorem dX2_copyFrom_17 : decode cX2_copyFrom 17 = .ok (.iload_n 2, 1) := by decide +kernel
theorem dX2_copyFrom_18 : decode cX2_copyFrom 18 = .ok (.iaload, 1) := by decide +kernel
theorem dX2_copyFrom_19 : decode cX2_copyFrom 19 = .ok (.iastore, 1) := by decide +kernel
theorem dX2_copyFrom_20 : decode cX2_copyFrom 20 = .ok (.aload_n 0, 1) := by decide +kernel
theorem dX2_copyFrom_21 : decode cX2_copyFrom 21 = .ok (.getfield 15, 3) := by decide +kernel
theorem dX2_copyFrom_24 : decode cX2_copyFrom 24 = .ok (.iload_n 2, 1) := by decide +kernel
theorem dX2_copyFrom_25 : decode cX2_copyFrom 25 = .ok (.aload_n 1, 1) := by decide +kernel
theorem dX2_copyFrom_26 : decode cX2_copyFrom 26 = .ok (.getfield 15, 3) := by decide +kernel
theorem dX2_copyFrom_29 : decode cX2_copyFrom 29 = .ok (.iload_n 2, 1) := by decide +kernel
theorem dX2_copyFrom_30 : decode cX2_copyFrom 30 = .ok (.iaload, 1) := by decide +kernel
theorem dX2_copyFrom_31 : decode cX2_copyFrom 31 = .ok (.iastore, 1) := by decide +kernel
theorem dX2_copyFrom_32 : decode cX2_copyFrom 32 = .ok (.aload_n 0, 1) := by decide +kernel
theorem dX2_copyFrom_33 : decode cX2_copyFrom 33 = .ok (.getfield 18, 3) := by decide +kernel
theorem dX2_copyFrom_36 : decode cX2_copyFrom 36 = .ok (.iload_n 2, 1) := by decide +kernel
theorem dX2_copyFrom_37 : decode cX2_copyFrom 37 = .ok (.aload_n 1, 1) := by decide +kernel
theorem dX2_copyFrom_38 : decode cX2_copyFrom 38 = .ok (.getfield 18, 3) := by decide +kernel
theorem dX2_copyFrom_41 : decode cX2_copyFrom 41 = .ok (.iload_n 2, 1) := by decide +kernel
theorem dX2_copyFrom_42 : decode cX2_copyFrom 42 = .ok (.iaload, 1) := by decide +kernel
theorem dX2_copyFrom_43 : decode cX2_copyFrom 43 = .ok (.iastore, 1) := by decide +kernel
theorem dX2_copyFrom_44 : decode cX2_copyFrom 44 = .ok (.iinc 2 1, 3) := by decide +kernel
theorem dX2_copyFrom_47 : decode cX2_copyFrom 47 = .ok (.goto (-45), 3) := by decide +kernel
theorem dX2_copyFrom_50 : decode cX2_copyFrom 50 = .ok (.aload_n 0, 1) := by decide +kernel
theorem dX2_copyFrom_51 : decode cX2_copyFrom 51 = .ok (.aload_n 1, 1) := by decide +kernel
theorem dX2_copyFrom_52 : decode cX2_copyFrom 52 = .ok (.getfield 21, 3) := by decide +kernel
theorem dX2_copyFrom_55 : decode cX2_copyFrom 55 = .ok (.putfield 21, 3) := by decide +kernel
theorem dX2_copyFrom_58 : decode cX2_copyFrom 58 = .ok (.aload_n 0, 1) := by decide +kernel
theorem dX2_copyFrom_59 : decode cX2_copyFrom 59 = .ok (.aload_n 1, 1) := by decide +kernel
theorem dX2_copyFrom_60 : decode cX2_copyFrom 60 = .ok (.getfield 25, 3) := by decide +kernel
theorem dX2_copyFrom_63 : decode cX2_copyFrom 63 = .ok (.putfield 25, 3) := by decide +kernel
theorem dX2_copyFrom_66 : decode cX2_copyFrom 66 = .ok (.return_, 1) := by decide +kernel
theorem dX2_add_0 : decode cX2_add 0 = .ok (.bipush 11, 2) := by decide +kernel
theorem dX2_add_2 : decode cX2_add 2 = .ok (.istore 4, 2) := by decide +kernel
theorem dX2_add_4 : decode cX2_add 4 = .ok (.iload 4, 2) := by decide +kernel
theorem dX2_add_6 : decode cX2_add 6 = .ok (.ifCond .le 57, 3) := by decide +kernel
theorem dX2_add_9 : decode cX2_add 9 = .ok (.aload_n 0, 1) := by decide +kernel
theorem dX2_add_10 : decode cX2_add 10 = .ok (.getfield 9, 3) := by decide +kernel
theorem dX2_add_13 : decode cX2_add 13 = .ok (.iload 4, 2) := by decide +kernel
theorem dX2_add_15 : decode cX2_add 15 = .ok (.aload_n 0, 1) := by decide +kernel
theorem dX2_add_16 : decode cX2_add 16 = .ok (.getfield 9, 3) := by decide +kernel
theorem dX2_add_19 : decode cX2_add 19 = .ok (.iload 4, 2) := by decide +kernel
theorem dX2_add_21 : decode cX2_add 21 = .ok (.iconst 1, 1) := by decide +kernel
theorem dX2_add_22 : decode cX2_add 22 = .ok (.isub, 1) := by decide +kernel
theorem dX2_add_23 : decode cX2_add 23 = .ok (.iaload, 1) := by decide +kernel
theorem dX2_add_24 : decode cX2_add 24 = .ok (.iastore, 1) := by decide +kernel
theorem dX2_add_25 : decode cX2_add 25 = .ok (.aload_n 0, 1) := by decide +kernel
theorem dX2_add_26 : decode cX2_add 26 = .ok (.getfield 15, 3) := by decide +kernel
theorem dX2_add_29 : decode cX2_add 29 = .ok (.iload 4, 2) := by decide +kernel
theorem dX2_add_31 : decode cX2_add 31 = .ok (.aload_n 0, 1) := by decide +kernel
theorem dX2_add_32 : decode cX2_add 32 = .ok (.getfield 15, 3) := by decide +kernel
theorem dX2_add_35 : decode cX2_add 35 = .ok (.iload 4, 2) := by decide +kernel
theorem dX2_add_37 : decode cX2_add 37 = .ok (.iconst 1, 1) := by decide +kernel
theorem dX2_add_38 : decode cX2_add 38 = .ok (.isub, 1) := by decide +kernel
theorem dX2_add_39 : decode cX2_add 39 = .ok (.iaload, 1) := by decide +kernel
theorem dX2_add_40 : decode cX2_add 40 = .ok (.iastore, 1) := by decide +kernel
theorem dX2_add_41 : decode cX2_add 41 = .ok (.aload_n 0, 1) := by decide +kernel
theorem dX2_add_42 : decode cX2_add 42 = .ok (.getfield 18, 3) := by decide +kernel
theorem dX2_add_45 : decode cX2_add 45 = .ok (.iload 4, 2) := by decide +kernel
theorem dX2_add_47 : decode cX2_add 47 = .ok (.aload_n 0, 1) := by decide +kernel
theorem dX2_add_48 : decode cX2_add 48 = .ok (.getfield 18, 3) := by decide +kernel
theorem dX2_add_51 : decode cX2_add 51 = .ok (.iload 4, 2) := by decide +kernel
theorem dX2_add_53 : decode cX2_add 53 = .ok (.iconst 1, 1) := by decide +kernel
theorem dX2_add_54 : decode cX2_add 54 = .ok (.isub, 1) := by decide +kernel
theorem dX2_add_55 : decode cX2_add 55 = .ok (.iaload, 1) := by decide +kernel
theorem dX2_add_56 : decode cX2_add 56 = .ok (.iastore, 1) := by decide +kernel
theorem dX2_add_57 : decode cX2_add 57 = .ok (.iinc 4 (-1), 3) := by decide +kernel
theorem dX2_add_60 : decode cX2_add 60 = .ok (.goto (-56), 3) := by decide +kernel
theorem dX2_add_63 : decode cX2_add 63 = .ok (.aload_n 0, 1) := by decide +kernel
theorem dX2_add_64 : decode cX2_add 64 = .ok (.getfield 9, 3) := by decide +kernel
theorem dX2_add_67 : decode cX2_add 67 = .ok (.iconst 0, 1) := by decide +kernel
theorem dX2_add_68 : decode cX2_add 68 = .ok (.iload_n 1, 1) := by decide +kernel
theorem dX2_add_69 : decode cX2_add 69 = .ok (.iastore, 1) := by decide +kernel
theorem dX2_add_70 : decode cX2_add 70 = .ok (.aload_n 0, 1) := by decide +kernel
theorem dX2_add_71 : decode cX2_add 71 = .ok (.getfield 15, 3) := by decide +kernel
theorem dX2_add_74 : decode cX2_add 74 = .ok (.iconst 0, 1) := by decide +kernel
theorem dX2_add_75 : decode cX2_add 75 = .ok (.iload_n 2, 1) := by decide +kernel
theorem dX2_add_76 : decode cX2_add 76 = .ok (.iastore, 1) := by decide +kernel
theorem dX2_add_77 : decode cX2_add 77 = .ok (.aload_n 0, 1) := by decide +kernel
theorem dX2_add_78 : decode cX2_add 78 = .ok (.getfield 18, 3) := by decide +kernel
theorem dX2_add_81 : decode cX2_add 81 = .ok (.iconst 0, 1) := by decide +kernel
theorem dX2_add_82 : decode cX2_add 82 = .ok (.iload_n 3, 1) := by decide +kernel
theorem dX2_add_83 : decode cX2_add 83 = .ok (.iastore, 1) := by decide +kernel
theorem dX2_add_84 : decode cX2_add 84 = .ok (.aload_n 0, 1) := by decide +kernel
theorem dX2_add_85 : decode cX2_add 85 = .ok (.aload_n 0, 1) := by decide +kernel
theorem dX2_add_86 : decode cX2_add 86 = .ok (.getfield 21, 3) := by decide +kernel
theorem dX2_add_89 : decode cX2_add 89 = .ok (.iconst 1, 1) := by decide +kernel
theorem dX2_add_90 : decode cX2_add 90 = .ok (.iadd, 1) := by decide +kernel
theorem dX2_add_91 : decode cX2_add 91 = .ok (.bipush 12, 2) := by decide +kernel
theorem dX2_add_93 : decode cX2_add 93 = .ok (.invokestatic 28, 3) := by decide +kernel
theorem dX2_add_96 : decode cX2_add 96 = .ok (.putfield 21, 3) := by decide +kernel
theorem dX2_add_99 : decode cX2_add 99 = .ok (.aload_n 0, 1) := by decide +kernel
theorem dX2_add_100 : decode cX2_add 100 = .ok (.dup, 1) := by decide +kernel
theorem dX2_add_101 : decode cX2_add 101 = .ok (.getfield 25, 3) := by decide +kernel
theorem dX2_add_104 : decode cX2_add 104 = .ok (.iconst 1, 1) := by decide +kernel
theorem dX2_add_105 : decode cX2_add 105 = .ok (.iadd, 1) := by decide +kernel
theorem dX2_add_106 : decode cX2_add 106 = .ok (.putfield 25, 3) := by decide +kernel
theorem dX2_add_109 : decode cX2_add 109 = .ok (.return_, 1) := by decide +kernel
theorem dX2_about_0 : decode cX2_about 0 = .ok (.iload_n 1, 1) := by decide +kernel
theorem dX2_about_1 : decode cX2_about 1 = .ok (.ifCond .lt 11, 3) := by decide +kernel
theorem dX2_about_4 : decode cX2_about 4 = .ok (.iload_n 1, 1) := by decide +kernel
theorem dX2_about_5 : decode cX2_about 5 = .ok (.aload_n 0, 1) := by decide +kernel
theorem dX2_about_6 : decode cX2_about 6 = .ok (.getfield 21, 3) := by decide +kernel
theorem dX2_about_9 : decode cX2_about 9 = .ok (.if_icmp .lt 5, 3) := by decide +kernel
theorem dX2_about_12 : decode cX2_about 12 = .ok (.iconst (-1), 1) := by decide +kernel
theorem dX2_about_13 : decode cX2_about 13 = .ok (.ireturn, 1) := by decide +kernel
theorem dX2_about_14 : decode cX2_about 14 = .ok (.iload_n 2, 1) := by decide +kernel
theorem dX2_about_15 : decode cX2_about 15 = .ok (.lookupswitch 39 #[(0, 25), (1, 32)], 25) := by decide +kernel
theorem dX2_about_40 : decode cX2_about 40 = .ok (.aload_n 0, 1) := by decide +kernel
theorem dX2_about_41 : decode cX2_about 41 = .ok (.getfield 9, 3) := by decide +kernel
theorem dX2_about_44 : decode cX2_about 44 = .ok (.iload_n 1, 1) := by decide +kernel
theorem dX2_about_45 : decode cX2_about 45 = .ok (.iaload, 1) := by decide +kernel
theorem dX2_about_46 : decode cX2_about 46 = .ok (.ireturn, 1) := by decide +kernel
theorem dX2_about_47 : decode cX2_about 47 = .ok (.aload_n 0, 1) := by decide +kernel
theorem dX2_about_48 : decode cX2_about 48 = .ok (.getfield 15, 3) := by decide +kernel
theorem dX2_about_51 : decode cX2_about 51 = .ok (.iload_n 1, 1) := by decide +kernel
theorem dX2_about_52 : decode cX2_about 52 = .ok (.iaload, 1) := by decide +kernel
theorem dX2_about_53 : decode cX2_about 53 = .ok (.ireturn, 1) := by decide +kernel
theorem dX2_about_54 : decode cX2_about 54 = .ok (.aload_n 0, 1) := by decide +kernel
theorem dX2_about_55 : decode cX2_about 55 = .ok (.getfield 18, 3) := by decide +kernel
theorem dX2_about_58 : decode cX2_about 58 = .ok (.iload_n 1, 1) := by decide +kernel
theorem dX2_about_59 : decode cX2_about 59 = .ok (.iaload, 1) := by decide +kernel
theorem dX2_about_60 : decode cX2_about 60 = .ok (.ireturn, 1) := by decide +kernel
end
section
theorem dX3_init_0 : decode cX3_init 0 = .ok (.aload_n 0, 1) := by decide +kernel
theorem dX3_init_1 : decode cX3_init 1 = .ok (.invokespecial 3, 3) := by decide +kernel
theorem dX3_init_4 : decode cX3_init 4 = .ok (.aload_n 0, 1) := by decide +kernel
theorem dX3_init_5 : decode cX3_init 5 = .ok (.bipush 10, 2) := by decide +kernel
theorem dX3_init_7 : decode cX3_init 7 = .ok (.newarray .int, 2) := by decide +kernel
theorem dX3_init_9 : decode cX3_init 9 = .ok (.putfield 9, 3) := by decide +kernel
theorem dX3_init_12 : decode cX3_init 12 = .ok (.aload_n 0, 1) := by decide +kernel
theorem dX3_init_13 : decode cX3_init 13 = .ok (.bipush 10, 2) := by decide +kernel
theorem dX3_init_15 : decode cX3_init 15 = .ok (.newarray .int, 2) := by decide +kernel
theorem dX3_init_17 : decode cX3_init 17 = .ok (.putfield 15, 3) := by decide +kernel
theorem dX3_init_20 : decode cX3_init 20 = .ok (.aload_n 0, 1) := by decide +kernel
theorem dX3_init_21 : decode cX3_init 21 = .ok (.bipush 10, 2) := by decide +kernel
theorem dX3_init_23 : decode cX3_init 23 = .ok (.newarray .int, 2) := by decide +kernel
theorem dX3_init_25 : decode cX3_init 25 = .ok (.putfield 18, 3) := by decide +kernel
theorem dX3_init_28 : decode cX3_init 28 = .ok (.aload_n 0, 1) := by decide +kernel
theorem dX3_init_29 : decode cX3_init 29 = .ok (.iconst 0, 1) := by decide +kernel
theorem dX3_init_30 : decode cX3_init 30 = .ok (.putfield 21, 3) := by decide +kernel
theorem dX3_init_33 : decode cX3_init 33 = .ok (.aload_n 0, 1) := by decide +kernel
theorem dX3_init_34 : decode cX3_init 34 = .ok (.iconst 0, 1) := by decide +kernel
theorem dX3_init_35 : decode cX3_init 35 = .ok (.putfield 25, 3) := by decide +kernel
theorem dX3_init_38 : decode cX3_init 38 = .ok (.return_, 1) := by decide +kernel
theorem dX3_copyFrom_0 : decode cX3_copyFrom 0 = .ok (.iconst 0, 1) := by decide +kernel
theorem dX3_copyFrom_1 : decode cX3_copyFrom 1 = .ok (.istore_n 2, 1) := by decide +kernel
theorem dX3_copyFrom_2 : decode cX3_copyFrom 2 = .ok (.iload_n 2, 1) := by decide +kernel
theorem dX3_copyFrom_3 : decode cX3_copyFrom 3 = .ok (.bipush 10, 2) := by decide +kernel
theorem dX3_copyFrom_5 : decode cX3_copyFrom 5 = .ok (.if_icmp .ge 45, 3) := by decide +kernel
theorem dX3_copyFrom_8 : decode cX3_copyFrom 8 = .ok (.aload_n 0, 1) := by decide +kernel
theorem dX3_copyFrom_9 : decode cX3_copyFrom 9 = .ok (.getfield 9, 3) := by decide +kernel
theorem dX3_copyFrom_12 : decode cX3_copyFrom 12 = .ok (.iload_n 2, 1) := by decide +kernel
theorem dX3_copyFrom_13 : decode cX3_copyFrom 13 = .ok (.aload_n 1, 1) := by decide +kernel
theorem dX3_copyFrom_14 : decode cX3_copyFrom 14 = .ok (.getfield 9, 3) := by decide +kernel
theorem dX3_copyFrom_17 : decode cX3_copyFrom 17 = .ok (.iload_n 2, 1) := by decide +kernel
theorem dX3_copyFrom_18 : decode cX3_copyFrom 18 = .ok (.iaload, 1) := by decide +kernel
theorem dX3_copyFrom_19 : decode cX3_copyFrom 19 = .ok (.iastore, 1) := by decide +kernel
theorem dX3_copyFrom_20 : decode cX3_copyFrom 20 = .ok (.aload_n 0, 1) := by decide +kernel
theorem dX3_copyFrom_21 : decode cX3_copyFrom 21 = .ok (.getfield 15, 3) := by decide +kernel
theorem dX3_copyFrom_24 : decode cX3_copyFrom 24 = .ok (.iload_n 2, 1) := by decide +kernel
theorem dX3_copyFrom_25 : decode cX3_copyFrom 25 = .ok (.aload_n 1, 1) := by decide +kernel
theorem dX3_copyFrom_26 : decode cX3_copyFrom 26 = .ok (.getfield 15, 3) := by decide +kernel
theorem dX3_copyFrom_29 : decode cX3_copyFrom 29 = .ok (.iload_n 2, 1) := by decide +kernel
theorem dX3_copyFrom_30 : decode cX3_copyFrom 30 = .ok (.iaload, 1) := by decide +kernel
theorem dX3_copyFrom_31 : decode cX3_copyFrom 31 = .ok (.iastore, 1) := by decide +kernel
theorem dX3_copyFrom_32 : decode cX3_copyFrom 32 = .ok (.aload_n 0, 1) := by decide +kernel
theorem dX3_copyFrom_33 : decode cX3_copyFrom 33 = .ok (.getfield 18, 3) := by decide +kernel
theorem dX3_copyFrom_36 : decode cX3_copyFrom 36 = .ok (.iload_n 2, 1) := by decide +kernel
theorem dX3_copyFrom_37 : decode cX3_copyFrom 37 = .ok (.aload_n 1, 1) := by decide +kernel
theorem dX3_copyFrom_38 : decode cX3_copyFrom 38 = .ok (.getfield 18, 3) := by decide +kernel
theorem dX3_copyFrom_41 : decode cX3_copyFrom 41 = .ok (.iload_n 2, 1) := by decide +kernel
theorem dX3_copyFrom_42 : decode cX3_copyFrom 42 = .ok (.iaload, 1) := by decide +kernel
theorem dX3_copyFrom_43 : decode cX3_copyFrom 43 = .ok (.iastore, 1) := by decide +kernel
theorem dX3_copyFrom_44 : decode cX3_copyFrom 44 = .ok (.iinc 2 1, 3) := by decide +kernel
theorem dX3_copyFrom_47 : decode cX3_copyFrom 47 = .ok (.goto (-45), 3) := by decide +kernel
theorem dX3_copyFrom_50 : decode cX3_copyFrom 50 = .ok (.aload_n 0, 1) := by decide +kernel
theorem dX3_copyFrom_51 : decode cX3_copyFrom 51 = .ok (.aload_n 1, 1) := by decide +kernel
theorem dX3_copyFrom_52 : decode cX3_copyFrom 52 = .ok (.getfield 21, 3) := by decide +kernel
theorem dX3_copyFrom_55 : decode cX3_copyFrom 55 = .ok (.putfield 21, 3) := by decide +kernel
theorem dX3_copyFrom_58 : decode cX3_copyFrom 58 = .ok (.aload_n 0, 1) := by decide +kernel
theorem dX3_copyFrom_59 : decode cX3_copyFrom 59 = .ok (.aload_n 1, 1) := by decide +kernel
theorem dX3_copyFrom_60 : decode cX3_copyFrom 60 = .ok (.getfield 25, 3) := by decide +kernel
theorem dX3_copyFrom_63 : decode cX3_copyFrom 63 = .ok (.putfield 25, 3) := by decide +kernel
theorem dX3_copyFrom_66 : decode cX3_copyFrom 66 = .ok (.return_, 1) := by decide +kernel
theorem dX3_add_0 : decode cX3_add 0 = .ok (.aload_n 0, 1) := by decide +kernel
theorem dX3_add_1 : decode cX3_add 1 = .ok (.getfield 21, 3) := by decide +kernel
theorem dX3_add_4 : decode cX3_add 4 = .ok (.bipush 10, 2) := by decide +kernel
theorem dX3_add_6 : decode cX3_add 6 = .ok (.if_icmp .ge 24, 3) := by decide +kernel
theorem dX3_add_9 : decode cX3_add 9 = .ok (.aload_n 0, 1) := by decide +kernel
theorem dX3_add_10 : decode cX3_add 10 = .ok (.aload_n 0, 1) := by decide +kernel
theorem dX3_add_11 : decode cX3_add 11 = .ok (.getfield 21, 3) := by decide +kernel
theorem dX3_add_14 : decode cX3_add 14 = .ok (.iload_n 1, 1) := by decide +kernel
theorem dX3_add_15 : decode cX3_add 15 = .ok (.iload_n 2, 1) := by decide +kernel
theorem dX3_add_16 : decode cX3_add 16 = .ok (.iload_n 3, 1) := by decide +kernel
theorem dX3_add_17 : decode cX3_add 17 = .ok (.invokevirtual 28, 3) := by decide +kernel
theorem dX3_add_20 : decode cX3_add 20 = .ok (.aload_n 0, 1) := by decide +kernel
theorem dX3_add_21 : decode cX3_add 21 = .ok (.dup, 1) := by decide +kernel
theorem dX3_add_22 : decode cX3_add 22 = .ok (.getfield 21, 3) := by decide +kernel
theorem dX3_add_25 : decode cX3_add 25 = .ok (.iconst 1, 1) := by decide +kernel
theorem dX3_add_26 : decode cX3_add 26 = .ok (.iadd, 1) := by decide +kernel
theorem dX3_add_27 : decode cX3_add 27 = .ok (.putfield 21, 3) := by decide +kernel
theorem dX3_add_30 : decode cX3_add 30 = .ok (.return_, 1) := by decide +kernel
theorem dX3_set_0 : decode cX3_set 0 = .ok (.aload_n 0, 1) := by decide +kernel
theorem dX3_set_1 : decode cX3_set 1 = .ok (.getfield 9, 3) := by decide +kernel
theorem dX3_set_4 : decode cX3_set 4 = .ok (.iload_n 1, 1) := by decide +kernel
theorem dX3_set_5 : decode cX3_set 5 = .ok (.iload_n 2, 1) := by decide +kernel
theorem dX3_set_6 : decode cX3_set 6 = .ok (.iastore, 1) := by decide +kernel
theorem dX3_set_7 : decode cX3_set 7 = .ok (.aload_n 0, 1) := by decide +kernel
theorem dX3_set_8 : decode cX3_set 8 = .ok (.getfield 15, 3) := by decide +kernel
theorem dX3_set_11 : decode cX3_set 11 = .ok (.iload_n 1, 1) := by decide +kernel
theorem dX3_set_12 : decode cX3_set 12 = .ok (.iload_n 3, 1) := by decide +kernel
theorem dX3_set_13 : decode cX3_set 13 = .ok (.iastore, 1) := by decide +kernel
theorem dX3_set_14 : decode cX3_set 14 = .ok (.aload_n 0, 1) := by decide +kernel
theorem dX3_set_15 : decode cX3_set 15 = .ok (.getfield 18, 3) := by decide +kernel
theorem dX3_set_18 : decode cX3_set 18 = .ok (.iload_n 1, 1) := by decide +kernel
theorem dX3_set_19 : decode cX3_set 19 = .ok (.iload 4, 2) := by decide +kernel
theorem dX3_set_21 : decode cX3_set 21 = .ok (.iastore, 1) := by decide +kernel
theorem dX3_set_22 : decode cX3_set 22 = .ok (.return_, 1) := by decide +kernel
theorem dX3_goUp_0 : decode cX3_goUp 0 = .ok (.iconst 0, 1) := by decide +kernel
theorem dX3_goUp_1 : decode cX3_goUp 1 = .ok (.istore_n 1, 1) := by decide +kernel
theorem dX3_goUp_2 : decode cX3_goUp 2 = .ok (.iconst 0, 1) := by decide +kernel
theorem dX3_goUp_3 : decode cX3_goUp 3 = .ok (.istore_n 2, 1) := by decide +kernel
theorem dX3_goUp_4 : decode cX3_goUp 4 = .ok (.iload_n 2, 1) := by decide +kernel
theorem dX3_goUp_5 : decode cX3_goUp 5 = .ok (.aload_n 0, 1) := by decide +kernel
theorem dX3_goUp_6 : decode cX3_goUp 6 = .ok (.getfield 21, 3) := by decide +kernel
theorem dX3_goUp_9 : decode cX3_goUp 9 = .ok (.if_icmp .ge 43, 3) := by decide +kernel
theorem dX3_goUp_12 : decode cX3_goUp 12 = .ok (.aload_n 0, 1) := by decide +kernel
theorem dX3_goUp_13 : decode cX3_goUp 13 = .ok (.getfield 18, 3) := by decide +kernel
theorem dX3_goUp_16 : decode cX3_goUp 16 = .ok (.iload_n 2, 1) := by decide +kernel
theorem dX3_goUp_17 : decode cX3_goUp 17 = .ok (.iaload, 1) := by decide +kernel
theorem dX3_goUp_18 : decode cX3_goUp 18 = .ok (.iconst 1, 1) := by decide +kernel
theorem dX3_goUp_19 : decode cX3_goUp 19 = .ok (.isub, 1) := by decide +kernel
theorem dX3_goUp_20 : decode cX3_goUp 20 = .ok (.istore_n 3, 1) := by decide +kernel
theorem dX3_goUp_21 : decode cX3_goUp 21 = .ok (.iload_n 3, 1) := by decide +kernel
theorem dX3_goUp_22 : decode cX3_goUp 22 = .ok (.ifCond .le 24, 3) := by decide +kernel
theorem dX3_goUp_25 : decode cX3_goUp 25 = .ok (.aload_n 0, 1) := by decide +kernel
theorem dX3_goUp_26 : decode cX3_goUp 26 = .ok (.iload_n 1, 1) := by decide +kernel
theorem dX3_goUp_27 : decode cX3_goUp 27 = .ok (.aload_n 0, 1) := by decide +kernel
theorem dX3_goUp_28 : decode cX3_goUp 28 = .ok (.getfield 9, 3) := by decide +kernel
theorem dX3_goUp_31 : decode cX3_goUp 31 = .ok (.iload_n 2, 1) := by decide +kernel
theorem dX3_goUp_32 : decode cX3_goUp 32 = .ok (.iaload, 1) := by decide +kernel
theorem dX3_goUp_33 : decode cX3_goUp 33 = .ok (.aload_n 0, 1) := by decide +kernel
theorem dX3_goUp_34 : decode cX3_goUp 34 = .ok (.getfield 15, 3) := by decide +kernel
theorem dX3_goUp_37 : decode cX3_goUp 37 = .ok (.iload_n 2, 1) := by decide +kernel
theorem dX3_goUp_38 : decode cX3_goUp 38 = .ok (.iaload, 1) := by decide +kernel
theorem dX3_goUp_39 : decode cX3_goUp 39 = .ok (.iload_n 3, 1) := by decide +kernel
theorem dX3_goUp_40 : decode cX3_goUp 40 = .ok (.invokevirtual 28, 3) := by decide +kernel
theorem dX3_goUp_43 : decode cX3_goUp 43 = .ok (.iinc 1 1, 3) := by decide +kernel
theorem dX3_goUp_46 : decode cX3_goUp 46 = .ok (.iinc 2 1, 3) := by decide +kernel
theorem dX3_goUp_49 : decode cX3_goUp 49 = .ok (.goto (-45), 3) := by decide +kernel
theorem dX3_goUp_52 : decode cX3_goUp 52 = .ok (.aload_n 0, 1) := by decide +kernel
theorem dX3_goUp_53 : decode cX3_goUp 53 = .ok (.dup, 1) := by decide +kernel
theorem dX3_goUp_54 : decode cX3_goUp 54 = .ok (.getfield 25, 3) := by decide +kernel
theorem dX3_goUp_57 : decode cX3_goUp 57 = .ok (.aload_n 0, 1) := by decide +kernel
theorem dX3_goUp_58 : decode cX3_goUp 58 = .ok (.getfield 21, 3) := by decide +kernel
theorem dX3_goUp_61 : decode cX3_goUp 61 = .ok (.iload_n 1, 1) := by decide +kernel
theorem dX3_goUp_62 : decode cX3_goUp 62 = .ok (.isub, 1) := by decide +kernel
theorem dX3_goUp_63 : decode cX3_goUp 63 = .ok (.iadd, 1) := by decide +kernel
theorem dX3_goUp_64 : decode cX3_goUp 64 = .ok (.putfield 25, 3) := by decide +kernel
theorem dX3_goUp_67 : decode cX3_goUp 67 = .ok (.aload_n 0, 1) := by decide +kernel
theorem dX3_goUp_68 : decode cX3_goUp 68 = .ok (.iload_n 1, 1) := by decide +kernel
theorem dX3_goUp_69 : decode cX3_goUp 69 = .ok (.putfield 21, 3) := by decide +kernel
theorem dX3_goUp_72 : decode cX3_goUp 72 = .ok (.return_, 1) := by decide +kernel
theorem dX3_about_0 : decode cX3_about 0 = .ok (.iload_n 1, 1) := by decide +kernel
theorem dX3_about_1 : decode cX3_about 1 = .ok (.ifCond .lt 11, 3) := by decide +kernel
theorem dX3_about_4 : decode cX3_about 4 = .ok (.iload_n 1, 1) := by decide +kernel
theorem dX3_about_5 : decode cX3_about 5 = .ok (.aload_n 0, 1) := by decide +kernel
theorem dX3_about_6 : decode cX3_about 6 = .ok (.getfield 21, 3) := by decide +kernel
theorem dX3_about_9 : decode cX3_about 9 = .ok (.if_icmp .lt 5, 3) := by decide +kernel
theorem dX3_about_12 : decode cX3_about 12 = .ok (.iconst (-1), 1) := by decide +kernel
theorem dX3_about_13 : decode cX3_about 13 = .ok (.ireturn, 1) := by decide +kernel
theorem dX3_about_14 : decode cX3_about 14 = .ok (.iload_n 2, 1) := by decide +kernel
theorem dX3_about_15 : decode cX3_about 15 = .ok (.lookupswitch 39 #[(0, 25), (1, 32)], 25) := by decide +kernel
theorem dX3_about_40 : decode cX3_about 40 = .ok (.aload_n 0, 1) := by decide +kernel
theorem dX3_about_41 : decode cX3_about 41 = .ok (.getfield 9, 3) := by decide +kernel
theorem dX3_about_44 : decode cX3_about 44 = .ok (.iload_n 1, 1) := by decide +kernel
theorem dX3_about_45 : decode cX3_about 45 = .ok (.iaload, 1) := by decide +kernel
theorem dX3_about_46 : decode cX3_about 46 = .ok (.ireturn, 1) := by decide +kernel
theorem dX3_about_47 : decode cX3_about 47 = .ok (.aload_n 0, 1) := by decide +kernel
theorem dX3_about_48 : decode cX3_about 48 = .ok (.getfield 15, 3) := by decide +kernel
theorem dX3_about_51 : decode cX3_about 51 = .ok (.iload_n 1, 1) := by decide +kernel
theorem dX3_about_52 : decode cX3_about 52 = .ok (.iaload, 1) := by decide +kernel
theorem dX3_about_53 : decode cX3_about 53 = .ok (.ireturn, 1) := by decide +kernel
theorem dX3_about_54 : decode cX3_about 54 = .ok (.aload_n 0, 1) := by decide +kernel
theorem dX3_about_55 : decode cX3_about 55 = .ok (.getfield 18, 3) := by decide +kernel
theorem dX3_about_58 : decode cX3_about 58 = .ok (.iload_n 1, 1) := by decide +kernel
theorem dX3_about_59 : decode cX3_about 59 = .ok (.iaload, 1) := by decide +kernel
theorem dX3_about_60 : decode cX3_about 60 = .ok (.ireturn, 1) := by decide +kernel
end
section
theorem dX4_init_0 : decode cX4_init 0 = .ok (.aload_n 0, 1) := by decide +kernel
theorem dX4_init_1 : decode cX4_init 1 = .ok (.invokespecial 3, 3) := by decide +kernel
theorem dX4_init_4 : decode cX4_init 4 = .ok (.aload_n 0, 1) := by decide +kernel
theorem dX4_init_5 : decode cX4_init 5 = .ok (.getstatic 9, 3) := by decide +kernel
theorem dX4_init_8 : decode cX4_init 8 = .ok (.invokevirtual 13, 3) := by decide +kernel
theorem dX4_init_11 : decode cX4_init 11 = .ok (.checkcast 14, 3) := by decide +kernel
theorem dX4_init_14 : decode cX4_init 14 = .ok (.putfield 18, 3) := by decide +kernel
theorem dX4_init_17 : decode cX4_init 17 = .ok (.aload_n 0, 1) := by decide +kernel
theorem dX4_init_18 : decode cX4_init 18 = .ok (.getstatic 23, 3) := by decide +kernel
theorem dX4_init_21 : decode cX4_init 21 = .ok (.invokevirtual 13, 3) := by decide +kernel
theorem dX4_init_24 : decode cX4_init 24 = .ok (.checkcast 14, 3) := by decide +kernel
theorem dX4_init_27 : decode cX4_init 27 = .ok (.putfield 26, 3) := by decide +kernel
theorem dX4_init_30 : decode cX4_init 30 = .ok (.aload_n 0, 1) := by decide +kernel
theorem dX4_init_31 : decode cX4_init 31 = .ok (.bipush 7, 2) := by decide +kernel
theorem dX4_init_33 : decode cX4_init 33 = .ok (.newarray .int, 2) := by decide +kernel
theorem dX4_init_35 : decode cX4_init 35 = .ok (.putfield 29, 3) := by decide +kernel
theorem dX4_init_38 : decode cX4_init 38 = .ok (.aload_n 0, 1) := by decide +kernel
theorem dX4_init_39 : decode cX4_init 39 = .ok (.iconst 4, 1) := by decide +kernel
theorem dX4_init_40 : decode cX4_init 40 = .ok (.putfield 32, 3) := by decide +kernel
theorem dX4_init_43 : decode cX4_init 43 = .ok (.iconst 0, 1) := by decide +kernel
theorem dX4_init_44 : decode cX4_init 44 = .ok (.istore_n 1, 1) := by decide +kernel
theorem dX4_init_45 : decode cX4_init 45 = .ok (.iload_n 1, 1) := by decide +kernel
theorem dX4_init_46 : decode cX4_init 46 = .ok (.bipush 7, 2) := by decide +kernel
theorem dX4_init_48 : decode cX4_init 48 = .ok (.if_icmp .ge 16, 3) := by decide +kernel
theorem dX4_init_51 : decode cX4_init 51 = .ok (.aload_n 0, 1) := by decide +kernel
theorem dX4_init_52 : decode cX4_init 52 = .ok (.getfield 29, 3) := by decide +kernel
theorem dX4_init_55 : decode cX4_init 55 = .ok (.iload_n 1, 1) := by decide +kernel
theorem dX4_init_56 : decode cX4_init 56 = .ok (.iconst (-1), 1) := by decide +kernel
theorem dX4_init_57 : decode cX4_init 57 = .ok (.iastore, 1) := by decide +kernel
theorem dX4_init_58 : decode cX4_init 58 = .ok (.iinc 1 1, 3) := by decide +kernel
theorem dX4_init_61 : decode cX4_init 61 = .ok (.goto (-16), 3) := by decide +kernel
theorem dX4_init_64 : decode cX4_init 64 = .ok (.return_, 1) := by decide +kernel
theorem dX4_startAnew_0 : decode cX4_startAnew 0 = .ok (.iconst 0, 1) := by decide +kernel
theorem dX4_startAnew_1 : decode cX4_startAnew 1 = .ok (.istore_n 2, 1) := by decide +kernel
theorem dX4_startAnew_2 : decode cX4_startAnew 2 = .ok (.iload_n 2, 1) := by decide +kernel
theorem dX4_startAnew_3 : decode cX4_startAnew 3 = .ok (.bipush 7, 2) := by decide +kernel
theorem dX4_startAnew_5 : decode cX4_startAnew 5 = .ok (.if_icmp .ge 38, 3) := by decide +kernel
theorem dX4_startAnew_8 : decode cX4_startAnew 8 = .ok (.aload_n 0, 1) := by decide +kernel
theorem dX4_startAnew_9 : decode cX4_startAnew 9 = .ok (.getfield 18, 3) := by decide +kernel
theorem dX4_startAnew_12 : decode cX4_startAnew 12 = .ok (.iload_n 2, 1) := by decide +kernel
theorem dX4_startAnew_13 : decode cX4_startAnew 13 = .ok (.getstatic 9, 3) := by decide +kernel
theorem dX4_startAnew_16 : decode cX4_startAnew 16 = .ok (.iload_n 2, 1) := by decide +kernel
theorem dX4_startAnew_17 : decode cX4_startAnew 17 = .ok (.iaload, 1) := by decide +kernel
theorem dX4_startAnew_18 : decode cX4_startAnew 18 = .ok (.iastore, 1) := by decide +kernel
theorem dX4_startAnew_19 : decode cX4_startAnew 19 = .ok (.aload_n 0, 1) := by decide +kernel
theorem dX4_startAnew_20 : decode cX4_startAnew 20 = .ok (.getfield 26, 3) := by decide +kernel
theorem dX4_startAnew_23 : decode cX4_startAnew 23 = .ok (.iload_n 2, 1) := by decide +kernel
theorem dX4_startAnew_24 : decode cX4_startAnew 24 = .ok (.getstatic 23, 3) := by decide +kernel
theorem dX4_startAnew_27 : decode cX4_startAnew 27 = .ok (.iload_n 2, 1) := by decide +kernel
theorem dX4_startAnew_28 : decode cX4_startAnew 28 = .ok (.iaload, 1) := by decide +kernel
theorem dX4_startAnew_29 : decode cX4_startAnew 29 = .ok (.iastore, 1) := by decide +kernel
theorem dX4_startAnew_30 : decode cX4_startAnew 30 = .ok (.aload_n 0, 1) := by decide +kernel
theorem dX4_startAnew_31 : decode cX4_startAnew 31 = .ok (.getfield 29, 3) := by decide +kernel
theorem dX4_startAnew_34 : decode cX4_startAnew 34 = .ok (.iload_n 2, 1) := by decide +kernel
theorem dX4_startAnew_35 : decode cX4_startAnew 35 = .ok (.iconst (-1), 1) := by decide +kernel
theorem dX4_startAnew_36 : decode cX4_startAnew 36 = .ok (.iastore, 1) := by decide +kernel
theorem dX4_startAnew_37 : decode cX4_startAnew 37 = .ok (.iinc 2 1, 3) := by decide +kernel
theorem dX4_startAnew_40 : decode cX4_startAnew 40 = .ok (.goto (-38), 3) := by decide +kernel
theorem dX4_startAnew_43 : decode cX4_startAnew 43 = .ok (.aload_n 0, 1) := by decide +kernel
theorem dX4_startAnew_44 : decode cX4_startAnew 44 = .ok (.iload_n 1, 1) := by decide +kernel
theorem dX4_startAnew_45 : decode cX4_startAnew 45 = .ok (.putfield 32, 3) := by decide +kernel
theorem dX4_startAnew_48 : decode cX4_startAnew 48 = .ok (.return_, 1) := by decide +kernel
theorem dX4_copyFrom_0 : decode cX4_copyFrom 0 = .ok (.iconst 0, 1) := by decide +kernel
theorem dX4_copyFrom_1 : decode cX4_copyFrom 1 = .ok (.istore_n 2, 1) := by decide +kernel
theorem dX4_copyFrom_2 : decode cX4_copyFrom 2 = .ok (.iload_n 2, 1) := by decide +kernel
theorem dX4_copyFrom_3 : decode cX4_copyFrom 3 = .ok (.bipush 7, 2) := by decide +kernel
theorem dX4_copyFrom_5 : decode cX4_copyFrom 5 = .ok (.if_icmp .ge 45, 3) := by decide +kernel
theorem dX4_copyFrom_8 : decode cX4_copyFrom 8 = .ok (.aload_n 0, 1) := by decide +kernel
theorem dX4_copyFrom_9 : decode cX4_copyFrom 9 = .ok (.getfield 18, 3) := by decide +kernel
theorem dX4_copyFrom_12 : decode cX4_copyFrom 12 = .ok (.iload_n 2, 1) := by decide +kernel
theorem dX4_copyFrom_13 : decode cX4_copyFrom 13 = .ok (.aload_n 1, 1) := by decide +kernel
theorem dX4_copyFrom_14 : decode cX4_copyFrom 14 = .ok (.getfield 18, 3) := by decide +kernel
theorem dX4_copyFrom_17 : decode cX4_copyFrom 17 = .ok (.iload_n 2, 1) := by decide +kernel
theorem dX4_copyFrom_18 : decode cX4_copyFrom 18 = .ok (.iaload, 1) := by decide +kernel
theorem dX4_copyFrom_19 : decode cX4_copyFrom 19 = .ok (.iastore, 1) := by decide +kernel
theorem dX4_copyFrom_20 : decode cX4_copyFrom 20 = .ok (.aload_n 0, 1) := by decide +kernel
theorem dX4_copyFrom_21 : decode cX4_copyFrom 21 = .ok (.getfield 26, 3) := by decide +kernel
theorem dX4_copyFrom_24 : decode cX4_copyFrom 24 = .ok (.iload_n 2, 1) := by decide +kernel
theorem dX4_copyFrom_25 : decode cX4_copyFrom 25 = .ok (.aload_n 1, 1) := by decide +kernel
theorem dX4_copyFrom_26 : decode cX4_copyFrom 26 = .ok (.getfield 26, 3) := by decide +kernel
theorem dX4_copyFrom_29 : decode cX4_copyFrom 29 = .ok (.iload_n 2, 1) := by decide +kernel
theorem dX4_copyFrom_30 : decode cX4_copyFrom 30 = .ok (.iaload, 1) := by decide +kernel
theorem dX4_copyFrom_31 : decode cX4_copyFrom 31 = .ok (.iastore, 1) := by decide +kernel
theorem dX4_copyFrom_32 : decode cX4_copyFrom 32 = .ok (.aload_n 0, 1) := by decide +kernel
theorem dX4_copyFrom_33 : decode cX4_copyFrom 33 = .ok (.getfield 29, 3) := by decide +kernel
theorem dX4_copyFrom_36 : decode cX4_copyFrom 36 = .ok (.iload_n 2, 1) := by decide +kernel
theorem dX4_copyFrom_37 : decode cX4_copyFrom 37 = .ok (.aload_n 1, 1) := by decide +kernel
theorem dX4_copyFrom_38 : decode cX4_copyFrom 38 = .ok (.getfield 29, 3) := by decide +kernel
theorem dX4_copyFrom_41 : decode cX4_copyFrom 41 = .ok (.iload_n 2, 1) := by decide +kernel
theorem dX4_copyFrom_42 : decode cX4_copyFrom 42 = .ok (.iaload, 1) := by decide +kernel
theorem dX4_copyFrom_43 : decode cX4_copyFrom 43 = .ok (.iastore, 1) := by decide +kernel
theorem dX4_copyFrom_44 : decode cX4_copyFrom 44 = .ok (.iinc 2 1, 3) := by decide +kernel
theorem dX4_copyFrom_47 : decode cX4_copyFrom 47 = .ok (.goto (-45), 3) := by decide +kernel
theorem dX4_copyFrom_50 : decode cX4_copyFrom 50 = .ok (.aload_n 0, 1) := by decide +kernel
theorem dX4_copyFrom_51 : decode cX4_copyFrom 51 = .ok (.aload_n 1, 1) := by decide +kernel
theorem dX4_copyFrom_52 : decode cX4_copyFrom 52 = .ok (.getfield 32, 3) := by decide +kernel
theorem dX4_copyFrom_55 : decode cX4_copyFrom 55 = .ok (.putfield 32, 3) := by decide +kernel
theorem dX4_copyFrom_58 : decode cX4_copyFrom 58 = .ok (.return_, 1) := by decide +kernel
theorem dX4_has_0 : decode cX4_has 0 = .ok (.iload_n 1, 1) := by decide +kernel
theorem dX4_has_1 : decode cX4_has 1 = .ok (.ifCond .lt 15, 3) := by decide +kernel
theorem dX4_has_4 : decode cX4_has 4 = .ok (.iload_n 1, 1) := by decide +kernel
theorem dX4_has_5 : decode cX4_has 5 = .ok (.aload_n 0, 1) := by decide +kernel
theorem dX4_has_6 : decode cX4_has 6 = .ok (.getfield 32, 3) := by decide +kernel
theorem dX4_has_9 : decode cX4_has 9 = .ok (.if_icmp .ge 7, 3) := by decide +kernel
theorem dX4_has_12 : decode cX4_has 12 = .ok (.iconst 1, 1) := by decide +kernel
theorem dX4_has_13 : decode cX4_has 13 = .ok (.goto 4, 3) := by decide +kernel
theorem dX4_has_16 : decode cX4_has 16 = .ok (.iconst 0, 1) := by decide +kernel
theorem dX4_has_17 : decode cX4_has 17 = .ok (.ireturn, 1) := by decide +kernel
theorem dX4_dropOf_0 : decode cX4_dropOf 0 = .ok (.aload_n 0, 1) := by decide +kernel
theorem dX4_dropOf_1 : decode cX4_dropOf 1 = .ok (.iload_n 1, 1) := by decide +kernel
theorem dX4_dropOf_2 : decode cX4_dropOf 2 = .ok (.invokevirtual 36, 3) := by decide +kernel
theorem dX4_dropOf_5 : decode cX4_dropOf 5 = .ok (.ifCond .eq 12, 3) := by decide +kernel
theorem dX4_dropOf_8 : decode cX4_dropOf 8 = .ok (.aload_n 0, 1) := by decide +kernel
theorem dX4_dropOf_9 : decode cX4_dropOf 9 = .ok (.getfield 18, 3) := by decide +kernel
theorem dX4_dropOf_12 : decode cX4_dropOf 12 = .ok (.iload_n 1, 1) := by decide +kernel
theorem dX4_dropOf_13 : decode cX4_dropOf 13 = .ok (.iaload, 1) := by decide +kernel
theorem dX4_dropOf_14 : decode cX4_dropOf 14 = .ok (.goto 4, 3) := by decide +kernel
theorem dX4_dropOf_17 : decode cX4_dropOf 17 = .ok (.iconst 0, 1) := by decide +kernel
theorem dX4_dropOf_18 : decode cX4_dropOf 18 = .ok (.ireturn, 1) := by decide +kernel
theorem dX4_minutesOf_0 : decode cX4_minutesOf 0 = .ok (.aload_n 0, 1) := by decide +kernel
theorem dX4_minutesOf_1 : decode cX4_minutesOf 1 = .ok (.iload_n 1, 1) := by decide +kernel
theorem dX4_minutesOf_2 : decode cX4_minutesOf 2 = .ok (.invokevirtual 36, 3) := by decide +kernel
theorem dX4_minutesOf_5 : decode cX4_minutesOf 5 = .ok (.ifCond .eq 12, 3) := by decide +kernel
theorem dX4_minutesOf_8 : decode cX4_minutesOf 8 = .ok (.aload_n 0, 1) := by decide +kernel
theorem dX4_minutesOf_9 : decode cX4_minutesOf 9 = .ok (.getfield 26, 3) := by decide +kernel
theorem dX4_minutesOf_12 : decode cX4_minutesOf 12 = .ok (.iload_n 1, 1) := by decide +kernel
theorem dX4_minutesOf_13 : decode cX4_minutesOf 13 = .ok (.iaload, 1) := by decide +kernel
theorem dX4_minutesOf_14 : decode cX4_minutesOf 14 = .ok (.goto 4, 3) := by decide +kernel
theorem dX4_minutesOf_17 : decode cX4_minutesOf 17 = .ok (.iconst 0, 1) := by decide +kernel
theorem dX4_minutesOf_18 : decode cX4_minutesOf 18 = .ok (.ireturn, 1) := by decide +kernel
theorem dX4_ropeOf_0 : decode cX4_ropeOf 0 = .ok (.aload_n 0, 1) := by decide +kernel
theorem dX4_ropeOf_1 : decode cX4_ropeOf 1 = .ok (.iload_n 1, 1) := by decide +kernel
theorem dX4_ropeOf_2 : decode cX4_ropeOf 2 = .ok (.invokevirtual 36, 3) := by decide +kernel
theorem dX4_ropeOf_5 : decode cX4_ropeOf 5 = .ok (.ifCond .eq 12, 3) := by decide +kernel
theorem dX4_ropeOf_8 : decode cX4_ropeOf 8 = .ok (.aload_n 0, 1) := by decide +kernel
theorem dX4_ropeOf_9 : decode cX4_ropeOf 9 = .ok (.getfield 29, 3) := by decide +kernel
theorem dX4_ropeOf_12 : decode cX4_ropeOf 12 = .ok (.iload_n 1, 1) := by decide +kernel
theorem dX4_ropeOf_13 : decode cX4_ropeOf 13 = .ok (.iaload, 1) := by decide +kernel
theorem dX4_ropeOf_14 : decode cX4_ropeOf 14 = .ok (.goto 4, 3) := by decide +kernel
theorem dX4_ropeOf_17 : decode cX4_ropeOf 17 = .ok (.iconst (-1), 1) := by decide +kernel
theorem dX4_ropeOf_18 : decode cX4_ropeOf 18 = .ok (.ireturn, 1) := by decide +kernel
theorem dX4_isPitch_0 : decode cX4_isPitch 0 = .ok (.aload_n 0, 1) := by decide +kernel
theorem dX4_isPitch_1 : decode cX4_isPitch 1 = .ok (.iload_n 1, 1) := by decide +kernel
theorem dX4_isPitch_2 : decode cX4_isPitch 2 = .ok (.invokevirtual 36, 3) := by decide +kernel
theorem dX4_isPitch_5 : decode cX4_isPitch 5 = .ok (.ifCond .eq 16, 3) := by decide +kernel
theorem dX4_isPitch_8 : decode cX4_isPitch 8 = .ok (.aload_n 0, 1) := by decide +kernel
theorem dX4_isPitch_9 : decode cX4_isPitch 9 = .ok (.getfield 18, 3) := by decide +kernel
theorem dX4_isPitch_12 : decode cX4_isPitch 12 = .ok (.iload_n 1, 1) := by decide +kernel
theorem dX4_isPitch_13 : decode cX4_isPitch 13 = .ok (.iaload, 1) := by decide +kernel
theorem dX4_isPitch_14 : decode cX4_isPitch 14 = .ok (.ifCond .le 7, 3) := by decide +kernel
theorem dX4_isPitch_17 : decode cX4_isPitch 17 = .ok (.iconst 1, 1) := by decide +kernel
theorem dX4_isPitch_18 : decode cX4_isPitch 18 = .ok (.goto 4, 3) := by decide +kernel
theorem dX4_isPitch_21 : decode cX4_isPitch 21 = .ok (.iconst 0, 1) := by decide +kernel
theorem dX4_isPitch_22 : decode cX4_isPitch 22 = .ok (.ireturn, 1) := by decide +kernel
theorem dX4_isOpen_0 : decode cX4_isOpen 0 = .ok (.aload_n 0, 1) := by decide +kernel
theorem dX4_isOpen_1 : decode cX4_isOpen 1 = .ok (.iload_n 1, 1) := by decide +kernel
theorem dX4_isOpen_2 : decode cX4_isOpen 2 = .ok (.invokevirtual 36, 3) := by decide +kernel
theorem dX4_isOpen_5 : decode cX4_isOpen 5 = .ok (.ifCond .eq 22, 3) := by decide +kernel
theorem dX4_isOpen_8 : decode cX4_isOpen 8 = .ok (.aload_n 0, 1) := by decide +kernel
theorem dX4_isOpen_9 : decode cX4_isOpen 9 = .ok (.getfield 18, 3) := by decide +kernel
theorem dX4_isOpen_12 : decode cX4_isOpen 12 = .ok (.iload_n 1, 1) := by decide +kernel
theorem dX4_isOpen_13 : decode cX4_isOpen 13 = .ok (.iaload, 1) := by decide +kernel
theorem dX4_isOpen_14 : decode cX4_isOpen 14 = .ok (.ifCond .eq 13, 3) := by decide +kernel
theorem dX4_isOpen_17 : decode cX4_isOpen 17 = .ok (.aload_n 0, 1) := by decide +kernel
theorem dX4_isOpen_18 : decode cX4_isOpen 18 = .ok (.getfield 29, 3) := by decide +kernel
theorem dX4_isOpen_21 : decode cX4_isOpen 21 = .ok (.iload_n 1, 1) := by decide +kernel
theorem dX4_isOpen_22 : decode cX4_isOpen 22 = .ok (.iaload, 1) := by decide +kernel
theorem dX4_isOpen_23 : decode cX4_isOpen 23 = .ok (.iconst (-1), 1) := by decide +kernel
theorem dX4_isOpen_24 : decode cX4_isOpen 24 = .ok (.if_icmp .eq 7, 3) := by decide +kernel
theorem dX4_isOpen_27 : decode cX4_isOpen 27 = .ok (.iconst 1, 1) := by decide +kernel
theorem dX4_isOpen_28 : decode cX4_isOpen 28 = .ok (.goto 4, 3) := by decide +kernel
theorem dX4_isOpen_31 : decode cX4_isOpen 31 = .ok (.iconst 0, 1) := by decide +kernel
theorem dX4_isOpen_32 : decode cX4_isOpen 32 = .ok (.ireturn, 1) := by decide +kernel
theorem dX4_change_0 : decode cX4_change 0 = .ok (.aload_n 0, 1) := by decide +kernel
theorem dX4_change_1 : decode cX4_change 1 = .ok (.iload_n 1, 1) := by decide +kernel
theorem dX4_change_2 : decode cX4_change 2 = .ok (.invokevirtual 36, 3) := by decide +kernel
theorem dX4_change_5 : decode cX4_change 5 = .ok (.ifCond .eq 17, 3) := by decide +kernel
theorem dX4_change_8 : decode cX4_change 8 = .ok (.aload_n 0, 1) := by decide +kernel
theorem dX4_change_9 : decode cX4_change 9 = .ok (.getfield 18, 3) := by decide +kernel
theorem dX4_change_12 : decode cX4_change 12 = .ok (.iload_n 1, 1) := by decide +kernel
theorem dX4_change_13 : decode cX4_change 13 = .ok (.iload_n 2, 1) := by decide +kernel
theorem dX4_change_14 : decode cX4_change 14 = .ok (.iastore, 1) := by decide +kernel
theorem dX4_change_15 : decode cX4_change 15 = .ok (.aload_n 0, 1) := by decide +kernel
theorem dX4_change_16 : decode cX4_change 16 = .ok (.getfield 26, 3) := by decide +kernel
theorem dX4_change_19 : decode cX4_change 19 = .ok (.iload_n 1, 1) := by decide +kernel
theorem dX4_change_20 : decode cX4_change 20 = .ok (.iload_n 3, 1) := by decide +kernel
theorem dX4_change_21 : decode cX4_change 21 = .ok (.iastore, 1) := by decide +kernel
theorem dX4_change_22 : decode cX4_change 22 = .ok (.return_, 1) := by decide +kernel
theorem dX4_fix_0 : decode cX4_fix 0 = .ok (.aload_n 0, 1) := by decide +kernel
theorem dX4_fix_1 : decode cX4_fix 1 = .ok (.iload_n 1, 1) := by decide +kernel
theorem dX4_fix_2 : decode cX4_fix 2 = .ok (.invokevirtual 36, 3) := by decide +kernel
theorem dX4_fix_5 : decode cX4_fix 5 = .ok (.ifCond .eq 10, 3) := by decide +kernel
theorem dX4_fix_8 : decode cX4_fix 8 = .ok (.aload_n 0, 1) := by decide +kernel
theorem dX4_fix_9 : decode cX4_fix 9 = .ok (.getfield 29, 3) := by decide +kernel
theorem dX4_fix_12 : decode cX4_fix 12 = .ok (.iload_n 1, 1) := by decide +kernel
theorem dX4_fix_13 : decode cX4_fix 13 = .ok (.iload_n 2, 1) := by decide +kernel
theorem dX4_fix_14 : decode cX4_fix 14 = .ok (.iastore, 1) := by decide +kernel
theorem dX4_fix_15 : decode cX4_fix 15 = .ok (.return_, 1) := by decide +kernel
theorem dX4_wayUp_0 : decode cX4_wayUp 0 = .ok (.iconst 0, 1) := by decide +kernel
theorem dX4_wayUp_1 : decode cX4_wayUp 1 = .ok (.istore_n 2, 1) := by decide +kernel
theorem dX4_wayUp_2 : decode cX4_wayUp 2 = .ok (.iconst 0, 1) := by decide +kernel
theorem dX4_wayUp_3 : decode cX4_wayUp 3 = .ok (.istore_n 3, 1) := by decide +kernel
theorem dX4_wayUp_4 : decode cX4_wayUp 4 = .ok (.iload_n 3, 1) := by decide +kernel
theorem dX4_wayUp_5 : decode cX4_wayUp 5 = .ok (.iload_n 1, 1) := by decide +kernel
theorem dX4_wayUp_6 : decode cX4_wayUp 6 = .ok (.if_icmp .ge 26, 3) := by decide +kernel
theorem dX4_wayUp_9 : decode cX4_wayUp 9 = .ok (.iload_n 3, 1) := by decide +kernel
theorem dX4_wayUp_10 : decode cX4_wayUp 10 = .ok (.aload_n 0, 1) := by decide +kernel
theorem dX4_wayUp_11 : decode cX4_wayUp 11 = .ok (.getfield 32, 3) := by decide +kernel
theorem dX4_wayUp_14 : decode cX4_wayUp 14 = .ok (.if_icmp .ge 18, 3) := by decide +kernel
theorem dX4_wayUp_17 : decode cX4_wayUp 17 = .ok (.iload_n 2, 1) := by decide +kernel
theorem dX4_wayUp_18 : decode cX4_wayUp 18 = .ok (.aload_n 0, 1) := by decide +kernel
theorem dX4_wayUp_19 : decode cX4_wayUp 19 = .ok (.getfield 26, 3) := by decide +kernel
theorem dX4_wayUp_22 : decode cX4_wayUp 22 = .ok (.iload_n 3, 1) := by decide +kernel
theorem dX4_wayUp_23 : decode cX4_wayUp 23 = .ok (.iaload, 1) := by decide +kernel
theorem dX4_wayUp_24 : decode cX4_wayUp 24 = .ok (.iadd, 1) := by decide +kernel
theorem dX4_wayUp_25 : decode cX4_wayUp 25 = .ok (.istore_n 2, 1) := by decide +kernel
theorem dX4_wayUp_26 : decode cX4_wayUp 26 = .ok (.iinc 3 1, 3) := by decide +kernel
theorem dX4_wayUp_29 : decode cX4_wayUp 29 = .ok (.goto (-25), 3) := by decide +kernel
theorem dX4_wayUp_32 : decode cX4_wayUp 32 = .ok (.iload_n 2, 1) := by decide +kernel
theorem dX4_wayUp_33 : decode cX4_wayUp 33 = .ok (.ireturn, 1) := by decide +kernel
theorem dX4_isOpenUp_0 : decode cX4_isOpenUp 0 = .ok (.iconst 0, 1) := by decide +kernel
theorem dX4_isOpenUp_1 : decode cX4_isOpenUp 1 = .ok (.istore_n 2, 1) := by decide +kernel
theorem dX4_isOpenUp_2 : decode cX4_isOpenUp 2 = .ok (.iload_n 2, 1) := by decide +kernel
theorem dX4_isOpenUp_3 : decode cX4_isOpenUp 3 = .ok (.iload_n 1, 1) := by decide +kernel
theorem dX4_isOpenUp_4 : decode cX4_isOpenUp 4 = .ok (.if_icmp .ge 27, 3) := by decide +kernel
theorem dX4_isOpenUp_7 : decode cX4_isOpenUp 7 = .ok (.iload_n 2, 1) := by decide +kernel
theorem dX4_isOpenUp_8 : decode cX4_isOpenUp 8 = .ok (.aload_n 0, 1) := by decide +kernel
theorem dX4_isOpenUp_9 : decode cX4_isOpenUp 9 = .ok (.getfield 32, 3) := by decide +kernel
theorem dX4_isOpenUp_12 : decode cX4_isOpenUp 12 = .ok (.if_icmp .ge 19, 3) := by decide +kernel
theorem dX4_isOpenUp_15 : decode cX4_isOpenUp 15 = .ok (.aload_n 0, 1) := by decide +kernel
theorem dX4_isOpenUp_16 : decode cX4_isOpenUp 16 = .ok (.iload_n 2, 1) := by decide +kernel
theorem dX4_isOpenUp_17 : decode cX4_isOpenUp 17 = .ok (.invokevirtual 40, 3) := by decide +kernel
theorem dX4_isOpenUp_20 : decode cX4_isOpenUp 20 = .ok (.ifCond .ne 5, 3) := by decide +kernel
theorem dX4_isOpenUp_23 : decode cX4_isOpenUp 23 = .ok (.iconst 0, 1) := by decide +kernel
theorem dX4_isOpenUp_24 : decode cX4_isOpenUp 24 = .ok (.ireturn, 1) := by decide +kernel
theorem dX4_isOpenUp_25 : decode cX4_isOpenUp 25 = .ok (.iinc 2 1, 3) := by decide +kernel
theorem dX4_isOpenUp_28 : decode cX4_isOpenUp 28 = .ok (.goto (-26), 3) := by decide +kernel
theorem dX4_isOpenUp_31 : decode cX4_isOpenUp 31 = .ok (.iconst 1, 1) := by decide +kernel
theorem dX4_isOpenUp_32 : decode cX4_isOpenUp 32 = .ok (.ireturn, 1) := by decide +kernel
theorem dX4_countOfClosed_0 : decode cX4_countOfClosed 0 = .ok (.iconst 0, 1) := by decide +kernel
theorem dX4_countOfClosed_1 : decode cX4_countOfClosed 1 = .ok (.istore_n 1, 1) := by decide +kernel
theorem dX4_countOfClosed_2 : decode cX4_countOfClosed 2 = .ok (.iconst 0, 1) := by decide +kernel
theorem dX4_countOfClosed_3 : decode cX4_countOfClosed 3 = .ok (.istore_n 2, 1) := by decide +kernel
theorem dX4_countOfClosed_4 : decode cX4_countOfClosed 4 = .ok (.iload_n 2, 1) := by decide +kernel
theorem dX4_countOfClosed_5 : decode cX4_countOfClosed 5 = .ok (.aload_n 0, 1) := by decide +kernel
theorem dX4_countOfClosed_6 : decode cX4_countOfClosed 6 = .ok (.getfield 32, 3) := by decide +kernel
theorem dX4_countOfClosed_9 : decode cX4_countOfClosed 9 = .ok (.if_icmp .ge 20, 3) := by decide +kernel
theorem dX4_countOfClosed_12 : decode cX4_countOfClosed 12 = .ok (.aload_n 0, 1) := by decide +kernel
theorem dX4_countOfClosed_13 : decode cX4_countOfClosed 13 = .ok (.iload_n 2, 1) := by decide +kernel
theorem dX4_countOfClosed_14 : decode cX4_countOfClosed 14 = .ok (.invokevirtual 40, 3) := by decide +kernel
theorem dX4_countOfClosed_17 : decode cX4_countOfClosed 17 = .ok (.ifCond .ne 6, 3) := by decide +kernel
theorem dX4_countOfClosed_20 : decode cX4_countOfClosed 20 = .ok (.iinc 1 1, 3) := by decide +kernel
theorem dX4_countOfClosed_23 : decode cX4_countOfClosed 23 = .ok (.iinc 2 1, 3) := by decide +kernel
theorem dX4_countOfClosed_26 : decode cX4_countOfClosed 26 = .ok (.goto (-22), 3) := by decide +kernel
theorem dX4_countOfClosed_29 : decode cX4_countOfClosed 29 = .ok (.iload_n 1, 1) := by decide +kernel
theorem dX4_countOfClosed_30 : decode cX4_countOfClosed 30 = .ok (.ireturn, 1) := by decide +kernel
end
section
theorem dX5_init_0 : decode cX5_init 0 = .ok (.aload_n 0, 1) := by decide +kernel
theorem dX5_init_1 : decode cX5_init 1 = .ok (.invokespecial 3, 3) := by decide +kernel
theorem dX5_init_4 : decode cX5_init 4 = .ok (.aload_n 0, 1) := by decide +kernel
theorem dX5_init_5 : decode cX5_init 5 = .ok (.bipush 8, 2) := by decide +kernel
theorem dX5_init_7 : decode cX5_init 7 = .ok (.newarray .int, 2) := by decide +kernel
theorem dX5_init_9 : decode cX5_init 9 = .ok (.putfield 9, 3) := by decide +kernel
theorem dX5_init_12 : decode cX5_init 12 = .ok (.aload_n 0, 1) := by decide +kernel
theorem dX5_init_13 : decode cX5_init 13 = .ok (.bipush 8, 2) := by decide +kernel
theorem dX5_init_15 : decode cX5_init 15 = .ok (.newarray .int, 2) := by decide +kernel
theorem dX5_init_17 : decode cX5_init 17 = .ok (.putfield 15, 3) := by decide +kernel
theorem dX5_init_20 : decode cX5_init 20 = .ok (.aload_n 0, 1) := by decide +kernel
theorem dX5_init_21 : decode cX5_init 21 = .ok (.bipush 8, 2) := by decide +kernel
theorem dX5_init_23 : decode cX5_init 23 = .ok (.newarray .int, 2) := by decide +kernel
theorem dX5_init_25 : decode cX5_init 25 = .ok (.putfield 18, 3) := by decide +kernel
theorem dX5_init_28 : decode cX5_init 28 = .ok (.aload_n 0, 1) := by decide +kernel
theorem dX5_init_29 : decode cX5_init 29 = .ok (.iconst 0, 1) := by decide +kernel
theorem dX5_init_30 : decode cX5_init 30 = .ok (.putfield 21, 3) := by decide +kernel
theorem dX5_init_33 : decode cX5_init 33 = .ok (.return_, 1) := by decide +kernel
theorem dX5_copyFrom_0 : decode cX5_copyFrom 0 = .ok (.iconst 0, 1) := by decide +kernel
theorem dX5_copyFrom_1 : decode cX5_copyFrom 1 = .ok (.istore_n 2, 1) := by decide +kernel
theorem dX5_copyFrom_2 : decode cX5_copyFrom 2 = .ok (.iload_n 2, 1) := by decide +kernel
theorem dX5_copyFrom_3 : decode cX5_copyFrom 3 = .ok (.bipush 8, 2) := by decide +kernel
theorem dX5_copyFrom_5 : decode cX5_copyFrom 5 = .ok (.if_icmp .ge 45, 3) := by decide +kernel
theorem dX5_copyFrom_8 : decode cX5_copyFrom 8 = .ok (.aload_n 0, 1) := by decide +kernel
theorem dX5_copyFrom_9 : decode cX5_copyFrom 9 = .ok (.getfield 9, 3) := by decide +kernel
theorem dX5_copyFrom_12 : decode cX5_copyFrom 12 = .ok (.iload_n 2, 1) := by decide +kernel
theorem dX5_copyFrom_13 : decode cX5_copyFrom 13 = .ok (.aload_n 1, 1) := by decide +kernel
theorem dX5_copyFrom_14 : decode cX5_copyFrom 14 = .ok (.getfield 9, 3) := by decide +kernel
theorem dX5_copyFrom_17 : decode cX5_copyFrom 17 = .ok (.iload_n 2, 1) := by decide +kernel
theorem dX5_copyFrom_18 : decode cX5_copyFrom 18 = .ok (.iaload, 1) := by decide +kernel
theorem dX5_copyFrom_19 : decode cX5_copyFrom 19 = .ok (.iastore, 1) := by decide +kernel
theorem dX5_copyFrom_20 : decode cX5_copyFrom 20 = .ok (.aload_n 0, 1) := by decide +kernel
theorem dX5_copyFrom_21 : decode cX5_copyFrom 21 = .ok (.getfield 15, 3) := by decide +kernel
theorem dX5_copyFrom_24 : decode cX5_copyFrom 24 = .ok (.iload_n 2, 1) := by decide +kernel
theorem dX5_copyFrom_25 : decode cX5_copyFrom 25 = .ok (.aload_n 1, 1) := by decide +kernel
theorem dX5_copyFrom_26 : decode cX5_copyFrom 26 = .ok (.getfield 15, 3) := by decide +kernel
theorem dX5_copyFrom_29 : decode cX5_copyFrom 29 = .ok (.iload_n 2, 1) := by decide +kernel
theorem dX5_copyFrom_30 : decode cX5_copyFrom 30 = .ok (.iaload, 1) := by decide +kernel
theorem dX5_copyFrom_31 : decode cX5_copyFrom 31 = .ok (.iastore, 1) := by decide +kernel
theorem dX5_copyFrom_32 : decode cX5_copyFrom 32 = .ok (.aload_n 0, 1) := by decide +kernel
theorem dX5_copyFrom_33 : decode cX5_copyFrom 33 = .ok (.getfield 18, 3) := by decide +kernel
theorem dX5_copyFrom_36 : decode cX5_copyFrom 36 = .ok (.iload_n 2, 1) := by decide +kernel
theorem dX5_copyFrom_37 : decode cX5_copyFrom 37 = .ok (.aload_n 1, 1) := by decide +kernel
theorem dX5_copyFrom_38 : decode cX5_copyFrom 38 = .ok (.getfield 18, 3) := by decide +kernel
theorem dX5_copyFrom_41 : decode cX5_copyFrom 41 = .ok (.iload_n 2, 1) := by decide +kernel
theorem dX5_copyFrom_42 : decode cX5_copyFrom 42 = .ok (.iaload, 1) := by decide +kernel
theorem dX5_copyFrom_43 : decode cX5_copyFrom 43 = .ok (.iastore, 1) := by decide +kernel
theorem dX5_copyFrom_44 : decode cX5_copyFrom 44 = .ok (.iinc 2 1, 3) := by decide +kernel
theorem dX5_copyFrom_47 : decode cX5_copyFrom 47 = .ok (.goto (-45), 3) := by decide +kernel
theorem dX5_copyFrom_50 : decode cX5_copyFrom 50 = .ok (.aload_n 0, 1) := by decide +kernel
theorem dX5_copyFrom_51 : decode cX5_copyFrom 51 = .ok (.aload_n 1, 1) := by decide +kernel
theorem dX5_copyFrom_52 : decode cX5_copyFrom 52 = .ok (.getfield 21, 3) := by decide +kernel
theorem dX5_copyFrom_55 : decode cX5_copyFrom 55 = .ok (.putfield 21, 3) := by decide +kernel
theorem dX5_copyFrom_58 : decode cX5_copyFrom 58 = .ok (.return_, 1) := by decide +kernel
theorem dX5_addOne_0 : decode cX5_addOne 0 = .ok (.aload_n 0, 1) := by decide +kernel
theorem dX5_addOne_1 : decode cX5_addOne 1 = .ok (.getfield 21, 3) := by decide +kernel
theorem dX5_addOne_4 : decode cX5_addOne 4 = .ok (.istore_n 2, 1) := by decide +kernel
theorem dX5_addOne_5 : decode cX5_addOne 5 = .ok (.iload_n 2, 1) := by decide +kernel
theorem dX5_addOne_6 : decode cX5_addOne 6 = .ok (.bipush 8, 2) := by decide +kernel
theorem dX5_addOne_8 : decode cX5_addOne 8 = .ok (.if_icmp .lt 5, 3) := by decide +kernel
theorem dX5_addOne_11 : decode cX5_addOne 11 = .ok (.iconst (-1), 1) := by decide +kernel
theorem dX5_addOne_12 : decode cX5_addOne 12 = .ok (.ireturn, 1) := by decide +kernel
theorem dX5_addOne_13 : decode cX5_addOne 13 = .ok (.aload_n 0, 1) := by decide +kernel
theorem dX5_addOne_14 : decode cX5_addOne 14 = .ok (.getfield 9, 3) := by decide +kernel
theorem dX5_addOne_17 : decode cX5_addOne 17 = .ok (.iload_n 2, 1) := by decide +kernel
theorem dX5_addOne_18 : decode cX5_addOne 18 = .ok (.iload_n 1, 1) := by decide +kernel
theorem dX5_addOne_19 : decode cX5_addOne 19 = .ok (.iastore, 1) := by decide +kernel
theorem dX5_addOne_20 : decode cX5_addOne 20 = .ok (.aload_n 0, 1) := by decide +kernel
theorem dX5_addOne_21 : decode cX5_addOne 21 = .ok (.dup, 1) := by decide +kernel
theorem dX5_addOne_22 : decode cX5_addOne 22 = .ok (.getfield 21, 3) := by decide +kernel
theorem dX5_addOne_25 : decode cX5_addOne 25 = .ok (.iconst 1, 1) := by decide +kernel
theorem dX5_addOne_26 : decode cX5_addOne 26 = .ok (.iadd, 1) := by decide +kernel
theorem dX5_addOne_27 : decode cX5_addOne 27 = .ok (.putfield 21, 3) := by decide +kernel
theorem dX5_addOne_30 : decode cX5_addOne 30 = .ok (.aload_n 0, 1) := by decide +kernel
theorem dX5_addOne_31 : decode cX5_addOne 31 = .ok (.iload_n 2, 1) := by decide +kernel
theorem dX5_addOne_32 : decode cX5_addOne 32 = .ok (.iconst 0, 1) := by decide +kernel
theorem dX5_addOne_33 : decode cX5_addOne 33 = .ok (.iconst 0, 1) := by decide +kernel
theorem dX5_addOne_34 : decode cX5_addOne 34 = .ok (.invokevirtual 25, 3) := by decide +kernel
theorem dX5_addOne_37 : decode cX5_addOne 37 = .ok (.iload_n 2, 1) := by decide +kernel
theorem dX5_addOne_38 : decode cX5_addOne 38 = .ok (.ireturn, 1) := by decide +kernel
theorem dX5_has_0 : decode cX5_has 0 = .ok (.iload_n 1, 1) := by decide +kernel
theorem dX5_has_1 : decode cX5_has 1 = .ok (.ifCond .lt 15, 3) := by decide +kernel
theorem dX5_has_4 : decode cX5_has 4 = .ok (.iload_n 1, 1) := by decide +kernel
theorem dX5_has_5 : decode cX5_has 5 = .ok (.aload_n 0, 1) := by decide +kernel
theorem dX5_has_6 : decode cX5_has 6 = .ok (.getfield 21, 3) := by decide +kernel
theorem dX5_has_9 : decode cX5_has 9 = .ok (.if_icmp .ge 7, 3) := by decide +kernel
theorem dX5_has_12 : decode cX5_has 12 = .ok (.iconst 1, 1) := by decide +kernel
theorem dX5_has_13 : decode cX5_has 13 = .ok (.goto 4, 3) := by decide +kernel
theorem dX5_has_16 : decode cX5_has 16 = .ok (.iconst 0, 1) := by decide +kernel
theorem dX5_has_17 : decode cX5_has 17 = .ok (.ireturn, 1) := by decide +kernel
theorem dX5_put_0 : decode cX5_put 0 = .ok (.aload_n 0, 1) := by decide +kernel
theorem dX5_put_1 : decode cX5_put 1 = .ok (.iload_n 1, 1) := by decide +kernel
theorem dX5_put_2 : decode cX5_put 2 = .ok (.invokevirtual 29, 3) := by decide +kernel
theorem dX5_put_5 : decode cX5_put 5 = .ok (.ifCond .eq 17, 3) := by decide +kernel
theorem dX5_put_8 : decode cX5_put 8 = .ok (.aload_n 0, 1) := by decide +kernel
theorem dX5_put_9 : decode cX5_put 9 = .ok (.getfield 15, 3) := by decide +kernel
theorem dX5_put_12 : decode cX5_put 12 = .ok (.iload_n 1, 1) := by decide +kernel
theorem dX5_put_13 : decode cX5_put 13 = .ok (.iload_n 2, 1) := by decide +kernel
theorem dX5_put_14 : decode cX5_put 14 = .ok (.iastore, 1) := by decide +kernel
theorem dX5_put_15 : decode cX5_put 15 = .ok (.aload_n 0, 1) := by decide +kernel
theorem dX5_put_16 : decode cX5_put 16 = .ok (.getfield 18, 3) := by decide +kernel
theorem dX5_put_19 : decode cX5_put 19 = .ok (.iload_n 1, 1) := by decide +kernel
theorem dX5_put_20 : decode cX5_put 20 = .ok (.iload_n 3, 1) := by decide +kernel
theorem dX5_put_21 : decode cX5_put 21 = .ok (.iastore, 1) := by decide +kernel
theorem dX5_put_22 : decode cX5_put 22 = .ok (.return_, 1) := by decide +kernel
theorem dX5_lengthOf_0 : decode cX5_lengthOf 0 = .ok (.aload_n 0, 1) := by decide +kernel
theorem dX5_lengthOf_1 : decode cX5_lengthOf 1 = .ok (.iload_n 1, 1) := by decide +kernel
theorem dX5_lengthOf_2 : decode cX5_lengthOf 2 = .ok (.invokevirtual 29, 3) := by decide +kernel
theorem dX5_lengthOf_5 : decode cX5_lengthOf 5 = .ok (.ifCond .eq 12, 3) := by decide +kernel
theorem dX5_lengthOf_8 : decode cX5_lengthOf 8 = .ok (.aload_n 0, 1) := by decide +kernel
theorem dX5_lengthOf_9 : decode cX5_lengthOf 9 = .ok (.getfield 9, 3) := by decide +kernel
theorem dX5_lengthOf_12 : decode cX5_lengthOf 12 = .ok (.iload_n 1, 1) := by decide +kernel
theorem dX5_lengthOf_13 : decode cX5_lengthOf 13 = .ok (.iaload, 1) := by decide +kernel
theorem dX5_lengthOf_14 : decode cX5_lengthOf 14 = .ok (.goto 4, 3) := by decide +kernel
theorem dX5_lengthOf_17 : decode cX5_lengthOf 17 = .ok (.iconst 0, 1) := by decide +kernel
theorem dX5_lengthOf_18 : decode cX5_lengthOf 18 = .ok (.ireturn, 1) := by decide +kernel
theorem dX5_liesAt_0 : decode cX5_liesAt 0 = .ok (.aload_n 0, 1) := by decide +kernel
theorem dX5_liesAt_1 : decode cX5_liesAt 1 = .ok (.iload_n 1, 1) := by decide +kernel
theorem dX5_liesAt_2 : decode cX5_liesAt 2 = .ok (.invokevirtual 29, 3) := by decide +kernel
theorem dX5_liesAt_5 : decode cX5_liesAt 5 = .ok (.ifCond .eq 26, 3) := by decide +kernel
theorem dX5_liesAt_8 : decode cX5_liesAt 8 = .ok (.aload_n 0, 1) := by decide +kernel
theorem dX5_liesAt_9 : decode cX5_liesAt 9 = .ok (.getfield 15, 3) := by decide +kernel
theorem dX5_liesAt_12 : decode cX5_liesAt 12 = .ok (.iload_n 1, 1) := by decide +kernel
theorem dX5_liesAt_13 : decode cX5_liesAt 13 = .ok (.iaload, 1) := by decide +kernel
theorem dX5_liesAt_14 : decode cX5_liesAt 14 = .ok (.ifCond .ne 17, 3) := by decide +kernel
theorem dX5_liesAt_17 : decode cX5_liesAt 17 = .ok (.aload_n 0, 1) := by decide +kernel
theorem dX5_liesAt_18 : decode cX5_liesAt 18 = .ok (.getfield 18, 3) := by decide +kernel
theorem dX5_liesAt_21 : decode cX5_liesAt 21 = .ok (.iload_n 1, 1) := by decide +kernel
theorem dX5_liesAt_22 : decode cX5_liesAt 22 = .ok (.iaload, 1) := by decide +kernel
theorem dX5_liesAt_23 : decode cX5_liesAt 23 = .ok (.iload_n 2, 1) := by decide +kernel
theorem dX5_liesAt_24 : decode cX5_liesAt 24 = .ok (.if_icmp .ne 7, 3) := by decide +kernel
theorem dX5_liesAt_27 : decode cX5_liesAt 27 = .ok (.iconst 1, 1) := by decide +kernel
theorem dX5_liesAt_28 : decode cX5_liesAt 28 = .ok (.goto 4, 3) := by decide +kernel
theorem dX5_liesAt_31 : decode cX5_liesAt 31 = .ok (.iconst 0, 1) := by decide +kernel
theorem dX5_liesAt_32 : decode cX5_liesAt 32 = .ok (.ireturn, 1) := by decide +kernel
theorem dX5_holds_0 : decode cX5_holds 0 = .ok (.aload_n 0, 1) := by decide +kernel
theorem dX5_holds_1 : decode cX5_holds 1 = .ok (.iload_n 1, 1) := by decide +kernel
theorem dX5_holds_2 : decode cX5_holds 2 = .ok (.invokevirtual 29, 3) := by decide +kernel
theorem dX5_holds_5 : decode cX5_holds 5 = .ok (.ifCond .eq 19, 3) := by decide +kernel
theorem dX5_holds_8 : decode cX5_holds 8 = .ok (.aload_n 0, 1) := by decide +kernel
theorem dX5_holds_9 : decode cX5_holds 9 = .ok (.getfield 9, 3) := by decide +kernel
theorem dX5_holds_12 : decode cX5_holds 12 = .ok (.iload_n 1, 1) := by decide +kernel
theorem dX5_holds_13 : decode cX5_holds 13 = .ok (.iaload, 1) := by decide +kernel
theorem dX5_holds_14 : decode cX5_holds 14 = .ok (.iload_n 2, 1) := by decide +kernel
theorem dX5_holds_15 : decode cX5_holds 15 = .ok (.iconst 3, 1) := by decide +kernel
theorem dX5_holds_16 : decode cX5_holds 16 = .ok (.iadd, 1) := by decide +kernel
theorem dX5_holds_17 : decode cX5_holds 17 = .ok (.if_icmp .lt 7, 3) := by decide +kernel
theorem dX5_holds_20 : decode cX5_holds 20 = .ok (.iconst 1, 1) := by decide +kernel
theorem dX5_holds_21 : decode cX5_holds 21 = .ok (.goto 4, 3) := by decide +kernel
theorem dX5_holds_24 : decode cX5_holds 24 = .ok (.iconst 0, 1) := by decide +kernel
theorem dX5_holds_25 : decode cX5_holds 25 = .ok (.ireturn, 1) := by decide +kernel
theorem dX5_shortestFree_0 : decode cX5_shortestFree 0 = .ok (.iconst (-1), 1) := by decide +kernel
theorem dX5_shortestFree_1 : decode cX5_shortestFree 1 = .ok (.istore_n 2, 1) := by decide +kernel
theorem dX5_shortestFree_2 : decode cX5_shortestFree 2 = .ok (.iconst 0, 1) := by decide +kernel
theorem dX5_shortestFree_3 : decode cX5_shortestFree 3 = .ok (.istore_n 3, 1) := by decide +kernel
theorem dX5_shortestFree_4 : decode cX5_shortestFree 4 = .ok (.iload_n 3, 1) := by decide +kernel
theorem dX5_shortestFree_5 : decode cX5_shortestFree 5 = .ok (.aload_n 0, 1) := by decide +kernel
theorem dX5_shortestFree_6 : decode cX5_shortestFree 6 = .ok (.getfield 21, 3) := by decide +kernel
theorem dX5_shortestFree_9 : decode cX5_shortestFree 9 = .ok (.if_icmp .ge 61, 3) := by decide +kernel
theorem dX5_shortestFree_12 : decode cX5_shortestFree 12 = .ok (.iload_n 2, 1) := by decide +kernel
theorem dX5_shortestFree_13 : decode cX5_shortestFree 13 = .ok (.iconst (-1), 1) := by decide +kernel
theorem dX5_shortestFree_14 : decode cX5_shortestFree 14 = .ok (.if_icmp .eq 17, 3) := by decide +kernel
theorem dX5_shortestFree_17 : decode cX5_shortestFree 17 = .ok (.aload_n 0, 1) := by decide +kernel
theorem dX5_shortestFree_18 : decode cX5_shortestFree 18 = .ok (.getfield 9, 3) := by decide +kernel
theorem dX5_shortestFree_21 : decode cX5_shortestFree 21 = .ok (.iload_n 3, 1) := by decide +kernel
theorem dX5_shortestFree_22 : decode cX5_shortestFree 22 = .ok (.iaload, 1) := by decide +kernel
theorem dX5_shortestFree_23 : decode cX5_shortestFree 23 = .ok (.aload_n 0, 1) := by decide +kernel
theorem dX5_shortestFree_24 : decode cX5_shortestFree 24 = .ok (.iload_n 2, 1) := by decide +kernel
theorem dX5_shortestFree_25 : decode cX5_shortestFree 25 = .ok (.invokevirtual 33, 3) := by decide +kernel
theorem dX5_shortestFree_28 : decode cX5_shortestFree 28 = .ok (.if_icmp .ge 7, 3) := by decide +kernel
theorem dX5_shortestFree_31 : decode cX5_shortestFree 31 = .ok (.iconst 1, 1) := by decide +kernel
theorem dX5_shortestFree_32 : decode cX5_shortestFree 32 = .ok (.goto 4, 3) := by decide +kernel
theorem dX5_shortestFree_35 : decode cX5_shortestFree 35 = .ok (.iconst 0, 1) := by decide +kernel
theorem dX5_shortestFree_36 : decode cX5_shortestFree 36 = .ok (.istore 4, 2) := by decide +kernel
theorem dX5_shortestFree_38 : decode cX5_shortestFree 38 = .ok (.iload 4, 2) := by decide +kernel
theorem dX5_shortestFree_40 : decode cX5_shortestFree 40 = .ok (.ifCond .eq 24, 3) := by decide +kernel
theorem dX5_shortestFree_43 : decode cX5_shortestFree 43 = .ok (.aload_n 0, 1) := by decide +kernel
theorem dX5_shortestFree_44 : decode cX5_shortestFree 44 = .ok (.getfield 15, 3) := by decide +kernel
theorem dX5_shortestFree_47 : decode cX5_shortestFree 47 = .ok (.iload_n 3, 1) := by decide +kernel
theorem dX5_shortestFree_48 : decode cX5_shortestFree 48 = .ok (.iaload, 1) := by decide +kernel
theorem dX5_shortestFree_49 : decode cX5_shortestFree 49 = .ok (.iconst 2, 1) := by decide +kernel
theorem dX5_shortestFree_50 : decode cX5_shortestFree 50 = .ok (.if_icmp .eq 14, 3) := by decide +kernel
theorem dX5_shortestFree_53 : decode cX5_shortestFree 53 = .ok (.aload_n 0, 1) := by decide +kernel
theorem dX5_shortestFree_54 : decode cX5_shortestFree 54 = .ok (.iload_n 3, 1) := by decide +kernel
theorem dX5_shortestFree_55 : decode cX5_shortestFree 55 = .ok (.iload_n 1, 1) := by decide +kernel
theorem dX5_shortestFree_56 : decode cX5_shortestFree 56 = .ok (.invokevirtual 37, 3) := by decide +kernel
theorem dX5_shortestFree_59 : decode cX5_shortestFree 59 = .ok (.ifCond .eq 5, 3) := by decide +kernel
theorem dX5_shortestFree_62 : decode cX5_shortestFree 62 = .ok (.iload_n 3, 1) := by decide +kernel
theorem dX5_shortestFree_63 : decode cX5_shortestFree 63 = .ok (.istore_n 2, 1) := by decide +kernel
theorem dX5_shortestFree_64 : decode cX5_shortestFree 64 = .ok (.iinc 3 1, 3) := by decide +kernel
theorem dX5_shortestFree_67 : decode cX5_shortestFree 67 = .ok (.goto (-63), 3) := by decide +kernel
theorem dX5_shortestFree_70 : decode cX5_shortestFree 70 = .ok (.iload_n 2, 1) := by decide +kernel
theorem dX5_shortestFree_71 : decode cX5_shortestFree 71 = .ok (.ireturn, 1) := by decide +kernel
theorem dX5_about_0 : decode cX5_about 0 = .ok (.aload_n 0, 1) := by decide +kernel
theorem dX5_about_1 : decode cX5_about 1 = .ok (.iload_n 1, 1) := by decide +kernel
theorem dX5_about_2 : decode cX5_about 2 = .ok (.invokevirtual 29, 3) := by decide +kernel
theorem dX5_about_5 : decode cX5_about 5 = .ok (.ifCond .ne 5, 3) := by decide +kernel
theorem dX5_about_8 : decode cX5_about 8 = .ok (.iconst (-1), 1) := by decide +kernel
theorem dX5_about_9 : decode cX5_about 9 = .ok (.ireturn, 1) := by decide +kernel
theorem dX5_about_10 : decode cX5_about 10 = .ok (.iload_n 2, 1) := by decide +kernel
theorem dX5_about_11 : decode cX5_about 11 = .ok (.lookupswitch 39 #[(0, 25), (1, 32)], 25) := by decide +kernel
theorem dX5_about_36 : decode cX5_about 36 = .ok (.aload_n 0, 1) := by decide +kernel
theorem dX5_about_37 : decode cX5_about 37 = .ok (.getfield 9, 3) := by decide +kernel
theorem dX5_about_40 : decode cX5_about 40 = .ok (.iload_n 1, 1) := by decide +kernel
theorem dX5_about_41 : decode cX5_about 41 = .ok (.iaload, 1) := by decide +kernel
theorem dX5_about_42 : decode cX5_about 42 = .ok (.ireturn, 1) := by decide +kernel
theorem dX5_about_43 : decode cX5_about 43 = .ok (.aload_n 0, 1) := by decide +kernel
theorem dX5_about_44 : decode cX5_about 44 = .ok (.getfield 15, 3) := by decide +kernel
theorem dX5_about_47 : decode cX5_about 47 = .ok (.iload_n 1, 1) := by decide +kernel
theorem dX5_about_48 : decode cX5_about 48 = .ok (.iaload, 1) := by decide +kernel
theorem dX5_about_49 : decode cX5_about 49 = .ok (.ireturn, 1) := by decide +kernel
theorem dX5_about_50 : decode cX5_about 50 = .ok (.aload_n 0, 1) := by decide +kernel
theorem dX5_about_51 : decode cX5_about 51 = .ok (.getfield 18, 3) := by decide +kernel
theorem dX5_about_54 : decode cX5_about 54 = .ok (.iload_n 1, 1) := by decide +kernel
theorem dX5_about_55 : decode cX5_about 55 = .ok (.iaload, 1) := by decide +kernel
theorem dX5_about_56 : decode cX5_about 56 = .ok (.ireturn, 1) := by decide +kernel
end
section
theorem dX6_init_0 : decode cX6_init 0 = .ok (.aload_n 0, 1) := by decide +kernel
theorem dX6_init_1 : decode cX6_init 1 = .ok (.invokespecial 3, 3) := by decide +kernel
theorem dX6_init_4 : decode cX6_init 4 = .ok (.aload_n 0, 1) := by decide +kernel
theorem dX6_init_5 : decode cX6_init 5 = .ok (.bipush 90, 2) := by decide +kernel
theorem dX6_init_7 : decode cX6_init 7 = .ok (.newarray .int, 2) := by decide +kernel
theorem dX6_init_9 : decode cX6_init 9 = .ok (.putfield 9, 3) := by decide +kernel
theorem dX6_init_12 : decode cX6_init 12 = .ok (.aload_n 0, 1) := by decide +kernel
theorem dX6_init_13 : decode cX6_init 13 = .ok (.iconst 0, 1) := by decide +kernel
theorem dX6_init_14 : decode cX6_init 14 = .ok (.putfield 15, 3) := by decide +kernel
theorem dX6_init_17 : decode cX6_init 17 = .ok (.return_, 1) := by decide +kernel
theorem dX6_add_0 : decode cX6_add 0 = .ok (.aload_n 0, 1) := by decide +kernel
theorem dX6_add_1 : decode cX6_add 1 = .ok (.getfield 15, 3) := by decide +kernel
theorem dX6_add_4 : decode cX6_add 4 = .ok (.bipush 90, 2) := by decide +kernel
theorem dX6_add_6 : decode cX6_add 6 = .ok (.if_icmp .ge 23, 3) := by decide +kernel
theorem dX6_add_9 : decode cX6_add 9 = .ok (.aload_n 0, 1) := by decide +kernel
theorem dX6_add_10 : decode cX6_add 10 = .ok (.getfield 9, 3) := by decide +kernel
theorem dX6_add_13 : decode cX6_add 13 = .ok (.aload_n 0, 1) := by decide +kernel
theorem dX6_add_14 : decode cX6_add 14 = .ok (.getfield 15, 3) := by decide +kernel
theorem dX6_add_17 : decode cX6_add 17 = .ok (.iload_n 1, 1) := by decide +kernel
theorem dX6_add_18 : decode cX6_add 18 = .ok (.iastore, 1) := by decide +kernel
theorem dX6_add_19 : decode cX6_add 19 = .ok (.aload_n 0, 1) := by decide +kernel
theorem dX6_add_20 : decode cX6_add 20 = .ok (.dup, 1) := by decide +kernel
theorem dX6_add_21 : decode cX6_add 21 = .ok (.getfield 15, 3) := by decide +kernel
theorem dX6_add_24 : decode cX6_add 24 = .ok (.iconst 1, 1) := by decide +kernel
theorem dX6_add_25 : decode cX6_add 25 = .ok (.iadd, 1) := by decide +kernel
theorem dX6_add_26 : decode cX6_add 26 = .ok (.putfield 15, 3) := by decide +kernel
theorem dX6_add_29 : decode cX6_add 29 = .ok (.return_, 1) := by decide +kernel
theorem dX6_byteAt_0 : decode cX6_byteAt 0 = .ok (.iload_n 1, 1) := by decide +kernel
theorem dX6_byteAt_1 : decode cX6_byteAt 1 = .ok (.ifCond .lt 20, 3) := by decide +kernel
theorem dX6_byteAt_4 : decode cX6_byteAt 4 = .ok (.iload_n 1, 1) := by decide +kernel
theorem dX6_byteAt_5 : decode cX6_byteAt 5 = .ok (.aload_n 0, 1) := by decide +kernel
theorem dX6_byteAt_6 : decode cX6_byteAt 6 = .ok (.getfield 15, 3) := by decide +kernel
theorem dX6_byteAt_9 : decode cX6_byteAt 9 = .ok (.if_icmp .ge 12, 3) := by decide +kernel
theorem dX6_byteAt_12 : decode cX6_byteAt 12 = .ok (.aload_n 0, 1) := by decide +kernel
theorem dX6_byteAt_13 : decode cX6_byteAt 13 = .ok (.getfield 9, 3) := by decide +kernel
theorem dX6_byteAt_16 : decode cX6_byteAt 16 = .ok (.iload_n 1, 1) := by decide +kernel
theorem dX6_byteAt_17 : decode cX6_byteAt 17 = .ok (.iaload, 1) := by decide +kernel
theorem dX6_byteAt_18 : decode cX6_byteAt 18 = .ok (.goto 4, 3) := by decide +kernel
theorem dX6_byteAt_21 : decode cX6_byteAt 21 = .ok (.iconst (-1), 1) := by decide +kernel
theorem dX6_byteAt_22 : decode cX6_byteAt 22 = .ok (.ireturn, 1) := by decide +kernel
theorem dX6_digitAt_0 : decode cX6_digitAt 0 = .ok (.aload_n 0, 1) := by decide +kernel
theorem dX6_digitAt_1 : decode cX6_digitAt 1 = .ok (.iload_n 1, 1) := by decide +kernel
theorem dX6_digitAt_2 : decode cX6_digitAt 2 = .ok (.invokevirtual 19, 3) := by decide +kernel
theorem dX6_digitAt_5 : decode cX6_digitAt 5 = .ok (.istore_n 2, 1) := by decide +kernel
theorem dX6_digitAt_6 : decode cX6_digitAt 6 = .ok (.iload_n 2, 1) := by decide +kernel
theorem dX6_digitAt_7 : decode cX6_digitAt 7 = .ok (.bipush 48, 2) := by decide +kernel
theorem dX6_digitAt_9 : decode cX6_digitAt 9 = .ok (.if_icmp .lt 16, 3) := by decide +kernel
theorem dX6_digitAt_12 : decode cX6_digitAt 12 = .ok (.iload_n 2, 1) := by decide +kernel
theorem dX6_digitAt_13 : decode cX6_digitAt 13 = .ok (.bipush 57, 2) := by decide +kernel
theorem dX6_digitAt_15 : decode cX6_digitAt 15 = .ok (.if_icmp .gt 10, 3) := by decide +kernel
theorem dX6_digitAt_18 : decode cX6_digitAt 18 = .ok (.iload_n 2, 1) := by decide +kernel
theorem dX6_digitAt_19 : decode cX6_digitAt 19 = .ok (.bipush 48, 2) := by decide +kernel
theorem dX6_digitAt_21 : decode cX6_digitAt 21 = .ok (.isub, 1) := by decide +kernel
theorem dX6_digitAt_22 : decode cX6_digitAt 22 = .ok (.goto 4, 3) := by decide +kernel
theorem dX6_digitAt_25 : decode cX6_digitAt 25 = .ok (.iconst (-1), 1) := by decide +kernel
theorem dX6_digitAt_26 : decode cX6_digitAt 26 = .ok (.ireturn, 1) := by decide +kernel
theorem dX6_firstWrong_0 : decode cX6_firstWrong 0 = .ok (.iconst 0, 1) := by decide +kernel
theorem dX6_firstWrong_1 : decode cX6_firstWrong 1 = .ok (.istore_n 1, 1) := by decide +kernel
theorem dX6_firstWrong_2 : decode cX6_firstWrong 2 = .ok (.iconst 0, 1) := by decide +kernel
theorem dX6_firstWrong_3 : decode cX6_firstWrong 3 = .ok (.istore_n 2, 1) := by decide +kernel
theorem dX6_firstWrong_4 : decode cX6_firstWrong 4 = .ok (.iload_n 2, 1) := by decide +kernel
theorem dX6_firstWrong_5 : decode cX6_firstWrong 5 = .ok (.bipush 90, 2) := by decide +kernel
theorem dX6_firstWrong_7 : decode cX6_firstWrong 7 = .ok (.if_icmp .ge 32, 3) := by decide +kernel
theorem dX6_firstWrong_10 : decode cX6_firstWrong 10 = .ok (.iload_n 1, 1) := by decide +kernel
theorem dX6_firstWrong_11 : decode cX6_firstWrong 11 = .ok (.aload_n 0, 1) := by decide +kernel
theorem dX6_firstWrong_12 : decode cX6_firstWrong 12 = .ok (.getfield 15, 3) := by decide +kernel
theorem dX6_firstWrong_15 : decode cX6_firstWrong 15 = .ok (.if_icmp .ge 24, 3) := by decide +kernel
theorem dX6_firstWrong_18 : decode cX6_firstWrong 18 = .ok (.aload_n 0, 1) := by decide +kernel
theorem dX6_firstWrong_19 : decode cX6_firstWrong 19 = .ok (.iload_n 1, 1) := by decide +kernel
theorem dX6_firstWrong_20 : decode cX6_firstWrong 20 = .ok (.invokevirtual 23, 3) := by decide +kernel
theorem dX6_firstWrong_23 : decode cX6_firstWrong 23 = .ok (.istore_n 1, 1) := by decide +kernel
theorem dX6_firstWrong_24 : decode cX6_firstWrong 24 = .ok (.iload_n 1, 1) := by decide +kernel
theorem dX6_firstWrong_25 : decode cX6_firstWrong 25 = .ok (.ifCond .ge 8, 3) := by decide +kernel
theorem dX6_firstWrong_28 : decode cX6_firstWrong 28 = .ok (.iload_n 1, 1) := by decide +kernel
theorem dX6_firstWrong_29 : decode cX6_firstWrong 29 = .ok (.invokestatic 26, 3) := by decide +kernel
theorem dX6_firstWrong_32 : decode cX6_firstWrong 32 = .ok (.ireturn, 1) := by decide +kernel
theorem dX6_firstWrong_33 : decode cX6_firstWrong 33 = .ok (.iinc 2 1, 3) := by decide +kernel
theorem dX6_firstWrong_36 : decode cX6_firstWrong 36 = .ok (.goto (-32), 3) := by decide +kernel
theorem dX6_firstWrong_39 : decode cX6_firstWrong 39 = .ok (.iconst (-1), 1) := by decide +kernel
theorem dX6_firstWrong_40 : decode cX6_firstWrong 40 = .ok (.ireturn, 1) := by decide +kernel
theorem dX6_wrongAt_0 : decode cX6_wrongAt 0 = .ok (.iconst (-1), 1) := by decide +kernel
theorem dX6_wrongAt_1 : decode cX6_wrongAt 1 = .ok (.iload_n 0, 1) := by decide +kernel
theorem dX6_wrongAt_2 : decode cX6_wrongAt 2 = .ok (.isub, 1) := by decide +kernel
theorem dX6_wrongAt_3 : decode cX6_wrongAt 3 = .ok (.ireturn, 1) := by decide +kernel
theorem dX6_behindOrder_0 : decode cX6_behindOrder 0 = .ok (.aload_n 0, 1) := by decide +kernel
theorem dX6_behindOrder_1 : decode cX6_behindOrder 1 = .ok (.iload_n 1, 1) := by decide +kernel
theorem dX6_behindOrder_2 : decode cX6_behindOrder 2 = .ok (.invokevirtual 19, 3) := by decide +kernel
theorem dX6_behindOrder_5 : decode cX6_behindOrder 5 = .ok (.tableswitch 139 99 116 #[123, 139, 139, 139, 87, 139, 139, 139, 139, 139, 95, 139, 139, 131, 139, 95, 139, 87], 87) := by decide +kernel
theorem dX6_behindOrder_92 : decode cX6_behindOrder 92 = .ok (.aload_n 0, 1) := by decide +kernel
theorem dX6_behindOrder_93 : decode cX6_behindOrder 93 = .ok (.iload_n 1, 1) := by decide +kernel
theorem dX6_behindOrder_94 : decode cX6_behindOrder 94 = .ok (.iconst 1, 1) := by decide +kernel
theorem dX6_behindOrder_95 : decode cX6_behindOrder 95 = .ok (.iadd, 1) := by decide +kernel
theorem dX6_behindOrder_96 : decode cX6_behindOrder 96 = .ok (.invokevirtual 29, 3) := by decide +kernel
theorem dX6_behindOrder_99 : decode cX6_behindOrder 99 = .ok (.ireturn, 1) := by decide +kernel
theorem dX6_behindOrder_100 : decode cX6_behindOrder 100 = .ok (.aload_n 0, 1) := by decide +kernel
theorem dX6_behindOrder_101 : decode cX6_behindOrder 101 = .ok (.iconst 5, 1) := by decide +kernel
theorem dX6_behindOrder_102 : decode cX6_behindOrder 102 = .ok (.iload_n 1, 1) := by decide +kernel
theorem dX6_behindOrder_103 : decode cX6_behindOrder 103 = .ok (.iconst 1, 1) := by decide +kernel
theorem dX6_behindOrder_104 : decode cX6_behindOrder 104 = .ok (.iadd, 1) := by decide +kernel
theorem dX6_behindOrder_105 : decode cX6_behindOrder 105 = .ok (.invokevirtual 32, 3) := by decide +kernel
theorem dX6_behindOrder_108 : decode cX6_behindOrder 108 = .ok (.ifCond .eq 13, 3) := by decide +kernel
theorem dX6_behindOrder_111 : decode cX6_behindOrder 111 = .ok (.aload_n 0, 1) := by decide +kernel
theorem dX6_behindOrder_112 : decode cX6_behindOrder 112 = .ok (.iload_n 1, 1) := by decide +kernel
theorem dX6_behindOrder_113 : decode cX6_behindOrder 113 = .ok (.iconst 2, 1) := by decide +kernel
theorem dX6_behindOrder_114 : decode cX6_behindOrder 114 = .ok (.iadd, 1) := by decide +kernel
theorem dX6_behindOrder_115 : decode cX6_behindOrder 115 = .ok (.invokevirtual 36, 3) := by decide +kernel
theorem dX6_behindOrder_118 : decode cX6_behindOrder 118 = .ok (.goto 9, 3) := by decide +kernel
theorem dX6_behindOrder_121 : decode cX6_behindOrder 121 = .ok (.iload_n 1, 1) := by decide +kernel
theorem dX6_behindOrder_122 : decode cX6_behindOrder 122 = .ok (.iconst 1, 1) := by decide +kernel
theorem dX6_behindOrder_123 : decode cX6_behindOrder 123 = .ok (.iadd, 1) := by decide +kernel
theorem dX6_behindOrder_124 : decode cX6_behindOrder 124 = .ok (.invokestatic 26, 3) := by decide +kernel
theorem dX6_behindOrder_127 : decode cX6_behindOrder 127 = .ok (.ireturn, 1) := by decide +kernel
theorem dX6_behindOrder_128 : decode cX6_behindOrder 128 = .ok (.aload_n 0, 1) := by decide +kernel
theorem dX6_behindOrder_129 : decode cX6_behindOrder 129 = .ok (.iload_n 1, 1) := by decide +kernel
theorem dX6_behindOrder_130 : decode cX6_behindOrder 130 = .ok (.iconst 1, 1) := by decide +kernel
theorem dX6_behindOrder_131 : decode cX6_behindOrder 131 = .ok (.iadd, 1) := by decide +kernel
theorem dX6_behindOrder_132 : decode cX6_behindOrder 132 = .ok (.invokevirtual 39, 3) := by decide +kernel
theorem dX6_behindOrder_135 : decode cX6_behindOrder 135 = .ok (.ireturn, 1) := by decide +kernel
theorem dX6_behindOrder_136 : decode cX6_behindOrder 136 = .ok (.aload_n 0, 1) := by decide +kernel
theorem dX6_behindOrder_137 : decode cX6_behindOrder 137 = .ok (.iload_n 1, 1) := by decide +kernel
theorem dX6_behindOrder_138 : decode cX6_behindOrder 138 = .ok (.iconst 1, 1) := by decide +kernel
theorem dX6_behindOrder_139 : decode cX6_behindOrder 139 = .ok (.iadd, 1) := by decide +kernel
theorem dX6_behindOrder_140 : decode cX6_behindOrder 140 = .ok (.invokevirtual 42, 3) := by decide +kernel
theorem dX6_behindOrder_143 : decode cX6_behindOrder 143 = .ok (.ireturn, 1) := by decide +kernel
theorem dX6_behindOrder_144 : decode cX6_behindOrder 144 = .ok (.iload_n 1, 1) := by decide +kernel
theorem dX6_behindOrder_145 : decode cX6_behindOrder 145 = .ok (.invokestatic 26, 3) := by decide +kernel
theorem dX6_behindOrder_148 : decode cX6_behindOrder 148 = .ok (.ireturn, 1) := by decide +kernel
theorem dX6_behindEnd_0 : decode cX6_behindEnd 0 = .ok (.aload_n 0, 1) := by decide +kernel
theorem dX6_behindEnd_1 : decode cX6_behindEnd 1 = .ok (.iload_n 1, 1) := by decide +kernel
theorem dX6_behindEnd_2 : decode cX6_behindEnd 2 = .ok (.invokevirtual 19, 3) := by decide +kernel
theorem dX6_behindEnd_5 : decode cX6_behindEnd 5 = .ok (.bipush 59, 2) := by decide +kernel
theorem dX6_behindEnd_7 : decode cX6_behindEnd 7 = .ok (.if_icmp .ne 9, 3) := by decide +kernel
theorem dX6_behindEnd_10 : decode cX6_behindEnd 10 = .ok (.iload_n 1, 1) := by decide +kernel
theorem dX6_behindEnd_11 : decode cX6_behindEnd 11 = .ok (.iconst 1, 1) := by decide +kernel
theorem dX6_behindEnd_12 : decode cX6_behindEnd 12 = .ok (.iadd, 1) := by decide +kernel
theorem dX6_behindEnd_13 : decode cX6_behindEnd 13 = .ok (.goto 7, 3) := by decide +kernel
theorem dX6_behindEnd_16 : decode cX6_behindEnd 16 = .ok (.iload_n 1, 1) := by decide +kernel
theorem dX6_behindEnd_17 : decode cX6_behindEnd 17 = .ok (.invokestatic 26, 3) := by decide +kernel
theorem dX6_behindEnd_20 : decode cX6_behindEnd 20 = .ok (.ireturn, 1) := by decide +kernel
theorem dX6_isUpTo_0 : decode cX6_isUpTo 0 = .ok (.aload_n 0, 1) := by decide +kernel
theorem dX6_isUpTo_1 : decode cX6_isUpTo 1 = .ok (.iload_n 2, 1) := by decide +kernel
theorem dX6_isUpTo_2 : decode cX6_isUpTo 2 = .ok (.invokevirtual 45, 3) := by decide +kernel
theorem dX6_isUpTo_5 : decode cX6_isUpTo 5 = .ok (.istore_n 3, 1) := by decide +kernel
theorem dX6_isUpTo_6 : decode cX6_isUpTo 6 = .ok (.iload_n 3, 1) := by decide +kernel
theorem dX6_isUpTo_7 : decode cX6_isUpTo 7 = .ok (.iconst (-1), 1) := by decide +kernel
theorem dX6_isUpTo_8 : decode cX6_isUpTo 8 = .ok (.if_icmp .eq 12, 3) := by decide +kernel
theorem dX6_isUpTo_11 : decode cX6_isUpTo 11 = .ok (.iload_n 3, 1) := by decide +kernel
theorem dX6_isUpTo_12 : decode cX6_isUpTo 12 = .ok (.iload_n 1, 1) := by decide +kernel
theorem dX6_isUpTo_13 : decode cX6_isUpTo 13 = .ok (.if_icmp .gt 7, 3) := by decide +kernel
theorem dX6_isUpTo_16 : decode cX6_isUpTo 16 = .ok (.iconst 1, 1) := by decide +kernel
theorem dX6_isUpTo_17 : decode cX6_isUpTo 17 = .ok (.goto 4, 3) := by decide +kernel
theorem dX6_isUpTo_20 : decode cX6_isUpTo 20 = .ok (.iconst 0, 1) := by decide +kernel
theorem dX6_isUpTo_21 : decode cX6_isUpTo 21 = .ok (.ireturn, 1) := by decide +kernel
theorem dX6_behindTwoDigits_0 : decode cX6_behindTwoDigits 0 = .ok (.aload_n 0, 1) := by decide +kernel
theorem dX6_behindTwoDigits_1 : decode cX6_behindTwoDigits 1 = .ok (.iconst 5, 1) := by decide +kernel
theorem dX6_behindTwoDigits_2 : decode cX6_behindTwoDigits 2 = .ok (.iload_n 1, 1) := by decide +kernel
theorem dX6_behindTwoDigits_3 : decode cX6_behindTwoDigits 3 = .ok (.invokevirtual 32, 3) := by decide +kernel
theorem dX6_behindTwoDigits_6 : decode cX6_behindTwoDigits 6 = .ok (.ifCond .ne 8, 3) := by decide +kernel
theorem dX6_behindTwoDigits_9 : decode cX6_behindTwoDigits 9 = .ok (.iload_n 1, 1) := by decide +kernel
theorem dX6_behindTwoDigits_10 : decode cX6_behindTwoDigits 10 = .ok (.invokestatic 26, 3) := by decide +kernel
theorem dX6_behindTwoDigits_13 : decode cX6_behindTwoDigits 13 = .ok (.ireturn, 1) := by decide +kernel
theorem dX6_behindTwoDigits_14 : decode cX6_behindTwoDigits 14 = .ok (.aload_n 0, 1) := by decide +kernel
theorem dX6_behindTwoDigits_15 : decode cX6_behindTwoDigits 15 = .ok (.bipush 7, 2) := by decide +kernel
theorem dX6_behindTwoDigits_17 : decode cX6_behindTwoDigits 17 = .ok (.iload_n 1, 1) := by decide +kernel
theorem dX6_behindTwoDigits_18 : decode cX6_behindTwoDigits 18 = .ok (.iconst 1, 1) := by decide +kernel
theorem dX6_behindTwoDigits_19 : decode cX6_behindTwoDigits 19 = .ok (.iadd, 1) := by decide +kernel
theorem dX6_behindTwoDigits_20 : decode cX6_behindTwoDigits 20 = .ok (.invokevirtual 32, 3) := by decide +kernel
theorem dX6_behindTwoDigits_23 : decode cX6_behindTwoDigits 23 = .ok (.ifCond .eq 13, 3) := by decide +kernel
theorem dX6_behindTwoDigits_26 : decode cX6_behindTwoDigits 26 = .ok (.aload_n 0, 1) := by decide +kernel
theorem dX6_behindTwoDigits_27 : decode cX6_behindTwoDigits 27 = .ok (.iload_n 1, 1) := by decide +kernel
theorem dX6_behindTwoDigits_28 : decode cX6_behindTwoDigits 28 = .ok (.iconst 2, 1) := by decide +kernel
theorem dX6_behindTwoDigits_29 : decode cX6_behindTwoDigits 29 = .ok (.iadd, 1) := by decide +kernel
theorem dX6_behindTwoDigits_30 : decode cX6_behindTwoDigits 30 = .ok (.invokevirtual 36, 3) := by decide +kernel
theorem dX6_behindTwoDigits_33 : decode cX6_behindTwoDigits 33 = .ok (.goto 9, 3) := by decide +kernel
theorem dX6_behindTwoDigits_36 : decode cX6_behindTwoDigits 36 = .ok (.iload_n 1, 1) := by decide +kernel
theorem dX6_behindTwoDigits_37 : decode cX6_behindTwoDigits 37 = .ok (.iconst 1, 1) := by decide +kernel
theorem dX6_behindTwoDigits_38 : decode cX6_behindTwoDigits 38 = .ok (.iadd, 1) := by decide +kernel
theorem dX6_behindTwoDigits_39 : decode cX6_behindTwoDigits 39 = .ok (.invokestatic 26, 3) := by decide +kernel
theorem dX6_behindTwoDigits_42 : decode cX6_behindTwoDigits 42 = .ok (.ireturn, 1) := by decide +kernel
theorem dX6_behindSet_0 : decode cX6_behindSet 0 = .ok (.aload_n 0, 1) := by decide +kernel
theorem dX6_behindSet_1 : decode cX6_behindSet 1 = .ok (.iload_n 1, 1) := by decide +kernel
theorem dX6_behindSet_2 : decode cX6_behindSet 2 = .ok (.invokevirtual 48, 3) := by decide +kernel
theorem dX6_behindSet_5 : decode cX6_behindSet 5 = .ok (.istore_n 2, 1) := by decide +kernel
theorem dX6_behindSet_6 : decode cX6_behindSet 6 = .ok (.iload_n 2, 1) := by decide +kernel
theorem dX6_behindSet_7 : decode cX6_behindSet 7 = .ok (.iconst 3, 1) := by decide +kernel
theorem dX6_behindSet_8 : decode cX6_behindSet 8 = .ok (.if_icmp .ge 12, 3) := by decide +kernel
theorem dX6_behindSet_11 : decode cX6_behindSet 11 = .ok (.iload_n 1, 1) := by decide +kernel
theorem dX6_behindSet_12 : decode cX6_behindSet 12 = .ok (.iload_n 2, 1) := by decide +kernel
theorem dX6_behindSet_13 : decode cX6_behindSet 13 = .ok (.iadd, 1) := by decide +kernel
theorem dX6_behindSet_14 : decode cX6_behindSet 14 = .ok (.invokestatic 26, 3) := by decide +kernel
theorem dX6_behindSet_17 : decode cX6_behindSet 17 = .ok (.goto 10, 3) := by decide +kernel
theorem dX6_behindSet_20 : decode cX6_behindSet 20 = .ok (.aload_n 0, 1) := by decide +kernel
theorem dX6_behindSet_21 : decode cX6_behindSet 21 = .ok (.iload_n 1, 1) := by decide +kernel
theorem dX6_behindSet_22 : decode cX6_behindSet 22 = .ok (.iload_n 2, 1) := by decide +kernel
theorem dX6_behindSet_23 : decode cX6_behindSet 23 = .ok (.iadd, 1) := by decide +kernel
theorem dX6_behindSet_24 : decode cX6_behindSet 24 = .ok (.invokevirtual 36, 3) := by decide +kernel
theorem dX6_behindSet_27 : decode cX6_behindSet 27 = .ok (.ireturn, 1) := by decide +kernel
theorem dX6_digitsOfSet_0 : decode cX6_digitsOfSet 0 = .ok (.iconst (-1), 1) := by decide +kernel
theorem dX6_digitsOfSet_1 : decode cX6_digitsOfSet 1 = .ok (.istore_n 2, 1) := by decide +kernel
theorem dX6_digitsOfSet_2 : decode cX6_digitsOfSet 2 = .ok (.iconst 0, 1) := by decide +kernel
theorem dX6_digitsOfSet_3 : decode cX6_digitsOfSet 3 = .ok (.istore_n 3, 1) := by decide +kernel
theorem dX6_digitsOfSet_4 : decode cX6_digitsOfSet 4 = .ok (.iload_n 3, 1) := by decide +kernel
theorem dX6_digitsOfSet_5 : decode cX6_digitsOfSet 5 = .ok (.bipush 6, 2) := by decide +kernel
theorem dX6_digitsOfSet_7 : decode cX6_digitsOfSet 7 = .ok (.if_icmp .ge 36, 3) := by decide +kernel
theorem dX6_digitsOfSet_10 : decode cX6_digitsOfSet 10 = .ok (.aload_n 0, 1) := by decide +kernel
theorem dX6_digitsOfSet_11 : decode cX6_digitsOfSet 11 = .ok (.iload_n 1, 1) := by decide +kernel
theorem dX6_digitsOfSet_12 : decode cX6_digitsOfSet 12 = .ok (.iload_n 3, 1) := by decide +kernel
theorem dX6_digitsOfSet_13 : decode cX6_digitsOfSet 13 = .ok (.iadd, 1) := by decide +kernel
theorem dX6_digitsOfSet_14 : decode cX6_digitsOfSet 14 = .ok (.invokevirtual 45, 3) := by decide +kernel
theorem dX6_digitsOfSet_17 : decode cX6_digitsOfSet 17 = .ok (.istore 4, 2) := by decide +kernel
theorem dX6_digitsOfSet_19 : decode cX6_digitsOfSet 19 = .ok (.iload 4, 2) := by decide +kernel
theorem dX6_digitsOfSet_21 : decode cX6_digitsOfSet 21 = .ok (.iload_n 2, 1) := by decide +kernel
theorem dX6_digitsOfSet_22 : decode cX6_digitsOfSet 22 = .ok (.if_icmp .le 10, 3) := by decide +kernel
theorem dX6_digitsOfSet_25 : decode cX6_digitsOfSet 25 = .ok (.iload 4, 2) := by decide +kernel
theorem dX6_digitsOfSet_27 : decode cX6_digitsOfSet 27 = .ok (.bipush 6, 2) := by decide +kernel
theorem dX6_digitsOfSet_29 : decode cX6_digitsOfSet 29 = .ok (.if_icmp .lt 5, 3) := by decide +kernel
theorem dX6_digitsOfSet_32 : decode cX6_digitsOfSet 32 = .ok (.iload_n 3, 1) := by decide +kernel
theorem dX6_digitsOfSet_33 : decode cX6_digitsOfSet 33 = .ok (.ireturn, 1) := by decide +kernel
theorem dX6_digitsOfSet_34 : decode cX6_digitsOfSet 34 = .ok (.iload 4, 2) := by decide +kernel
theorem dX6_digitsOfSet_36 : decode cX6_digitsOfSet 36 = .ok (.istore_n 2, 1) := by decide +kernel
theorem dX6_digitsOfSet_37 : decode cX6_digitsOfSet 37 = .ok (.iinc 3 1, 3) := by decide +kernel
theorem dX6_digitsOfSet_40 : decode cX6_digitsOfSet 40 = .ok (.goto (-36), 3) := by decide +kernel
theorem dX6_digitsOfSet_43 : decode cX6_digitsOfSet 43 = .ok (.bipush 6, 2) := by decide +kernel
theorem dX6_digitsOfSet_45 : decode cX6_digitsOfSet 45 = .ok (.ireturn, 1) := by decide +kernel
theorem dX6_setAt_0 : decode cX6_setAt 0 = .ok (.iconst 0, 1) := by decide +kernel
theorem dX6_setAt_1 : decode cX6_setAt 1 = .ok (.istore_n 2, 1) := by decide +kernel
theorem dX6_setAt_2 : decode cX6_setAt 2 = .ok (.aload_n 0, 1) := by decide +kernel
theorem dX6_setAt_3 : decode cX6_setAt 3 = .ok (.iload_n 1, 1) := by decide +kernel
theorem dX6_setAt_4 : decode cX6_setAt 4 = .ok (.invokevirtual 48, 3) := by decide +kernel
theorem dX6_setAt_7 : decode cX6_setAt 7 = .ok (.istore_n 3, 1) := by decide +kernel
theorem dX6_setAt_8 : decode cX6_setAt 8 = .ok (.iconst 0, 1) := by decide +kernel
theorem dX6_setAt_9 : decode cX6_setAt 9 = .ok (.istore 4, 2) := by decide +kernel
theorem dX6_setAt_11 : decode cX6_setAt 11 = .ok (.iload 4, 2) := by decide +kernel
theorem dX6_setAt_13 : decode cX6_setAt 13 = .ok (.iload_n 3, 1) := by decide +kernel
theorem dX6_setAt_14 : decode cX6_setAt 14 = .ok (.if_icmp .ge 22, 3) := by decide +kernel
theorem dX6_setAt_17 : decode cX6_setAt 17 = .ok (.iload_n 2, 1) := by decide +kernel
theorem dX6_setAt_18 : decode cX6_setAt 18 = .ok (.iconst 1, 1) := by decide +kernel
theorem dX6_setAt_19 : decode cX6_setAt 19 = .ok (.aload_n 0, 1) := by decide +kernel
theorem dX6_setAt_20 : decode cX6_setAt 20 = .ok (.iload_n 1, 1) := by decide +kernel
theorem dX6_setAt_21 : decode cX6_setAt 21 = .ok (.iload 4, 2) := by decide +kernel
theorem dX6_setAt_23 : decode cX6_setAt 23 = .ok (.iadd, 1) := by decide +kernel
theorem dX6_setAt_24 : decode cX6_setAt 24 = .ok (.invokevirtual 45, 3) := by decide +kernel
theorem dX6_setAt_27 : decode cX6_setAt 27 = .ok (.ishl, 1) := by decide +kernel
theorem dX6_setAt_28 : decode cX6_setAt 28 = .ok (.ior, 1) := by decide +kernel
theorem dX6_setAt_29 : decode cX6_setAt 29 = .ok (.istore_n 2, 1) := by decide +kernel
theorem dX6_setAt_30 : decode cX6_setAt 30 = .ok (.iinc 4 1, 3) := by decide +kernel
theorem dX6_setAt_33 : decode cX6_setAt 33 = .ok (.goto (-22), 3) := by decide +kernel
theorem dX6_setAt_36 : decode cX6_setAt 36 = .ok (.iload_n 2, 1) := by decide +kernel
theorem dX6_setAt_37 : decode cX6_setAt 37 = .ok (.ireturn, 1) := by decide +kernel
theorem dX6_behindNumber_0 : decode cX6_behindNumber 0 = .ok (.aload_n 0, 1) := by decide +kernel
theorem dX6_behindNumber_1 : decode cX6_behindNumber 1 = .ok (.iload_n 1, 1) := by decide +kernel
theorem dX6_behindNumber_2 : decode cX6_behindNumber 2 = .ok (.invokevirtual 51, 3) := by decide +kernel
theorem dX6_behindNumber_5 : decode cX6_behindNumber 5 = .ok (.istore_n 2, 1) := by decide +kernel
theorem dX6_behindNumber_6 : decode cX6_behindNumber 6 = .ok (.iload_n 2, 1) := by decide +kernel
theorem dX6_behindNumber_7 : decode cX6_behindNumber 7 = .ok (.ifCond .eq 14, 3) := by decide +kernel
theorem dX6_behindNumber_10 : decode cX6_behindNumber 10 = .ok (.aload_n 0, 1) := by decide +kernel
theorem dX6_behindNumber_11 : decode cX6_behindNumber 11 = .ok (.iload_n 1, 1) := by decide +kernel
theorem dX6_behindNumber_12 : decode cX6_behindNumber 12 = .ok (.iload_n 2, 1) := by decide +kernel
theorem dX6_behindNumber_13 : decode cX6_behindNumber 13 = .ok (.iadd, 1) := by decide +kernel
theorem dX6_behindNumber_14 : decode cX6_behindNumber 14 = .ok (.invokevirtual 45, 3) := by decide +kernel
theorem dX6_behindNumber_17 : decode cX6_behindNumber 17 = .ok (.iconst (-1), 1) := by decide +kernel
theorem dX6_behindNumber_18 : decode cX6_behindNumber 18 = .ok (.if_icmp .eq 10, 3) := by decide +kernel
theorem dX6_behindNumber_21 : decode cX6_behindNumber 21 = .ok (.iload_n 1, 1) := by decide +kernel
theorem dX6_behindNumber_22 : decode cX6_behindNumber 22 = .ok (.iload_n 2, 1) := by decide +kernel
theorem dX6_behindNumber_23 : decode cX6_behindNumber 23 = .ok (.iadd, 1) := by decide +kernel
theorem dX6_behindNumber_24 : decode cX6_behindNumber 24 = .ok (.invokestatic 26, 3) := by decide +kernel
theorem dX6_behindNumber_27 : decode cX6_behindNumber 27 = .ok (.ireturn, 1) := by decide +kernel
theorem dX6_behindNumber_28 : decode cX6_behindNumber 28 = .ok (.aload_n 0, 1) := by decide +kernel
theorem dX6_behindNumber_29 : decode cX6_behindNumber 29 = .ok (.iload_n 1, 1) := by decide +kernel
theorem dX6_behindNumber_30 : decode cX6_behindNumber 30 = .ok (.invokevirtual 54, 3) := by decide +kernel
theorem dX6_behindNumber_33 : decode cX6_behindNumber 33 = .ok (.istore_n 3, 1) := by decide +kernel
theorem dX6_behindNumber_34 : decode cX6_behindNumber 34 = .ok (.iload_n 3, 1) := by decide +kernel
theorem dX6_behindNumber_35 : decode cX6_behindNumber 35 = .ok (.iconst 1, 1) := by decide +kernel
theorem dX6_behindNumber_36 : decode cX6_behindNumber 36 = .ok (.if_icmp .lt 10, 3) := by decide +kernel
theorem dX6_behindNumber_39 : decode cX6_behindNumber 39 = .ok (.iload_n 3, 1) := by decide +kernel
theorem dX6_behindNumber_40 : decode cX6_behindNumber 40 = .ok (.sipush 600, 3) := by decide +kernel
theorem dX6_behindNumber_43 : decode cX6_behindNumber 43 = .ok (.if_icmp .le 10, 3) := by decide +kernel
theorem dX6_behindNumber_46 : decode cX6_behindNumber 46 = .ok (.iload_n 1, 1) := by decide +kernel
theorem dX6_behindNumber_47 : decode cX6_behindNumber 47 = .ok (.invokestatic 26, 3) := by decide +kernel
theorem dX6_behindNumber_50 : decode cX6_behindNumber 50 = .ok (.goto 10, 3) := by decide +kernel
theorem dX6_behindNumber_53 : decode cX6_behindNumber 53 = .ok (.aload_n 0, 1) := by decide +kernel
theorem dX6_behindNumber_54 : decode cX6_behindNumber 54 = .ok (.iload_n 1, 1) := by decide +kernel
theorem dX6_behindNumber_55 : decode cX6_behindNumber 55 = .ok (.iload_n 2, 1) := by decide +kernel
theorem dX6_behindNumber_56 : decode cX6_behindNumber 56 = .ok (.iadd, 1) := by decide +kernel
theorem dX6_behindNumber_57 : decode cX6_behindNumber 57 = .ok (.invokevirtual 36, 3) := by decide +kernel
theorem dX6_behindNumber_60 : decode cX6_behindNumber 60 = .ok (.ireturn, 1) := by decide +kernel
theorem dX6_digitsOfNumber_0 : decode cX6_digitsOfNumber 0 = .ok (.iconst 0, 1) := by decide +kernel
theorem dX6_digitsOfNumber_1 : decode cX6_digitsOfNumber 1 = .ok (.istore_n 2, 1) := by decide +kernel
theorem dX6_digitsOfNumber_2 : decode cX6_digitsOfNumber 2 = .ok (.iload_n 2, 1) := by decide +kernel
theorem dX6_digitsOfNumber_3 : decode cX6_digitsOfNumber 3 = .ok (.iconst 3, 1) := by decide +kernel
theorem dX6_digitsOfNumber_4 : decode cX6_digitsOfNumber 4 = .ok (.if_icmp .ge 22, 3) := by decide +kernel
theorem dX6_digitsOfNumber_7 : decode cX6_digitsOfNumber 7 = .ok (.aload_n 0, 1) := by decide +kernel
theorem dX6_digitsOfNumber_8 : decode cX6_digitsOfNumber 8 = .ok (.iload_n 1, 1) := by decide +kernel
theorem dX6_digitsOfNumber_9 : decode cX6_digitsOfNumber 9 = .ok (.iload_n 2, 1) := by decide +kernel
theorem dX6_digitsOfNumber_10 : decode cX6_digitsOfNumber 10 = .ok (.iadd, 1) := by decide +kernel
theorem dX6_digitsOfNumber_11 : decode cX6_digitsOfNumber 11 = .ok (.invokevirtual 45, 3) := by decide +kernel
theorem dX6_digitsOfNumber_14 : decode cX6_digitsOfNumber 14 = .ok (.iconst (-1), 1) := by decide +kernel
theorem dX6_digitsOfNumber_15 : decode cX6_digitsOfNumber 15 = .ok (.if_icmp .ne 5, 3) := by decide +kernel
theorem dX6_digitsOfNumber_18 : decode cX6_digitsOfNumber 18 = .ok (.iload_n 2, 1) := by decide +kernel
theorem dX6_digitsOfNumber_19 : decode cX6_digitsOfNumber 19 = .ok (.ireturn, 1) := by decide +kernel
theorem dX6_digitsOfNumber_20 : decode cX6_digitsOfNumber 20 = .ok (.iinc 2 1, 3) := by decide +kernel
theorem dX6_digitsOfNumber_23 : decode cX6_digitsOfNumber 23 = .ok (.goto (-21), 3) := by decide +kernel
theorem dX6_digitsOfNumber_26 : decode cX6_digitsOfNumber 26 = .ok (.iconst 3, 1) := by decide +kernel
theorem dX6_digitsOfNumber_27 : decode cX6_digitsOfNumber 27 = .ok (.ireturn, 1) := by decide +kernel
theorem dX6_numberAt_0 : decode cX6_numberAt 0 = .ok (.iconst 0, 1) := by decide +kernel
theorem dX6_numberAt_1 : decode cX6_numberAt 1 = .ok (.istore_n 2, 1) := by decide +kernel
theorem dX6_numberAt_2 : decode cX6_numberAt 2 = .ok (.aload_n 0, 1) := by decide +kernel
theorem dX6_numberAt_3 : decode cX6_numberAt 3 = .ok (.iload_n 1, 1) := by decide +kernel
theorem dX6_numberAt_4 : decode cX6_numberAt 4 = .ok (.invokevirtual 51, 3) := by decide +kernel
theorem dX6_numberAt_7 : decode cX6_numberAt 7 = .ok (.istore_n 3, 1) := by decide +kernel
theorem dX6_numberAt_8 : decode cX6_numberAt 8 = .ok (.iconst 0, 1) := by decide +kernel
theorem dX6_numberAt_9 : decode cX6_numberAt 9 = .ok (.istore 4, 2) := by decide +kernel
theorem dX6_numberAt_11 : decode cX6_numberAt 11 = .ok (.iload 4, 2) := by decide +kernel
theorem dX6_numberAt_13 : decode cX6_numberAt 13 = .ok (.iload_n 3, 1) := by decide +kernel
theorem dX6_numberAt_14 : decode cX6_numberAt 14 = .ok (.if_icmp .ge 23, 3) := by decide +kernel
theorem dX6_numberAt_17 : decode cX6_numberAt 17 = .ok (.bipush 10, 2) := by decide +kernel
theorem dX6_numberAt_19 : decode cX6_numberAt 19 = .ok (.iload_n 2, 1) := by decide +kernel
theorem dX6_numberAt_20 : decode cX6_numberAt 20 = .ok (.imul, 1) := by decide +kernel
theorem dX6_numberAt_21 : decode cX6_numberAt 21 = .ok (.aload_n 0, 1) := by decide +kernel
theorem dX6_numberAt_22 : decode cX6_numberAt 22 = .ok (.iload_n 1, 1) := by decide +kernel
theorem dX6_numberAt_23 : decode cX6_numberAt 23 = .ok (.iload 4, 2) := by decide +kernel
theorem dX6_numberAt_25 : decode cX6_numberAt 25 = .ok (.iadd, 1) := by decide +kernel
theorem dX6_numberAt_26 : decode cX6_numberAt 26 = .ok (.invokevirtual 45, 3) := by decide +kernel
theorem dX6_numberAt_29 : decode cX6_numberAt 29 = .ok (.iadd, 1) := by decide +kernel
theorem dX6_numberAt_30 : decode cX6_numberAt 30 = .ok (.istore_n 2, 1) := by decide +kernel
theorem dX6_numberAt_31 : decode cX6_numberAt 31 = .ok (.iinc 4 1, 3) := by decide +kernel
theorem dX6_numberAt_34 : decode cX6_numberAt 34 = .ok (.goto (-23), 3) := by decide +kernel
theorem dX6_numberAt_37 : decode cX6_numberAt 37 = .ok (.iload_n 2, 1) := by decide +kernel
theorem dX6_numberAt_38 : decode cX6_numberAt 38 = .ok (.ireturn, 1) := by decide +kernel
end
section
theorem dX7_init_0 : decode cX7_init 0 = .ok (.aload_n 0, 1) := by decide +kernel
theorem dX7_init_1 : decode cX7_init 1 = .ok (.invokespecial 1, 3) := by decide +kernel
theorem dX7_init_4 : decode cX7_init 4 = .ok (.aload_n 0, 1) := by decide +kernel
theorem dX7_init_5 : decode cX7_init 5 = .ok (.new 7, 3) := by decide +kernel
theorem dX7_init_8 : decode cX7_init 8 = .ok (.dup, 1) := by decide +kernel
theorem dX7_init_9 : decode cX7_init 9 = .ok (.invokespecial 9, 3) := by decide +kernel
theorem dX7_init_12 : decode cX7_init 12 = .ok (.putfield 10, 3) := by decide +kernel
theorem dX7_init_15 : decode cX7_init 15 = .ok (.aload_n 0, 1) := by decide +kernel
theorem dX7_init_16 : decode cX7_init 16 = .ok (.iconst 4, 1) := by decide +kernel
theorem dX7_init_17 : decode cX7_init 17 = .ok (.anewarray 7, 3) := by decide +kernel
theorem dX7_init_20 : decode cX7_init 20 = .ok (.putfield 16, 3) := by decide +kernel
theorem dX7_init_23 : decode cX7_init 23 = .ok (.aload_n 0, 1) := by decide +kernel
theorem dX7_init_24 : decode cX7_init 24 = .ok (.iconst 0, 1) := by decide +kernel
theorem dX7_init_25 : decode cX7_init 25 = .ok (.putfield 20, 3) := by decide +kernel
theorem dX7_init_28 : decode cX7_init 28 = .ok (.aload_n 0, 1) := by decide +kernel
theorem dX7_init_29 : decode cX7_init 29 = .ok (.new 24, 3) := by decide +kernel
theorem dX7_init_32 : decode cX7_init 32 = .ok (.dup, 1) := by decide +kernel
theorem dX7_init_33 : decode cX7_init 33 = .ok (.invokespecial 26, 3) := by decide +kernel
theorem dX7_init_36 : decode cX7_init 36 = .ok (.putfield 27, 3) := by decide +kernel
theorem dX7_init_39 : decode cX7_init 39 = .ok (.iconst 0, 1) := by decide +kernel
theorem dX7_init_40 : decode cX7_init 40 = .ok (.istore_n 1, 1) := by decide +kernel
theorem dX7_init_41 : decode cX7_init 41 = .ok (.iload_n 1, 1) := by decide +kernel
theorem dX7_init_42 : decode cX7_init 42 = .ok (.iconst 4, 1) := by decide +kernel
theorem dX7_init_43 : decode cX7_init 43 = .ok (.if_icmp .ge 22, 3) := by decide +kernel
theorem dX7_init_46 : decode cX7_init 46 = .ok (.aload_n 0, 1) := by decide +kernel
theorem dX7_init_47 : decode cX7_init 47 = .ok (.getfield 16, 3) := by decide +kernel
theorem dX7_init_50 : decode cX7_init 50 = .ok (.iload_n 1, 1) := by decide +kernel
theorem dX7_init_51 : decode cX7_init 51 = .ok (.new 7, 3) := by decide +kernel
theorem dX7_init_54 : decode cX7_init 54 = .ok (.dup, 1) := by decide +kernel
theorem dX7_init_55 : decode cX7_init 55 = .ok (.invokespecial 9, 3) := by decide +kernel
theorem dX7_init_58 : decode cX7_init 58 = .ok (.aastore, 1) := by decide +kernel
theorem dX7_init_59 : decode cX7_init 59 = .ok (.iinc 1 1, 3) := by decide +kernel
theorem dX7_init_62 : decode cX7_init 62 = .ok (.goto (-21), 3) := by decide +kernel
theorem dX7_init_65 : decode cX7_init 65 = .ok (.return_, 1) := by decide +kernel
theorem dX7_begin_0 : decode cX7_begin 0 = .ok (.iload_n 1, 1) := by decide +kernel
theorem dX7_begin_1 : decode cX7_begin 1 = .ok (.iconst 1, 1) := by decide +kernel
theorem dX7_begin_2 : decode cX7_begin 2 = .ok (.bipush 7, 2) := by decide +kernel
theorem dX7_begin_4 : decode cX7_begin 4 = .ok (.invokestatic 31, 3) := by decide +kernel
theorem dX7_begin_7 : decode cX7_begin 7 = .ok (.aload_n 0, 1) := by decide +kernel
theorem dX7_begin_8 : decode cX7_begin 8 = .ok (.getfield 10, 3) := by decide +kernel
theorem dX7_begin_11 : decode cX7_begin 11 = .ok (.getfield 35, 3) := by decide +kernel
theorem dX7_begin_14 : decode cX7_begin 14 = .ok (.istore_n 2, 1) := by decide +kernel
theorem dX7_begin_15 : decode cX7_begin 15 = .ok (.aload_n 0, 1) := by decide +kernel
theorem dX7_begin_16 : decode cX7_begin 16 = .ok (.invokevirtual 38, 3) := by decide +kernel
theorem dX7_begin_19 : decode cX7_begin 19 = .ok (.aload_n 0, 1) := by decide +kernel
theorem dX7_begin_20 : decode cX7_begin 20 = .ok (.getfield 10, 3) := by decide +kernel
theorem dX7_begin_23 : decode cX7_begin 23 = .ok (.iload_n 1, 1) := by decide +kernel
theorem dX7_begin_24 : decode cX7_begin 24 = .ok (.invokevirtual 41, 3) := by decide +kernel
theorem dX7_begin_27 : decode cX7_begin 27 = .ok (.iload_n 2, 1) := by decide +kernel
theorem dX7_begin_28 : decode cX7_begin 28 = .ok (.ireturn, 1) := by decide +kernel
theorem dX7_setPassage_0 : decode cX7_setPassage 0 = .ok (.iload_n 1, 1) := by decide +kernel
theorem dX7_setPassage_1 : decode cX7_setPassage 1 = .ok (.aload_n 0, 1) := by decide +kernel
theorem dX7_setPassage_2 : decode cX7_setPassage 2 = .ok (.getfield 10, 3) := by decide +kernel
theorem dX7_setPassage_5 : decode cX7_setPassage 5 = .ok (.getfield 45, 3) := by decide +kernel
theorem dX7_setPassage_8 : decode cX7_setPassage 8 = .ok (.getfield 49, 3) := by decide +kernel
theorem dX7_setPassage_11 : decode cX7_setPassage 11 = .ok (.invokestatic 54, 3) := by decide +kernel
theorem dX7_setPassage_14 : decode cX7_setPassage 14 = .ok (.iload_n 2, 1) := by decide +kernel
theorem dX7_setPassage_15 : decode cX7_setPassage 15 = .ok (.iconst 0, 1) := by decide +kernel
theorem dX7_setPassage_16 : decode cX7_setPassage 16 = .ok (.bipush 60, 2) := by decide +kernel
theorem dX7_setPassage_18 : decode cX7_setPassage 18 = .ok (.invokestatic 31, 3) := by decide +kernel
theorem dX7_setPassage_21 : decode cX7_setPassage 21 = .ok (.iload_n 3, 1) := by decide +kernel
theorem dX7_setPassage_22 : decode cX7_setPassage 22 = .ok (.iconst 1, 1) := by decide +kernel
theorem dX7_setPassage_23 : decode cX7_setPassage 23 = .ok (.bipush 30, 2) := by decide +kernel
theorem dX7_setPassage_25 : decode cX7_setPassage 25 = .ok (.invokestatic 31, 3) := by decide +kernel
theorem dX7_setPassage_28 : decode cX7_setPassage 28 = .ok (.aload_n 0, 1) := by decide +kernel
theorem dX7_setPassage_29 : decode cX7_setPassage 29 = .ok (.getfield 10, 3) := by decide +kernel
theorem dX7_setPassage_32 : decode cX7_setPassage 32 = .ok (.iload_n 1, 1) := by decide +kernel
theorem dX7_setPassage_33 : decode cX7_setPassage 33 = .ok (.invokevirtual 58, 3) := by decide +kernel
theorem dX7_setPassage_36 : decode cX7_setPassage 36 = .ok (.ifCond .ne 7, 3) := by decide +kernel
theorem dX7_setPassage_39 : decode cX7_setPassage 39 = .ok (.iconst 1, 1) := by decide +kernel
theorem dX7_setPassage_40 : decode cX7_setPassage 40 = .ok (.goto 4, 3) := by decide +kernel
theorem dX7_setPassage_43 : decode cX7_setPassage 43 = .ok (.iconst 0, 1) := by decide +kernel
theorem dX7_setPassage_44 : decode cX7_setPassage 44 = .ok (.invokestatic 62, 3) := by decide +kernel
theorem dX7_setPassage_47 : decode cX7_setPassage 47 = .ok (.aload_n 0, 1) := by decide +kernel
theorem dX7_setPassage_48 : decode cX7_setPassage 48 = .ok (.getfield 10, 3) := by decide +kernel
theorem dX7_setPassage_51 : decode cX7_setPassage 51 = .ok (.getfield 45, 3) := by decide +kernel
theorem dX7_setPassage_54 : decode cX7_setPassage 54 = .ok (.iload_n 1, 1) := by decide +kernel
theorem dX7_setPassage_55 : decode cX7_setPassage 55 = .ok (.invokevirtual 66, 3) := by decide +kernel
theorem dX7_setPassage_58 : decode cX7_setPassage 58 = .ok (.istore 4, 2) := by decide +kernel
theorem dX7_setPassage_60 : decode cX7_setPassage 60 = .ok (.aload_n 0, 1) := by decide +kernel
theorem dX7_setPassage_61 : decode cX7_setPassage 61 = .ok (.invokevirtual 38, 3) := by decide +kernel
theorem dX7_setPassage_64 : decode cX7_setPassage 64 = .ok (.aload_n 0, 1) := by decide +kernel
theorem dX7_setPassage_65 : decode cX7_setPassage 65 = .ok (.getfield 10, 3) := by decide +kernel
theorem dX7_setPassage_68 : decode cX7_setPassage 68 = .ok (.getfield 45, 3) := by decide +kernel
theorem dX7_setPassage_71 : decode cX7_setPassage 71 = .ok (.iload_n 1, 1) := by decide +kernel
theorem dX7_setPassage_72 : decode cX7_setPassage 72 = .ok (.iload_n 2, 1) := by decide +kernel
theorem dX7_setPassage_73 : decode cX7_setPassage 73 = .ok (.iload_n 3, 1) := by decide +kernel
theorem dX7_setPassage_74 : decode cX7_setPassage 74 = .ok (.invokevirtual 70, 3) := by decide +kernel
theorem dX7_setPassage_77 : decode cX7_setPassage 77 = .ok (.iload 4, 2) := by decide +kernel
theorem dX7_setPassage_79 : decode cX7_setPassage 79 = .ok (.ireturn, 1) := by decide +kernel
theorem dX7_addRope_0 : decode cX7_addRope 0 = .ok (.iload_n 1, 1) := by decide +kernel
theorem dX7_addRope_1 : decode cX7_addRope 1 = .ok (.bipush 10, 2) := by decide +kernel
theorem dX7_addRope_3 : decode cX7_addRope 3 = .ok (.bipush 80, 2) := by decide +kernel
theorem dX7_addRope_5 : decode cX7_addRope 5 = .ok (.invokestatic 31, 3) := by decide +kernel
theorem dX7_addRope_8 : decode cX7_addRope 8 = .ok (.aload_n 0, 1) := by decide +kernel
theorem dX7_addRope_9 : decode cX7_addRope 9 = .ok (.getfield 10, 3) := by decide +kernel
theorem dX7_addRope_12 : decode cX7_addRope 12 = .ok (.getfield 73, 3) := by decide +kernel
theorem dX7_addRope_15 : decode cX7_addRope 15 = .ok (.getfield 77, 3) := by decide +kernel
theorem dX7_addRope_18 : decode cX7_addRope 18 = .ok (.bipush 8, 2) := by decide +kernel
theorem dX7_addRope_20 : decode cX7_addRope 20 = .ok (.if_icmp .ge 7, 3) := by decide +kernel
theorem dX7_addRope_23 : decode cX7_addRope 23 = .ok (.iconst 1, 1) := by decide +kernel
theorem dX7_addRope_24 : decode cX7_addRope 24 = .ok (.goto 4, 3) := by decide +kernel
theorem dX7_addRope_27 : decode cX7_addRope 27 = .ok (.iconst 0, 1) := by decide +kernel
theorem dX7_addRope_28 : decode cX7_addRope 28 = .ok (.invokestatic 62, 3) := by decide +kernel
theorem dX7_addRope_31 : decode cX7_addRope 31 = .ok (.aload_n 0, 1) := by decide +kernel
theorem dX7_addRope_32 : decode cX7_addRope 32 = .ok (.invokevirtual 38, 3) := by decide +kernel
theorem dX7_addRope_35 : decode cX7_addRope 35 = .ok (.aload_n 0, 1) := by decide +kernel
theorem dX7_addRope_36 : decode cX7_addRope 36 = .ok (.getfield 10, 3) := by decide +kernel
theorem dX7_addRope_39 : decode cX7_addRope 39 = .ok (.getfield 73, 3) := by decide +kernel
theorem dX7_addRope_42 : decode cX7_addRope 42 = .ok (.iload_n 1, 1) := by decide +kernel
theorem dX7_addRope_43 : decode cX7_addRope 43 = .ok (.invokevirtual 80, 3) := by decide +kernel
theorem dX7_addRope_46 : decode cX7_addRope 46 = .ok (.ireturn, 1) := by decide +kernel
theorem dX7_addHelper_0 : decode cX7_addHelper 0 = .ok (.iload_n 1, 1) := by decide +kernel
theorem dX7_addHelper_1 : decode cX7_addHelper 1 = .ok (.bipush 30, 2) := by decide +kernel
theorem dX7_addHelper_3 : decode cX7_addHelper 3 = .ok (.sipush 600, 3) := by decide +kernel
theorem dX7_addHelper_6 : decode cX7_addHelper 6 = .ok (.invokestatic 31, 3) := by decide +kernel
theorem dX7_addHelper_9 : decode cX7_addHelper 9 = .ok (.aload_n 0, 1) := by decide +kernel
theorem dX7_addHelper_10 : decode cX7_addHelper 10 = .ok (.getfield 10, 3) := by decide +kernel
theorem dX7_addHelper_13 : decode cX7_addHelper 13 = .ok (.getfield 83, 3) := by decide +kernel
theorem dX7_addHelper_16 : decode cX7_addHelper 16 = .ok (.bipush 6, 2) := by decide +kernel
theorem dX7_addHelper_18 : decode cX7_addHelper 18 = .ok (.if_icmp .ge 7, 3) := by decide +kernel
theorem dX7_addHelper_21 : decode cX7_addHelper 21 = .ok (.iconst 1, 1) := by decide +kernel
theorem dX7_addHelper_22 : decode cX7_addHelper 22 = .ok (.goto 4, 3) := by decide +kernel
theorem dX7_addHelper_25 : decode cX7_addHelper 25 = .ok (.iconst 0, 1) := by decide +kernel
theorem dX7_addHelper_26 : decode cX7_addHelper 26 = .ok (.invokestatic 62, 3) := by decide +kernel
theorem dX7_addHelper_29 : decode cX7_addHelper 29 = .ok (.aload_n 0, 1) := by decide +kernel
theorem dX7_addHelper_30 : decode cX7_addHelper 30 = .ok (.invokevirtual 38, 3) := by decide +kernel
theorem dX7_addHelper_33 : decode cX7_addHelper 33 = .ok (.aload_n 0, 1) := by decide +kernel
theorem dX7_addHelper_34 : decode cX7_addHelper 34 = .ok (.getfield 10, 3) := by decide +kernel
theorem dX7_addHelper_37 : decode cX7_addHelper 37 = .ok (.iload_n 1, 1) := by decide +kernel
theorem dX7_addHelper_38 : decode cX7_addHelper 38 = .ok (.invokevirtual 86, 3) := by decide +kernel
theorem dX7_addHelper_41 : decode cX7_addHelper 41 = .ok (.ireturn, 1) := by decide +kernel
theorem dX7_setSilence_0 : decode cX7_setSilence 0 = .ok (.iload_n 1, 1) := by decide +kernel
theorem dX7_setSilence_1 : decode cX7_setSilence 1 = .ok (.iconst 0, 1) := by decide +kernel
theorem dX7_setSilence_2 : decode cX7_setSilence 2 = .ok (.ldc 87, 2) := by decide +kernel
theorem dX7_setSilence_4 : decode cX7_setSilence 4 = .ok (.invokestatic 31, 3) := by decide +kernel
theorem dX7_setSilence_7 : decode cX7_setSilence 7 = .ok (.iload_n 2, 1) := by decide +kernel
theorem dX7_setSilence_8 : decode cX7_setSilence 8 = .ok (.iload_n 1, 1) := by decide +kernel
theorem dX7_setSilence_9 : decode cX7_setSilence 9 = .ok (.ldc 87, 2) := by decide +kernel
theorem dX7_setSilence_11 : decode cX7_setSilence 11 = .ok (.invokestatic 31, 3) := by decide +kernel
theorem dX7_setSilence_14 : decode cX7_setSilence 14 = .ok (.aload_n 0, 1) := by decide +kernel
theorem dX7_setSilence_15 : decode cX7_setSilence 15 = .ok (.getfield 10, 3) := by decide +kernel
theorem dX7_setSilence_18 : decode cX7_setSilence 18 = .ok (.getfield 88, 3) := by decide +kernel
theorem dX7_setSilence_21 : decode cX7_setSilence 21 = .ok (.istore_n 3, 1) := by decide +kernel
theorem dX7_setSilence_22 : decode cX7_setSilence 22 = .ok (.aload_n 0, 1) := by decide +kernel
theorem dX7_setSilence_23 : decode cX7_setSilence 23 = .ok (.invokevirtual 38, 3) := by decide +kernel
theorem dX7_setSilence_26 : decode cX7_setSilence 26 = .ok (.aload_n 0, 1) := by decide +kernel
theorem dX7_setSilence_27 : decode cX7_setSilence 27 = .ok (.getfield 10, 3) := by decide +kernel
theorem dX7_setSilence_30 : decode cX7_setSilence 30 = .ok (.iload_n 1, 1) := by decide +kernel
theorem dX7_setSilence_31 : decode cX7_setSilence 31 = .ok (.putfield 91, 3) := by decide +kernel
theorem dX7_setSilence_34 : decode cX7_setSilence 34 = .ok (.aload_n 0, 1) := by decide +kernel
theorem dX7_setSilence_35 : decode cX7_setSilence 35 = .ok (.getfield 10, 3) := by decide +kernel
theorem dX7_setSilence_38 : decode cX7_setSilence 38 = .ok (.iload_n 2, 1) := by decide +kernel
theorem dX7_setSilence_39 : decode cX7_setSilence 39 = .ok (.putfield 88, 3) := by decide +kernel
theorem dX7_setSilence_42 : decode cX7_setSilence 42 = .ok (.iload_n 3, 1) := by decide +kernel
theorem dX7_setSilence_43 : decode cX7_setSilence 43 = .ok (.ireturn, 1) := by decide +kernel
theorem dX7_go_0 : decode cX7_go 0 = .ok (.iload_n 1, 1) := by decide +kernel
theorem dX7_go_1 : decode cX7_go 1 = .ok (.aload_n 0, 1) := by decide +kernel
theorem dX7_go_2 : decode cX7_go 2 = .ok (.getfield 10, 3) := by decide +kernel
theorem dX7_go_5 : decode cX7_go 5 = .ok (.getfield 83, 3) := by decide +kernel
theorem dX7_go_8 : decode cX7_go 8 = .ok (.invokestatic 54, 3) := by decide +kernel
theorem dX7_go_11 : decode cX7_go 11 = .ok (.aload_n 0, 1) := by decide +kernel
theorem dX7_go_12 : decode cX7_go 12 = .ok (.getfield 10, 3) := by decide +kernel
theorem dX7_go_15 : decode cX7_go 15 = .ok (.iload_n 1, 1) := by decide +kernel
theorem dX7_go_16 : decode cX7_go 16 = .ok (.iload_n 2, 1) := by decide +kernel
theorem dX7_go_17 : decode cX7_go 17 = .ok (.invokevirtual 94, 3) := by decide +kernel
theorem dX7_go_20 : decode cX7_go 20 = .ok (.invokestatic 62, 3) := by decide +kernel
theorem dX7_go_23 : decode cX7_go 23 = .ok (.aload_n 0, 1) := by decide +kernel
theorem dX7_go_24 : decode cX7_go 24 = .ok (.invokevirtual 38, 3) := by decide +kernel
theorem dX7_go_27 : decode cX7_go 27 = .ok (.aload_n 0, 1) := by decide +kernel
theorem dX7_go_28 : decode cX7_go 28 = .ok (.getfield 10, 3) := by decide +kernel
theorem dX7_go_31 : decode cX7_go 31 = .ok (.iload_n 1, 1) := by decide +kernel
theorem dX7_go_32 : decode cX7_go 32 = .ok (.iload_n 2, 1) := by decide +kernel
theorem dX7_go_33 : decode cX7_go 33 = .ok (.invokevirtual 98, 3) := by decide +kernel
theorem dX7_go_36 : decode cX7_go 36 = .ok (.ireturn, 1) := by decide +kernel
theorem dX7_take_0 : decode cX7_take 0 = .ok (.iload_n 1, 1) := by decide +kernel
theorem dX7_take_1 : decode cX7_take 1 = .ok (.aload_n 0, 1) := by decide +kernel
theorem dX7_take_2 : decode cX7_take 2 = .ok (.getfield 10, 3) := by decide +kernel
theorem dX7_take_5 : decode cX7_take 5 = .ok (.getfield 83, 3) := by decide +kernel
theorem dX7_take_8 : decode cX7_take 8 = .ok (.invokestatic 54, 3) := by decide +kernel
theorem dX7_take_11 : decode cX7_take 11 = .ok (.iload_n 2, 1) := by decide +kernel
theorem dX7_take_12 : decode cX7_take 12 = .ok (.aload_n 0, 1) := by decide +kernel
theorem dX7_take_13 : decode cX7_take 13 = .ok (.getfield 10, 3) := by decide +kernel
theorem dX7_take_16 : decode cX7_take 16 = .ok (.getfield 73, 3) := by decide +kernel
theorem dX7_take_19 : decode cX7_take 19 = .ok (.getfield 77, 3) := by decide +kernel
theorem dX7_take_22 : decode cX7_take 22 = .ok (.invokestatic 54, 3) := by decide +kernel
theorem dX7_take_25 : decode cX7_take 25 = .ok (.aload_n 0, 1) := by decide +kernel
theorem dX7_take_26 : decode cX7_take 26 = .ok (.getfield 10, 3) := by decide +kernel
theorem dX7_take_29 : decode cX7_take 29 = .ok (.iload_n 1, 1) := by decide +kernel
theorem dX7_take_30 : decode cX7_take 30 = .ok (.iload_n 2, 1) := by decide +kernel
theorem dX7_take_31 : decode cX7_take 31 = .ok (.invokevirtual 102, 3) := by decide +kernel
theorem dX7_take_34 : decode cX7_take 34 = .ok (.invokestatic 62, 3) := by decide +kernel
theorem dX7_take_37 : decode cX7_take 37 = .ok (.aload_n 0, 1) := by decide +kernel
theorem dX7_take_38 : decode cX7_take 38 = .ok (.invokevirtual 38, 3) := by decide +kernel
theorem dX7_take_41 : decode cX7_take 41 = .ok (.aload_n 0, 1) := by decide +kernel
theorem dX7_take_42 : decode cX7_take 42 = .ok (.getfield 10, 3) := by decide +kernel
theorem dX7_take_45 : decode cX7_take 45 = .ok (.iload_n 1, 1) := by decide +kernel
theorem dX7_take_46 : decode cX7_take 46 = .ok (.iload_n 2, 1) := by decide +kernel
theorem dX7_take_47 : decode cX7_take 47 = .ok (.invokevirtual 105, 3) := by decide +kernel
theorem dX7_take_50 : decode cX7_take 50 = .ok (.aload_n 0, 1) := by decide +kernel
theorem dX7_take_51 : decode cX7_take 51 = .ok (.getfield 10, 3) := by decide +kernel
theorem dX7_take_54 : decode cX7_take 54 = .ok (.getfield 73, 3) := by decide +kernel
theorem dX7_take_57 : decode cX7_take 57 = .ok (.iload_n 2, 1) := by decide +kernel
theorem dX7_take_58 : decode cX7_take 58 = .ok (.invokevirtual 108, 3) := by decide +kernel
theorem dX7_take_61 : decode cX7_take 61 = .ok (.ireturn, 1) := by decide +kernel
theorem dX7_lay_0 : decode cX7_lay 0 = .ok (.iload_n 1, 1) := by decide +kernel
theorem dX7_lay_1 : decode cX7_lay 1 = .ok (.aload_n 0, 1) := by decide +kernel
theorem dX7_lay_2 : decode cX7_lay 2 = .ok (.getfield 10, 3) := by decide +kernel
theorem dX7_lay_5 : decode cX7_lay 5 = .ok (.getfield 83, 3) := by decide +kernel
theorem dX7_lay_8 : decode cX7_lay 8 = .ok (.invokestatic 54, 3) := by decide +kernel
theorem dX7_lay_11 : decode cX7_lay 11 = .ok (.aload_n 0, 1) := by decide +kernel
theorem dX7_lay_12 : decode cX7_lay 12 = .ok (.getfield 10, 3) := by decide +kernel
theorem dX7_lay_15 : decode cX7_lay 15 = .ok (.iload_n 1, 1) := by decide +kernel
theorem dX7_lay_16 : decode cX7_lay 16 = .ok (.invokevirtual 111, 3) := by decide +kernel
theorem dX7_lay_19 : decode cX7_lay 19 = .ok (.invokestatic 62, 3) := by decide +kernel
theorem dX7_lay_22 : decode cX7_lay 22 = .ok (.aload_n 0, 1) := by decide +kernel
theorem dX7_lay_23 : decode cX7_lay 23 = .ok (.invokevirtual 38, 3) := by decide +kernel
theorem dX7_lay_26 : decode cX7_lay 26 = .ok (.aload_n 0, 1) := by decide +kernel
theorem dX7_lay_27 : decode cX7_lay 27 = .ok (.getfield 10, 3) := by decide +kernel
theorem dX7_lay_30 : decode cX7_lay 30 = .ok (.iload_n 1, 1) := by decide +kernel
theorem dX7_lay_31 : decode cX7_lay 31 = .ok (.invokevirtual 114, 3) := by decide +kernel
theorem dX7_lay_34 : decode cX7_lay 34 = .ok (.ireturn, 1) := by decide +kernel
theorem dX7_rig_0 : decode cX7_rig 0 = .ok (.iload_n 1, 1) := by decide +kernel
theorem dX7_rig_1 : decode cX7_rig 1 = .ok (.aload_n 0, 1) := by decide +kernel
theorem dX7_rig_2 : decode cX7_rig 2 = .ok (.getfield 10, 3) := by decide +kernel
theorem dX7_rig_5 : decode cX7_rig 5 = .ok (.getfield 83, 3) := by decide +kernel
theorem dX7_rig_8 : decode cX7_rig 8 = .ok (.invokestatic 54, 3) := by decide +kernel
theorem dX7_rig_11 : decode cX7_rig 11 = .ok (.aload_n 0, 1) := by decide +kernel
theorem dX7_rig_12 : decode cX7_rig 12 = .ok (.getfield 10, 3) := by decide +kernel
theorem dX7_rig_15 : decode cX7_rig 15 = .ok (.iload_n 1, 1) := by decide +kernel
theorem dX7_rig_16 : decode cX7_rig 16 = .ok (.invokevirtual 117, 3) := by decide +kernel
theorem dX7_rig_19 : decode cX7_rig 19 = .ok (.invokestatic 62, 3) := by decide +kernel
theorem dX7_rig_22 : decode cX7_rig 22 = .ok (.aload_n 0, 1) := by decide +kernel
theorem dX7_rig_23 : decode cX7_rig 23 = .ok (.invokevirtual 38, 3) := by decide +kernel
theorem dX7_rig_26 : decode cX7_rig 26 = .ok (.aload_n 0, 1) := by decide +kernel
theorem dX7_rig_27 : decode cX7_rig 27 = .ok (.getfield 10, 3) := by decide +kernel
theorem dX7_rig_30 : decode cX7_rig 30 = .ok (.iload_n 1, 1) := by decide +kernel
theorem dX7_rig_31 : decode cX7_rig 31 = .ok (.invokevirtual 120, 3) := by decide +kernel
theorem dX7_rig_34 : decode cX7_rig 34 = .ok (.ireturn, 1) := by decide +kernel
theorem dX7_takeOff_0 : decode cX7_takeOff 0 = .ok (.iload_n 1, 1) := by decide +kernel
theorem dX7_takeOff_1 : decode cX7_takeOff 1 = .ok (.aload_n 0, 1) := by decide +kernel
theorem dX7_takeOff_2 : decode cX7_takeOff 2 = .ok (.getfield 10, 3) := by decide +kernel
theorem dX7_takeOff_5 : decode cX7_takeOff 5 = .ok (.getfield 83, 3) := by decide +kernel
theorem dX7_takeOff_8 : decode cX7_takeOff 8 = .ok (.invokestatic 54, 3) := by decide +kernel
theorem dX7_takeOff_11 : decode cX7_takeOff 11 = .ok (.aload_n 0, 1) := by decide +kernel
theorem dX7_takeOff_12 : decode cX7_takeOff 12 = .ok (.getfield 10, 3) := by decide +kernel
theorem dX7_takeOff_15 : decode cX7_takeOff 15 = .ok (.iload_n 1, 1) := by decide +kernel
theorem dX7_takeOff_16 : decode cX7_takeOff 16 = .ok (.invokevirtual 123, 3) := by decide +kernel
theorem dX7_takeOff_19 : decode cX7_takeOff 19 = .ok (.invokestatic 62, 3) := by decide +kernel
theorem dX7_takeOff_22 : decode cX7_takeOff 22 = .ok (.aload_n 0, 1) := by decide +kernel
theorem dX7_takeOff_23 : decode cX7_takeOff 23 = .ok (.invokevirtual 38, 3) := by decide +kernel
theorem dX7_takeOff_26 : decode cX7_takeOff 26 = .ok (.aload_n 0, 1) := by decide +kernel
theorem dX7_takeOff_27 : decode cX7_takeOff 27 = .ok (.getfield 10, 3) := by decide +kernel
theorem dX7_takeOff_30 : decode cX7_takeOff 30 = .ok (.iload_n 1, 1) := by decide +kernel
theorem dX7_takeOff_31 : decode cX7_takeOff 31 = .ok (.invokevirtual 126, 3) := by decide +kernel
theorem dX7_takeOff_34 : decode cX7_takeOff 34 = .ok (.ireturn, 1) := by decide +kernel
theorem dX7_carry_0 : decode cX7_carry 0 = .ok (.aload_n 0, 1) := by decide +kernel
theorem dX7_carry_1 : decode cX7_carry 1 = .ok (.getfield 10, 3) := by decide +kernel
theorem dX7_carry_4 : decode cX7_carry 4 = .ok (.iload_n 1, 1) := by decide +kernel
theorem dX7_carry_5 : decode cX7_carry 5 = .ok (.invokevirtual 129, 3) := by decide +kernel
theorem dX7_carry_8 : decode cX7_carry 8 = .ok (.invokestatic 132, 3) := by decide +kernel
theorem dX7_carry_11 : decode cX7_carry 11 = .ok (.aload_n 0, 1) := by decide +kernel
theorem dX7_carry_12 : decode cX7_carry 12 = .ok (.getfield 10, 3) := by decide +kernel
theorem dX7_carry_15 : decode cX7_carry 15 = .ok (.iload_n 1, 1) := by decide +kernel
theorem dX7_carry_16 : decode cX7_carry 16 = .ok (.invokevirtual 135, 3) := by decide +kernel
theorem dX7_carry_19 : decode cX7_carry 19 = .ok (.invokestatic 62, 3) := by decide +kernel
theorem dX7_carry_22 : decode cX7_carry 22 = .ok (.aload_n 0, 1) := by decide +kernel
theorem dX7_carry_23 : decode cX7_carry 23 = .ok (.invokevirtual 38, 3) := by decide +kernel
theorem dX7_carry_26 : decode cX7_carry 26 = .ok (.aload_n 0, 1) := by decide +kernel
theorem dX7_carry_27 : decode cX7_carry 27 = .ok (.getfield 10, 3) := by decide +kernel
theorem dX7_carry_30 : decode cX7_carry 30 = .ok (.iload_n 1, 1) := by decide +kernel
theorem dX7_carry_31 : decode cX7_carry 31 = .ok (.invokevirtual 138, 3) := by decide +kernel
theorem dX7_carry_34 : decode cX7_carry 34 = .ok (.ireturn, 1) := by decide +kernel
theorem dX7_send_0 : decode cX7_send 0 = .ok (.iload_n 1, 1) := by decide +kernel
theorem dX7_send_1 : decode cX7_send 1 = .ok (.aload_n 0, 1) := by decide +kernel
theorem dX7_send_2 : decode cX7_send 2 = .ok (.getfield 10, 3) := by decide +kernel
theorem dX7_send_5 : decode cX7_send 5 = .ok (.getfield 83, 3) := by decide +kernel
theorem dX7_send_8 : decode cX7_send 8 = .ok (.invokestatic 54, 3) := by decide +kernel
theorem dX7_send_11 : decode cX7_send 11 = .ok (.aload_n 0, 1) := by decide +kernel
theorem dX7_send_12 : decode cX7_send 12 = .ok (.getfield 10, 3) := by decide +kernel
theorem dX7_send_15 : decode cX7_send 15 = .ok (.iload_n 1, 1) := by decide +kernel
theorem dX7_send_16 : decode cX7_send 16 = .ok (.invokevirtual 141, 3) := by decide +kernel
theorem dX7_send_19 : decode cX7_send 19 = .ok (.invokestatic 62, 3) := by decide +kernel
theorem dX7_send_22 : decode cX7_send 22 = .ok (.aload_n 0, 1) := by decide +kernel
theorem dX7_send_23 : decode cX7_send 23 = .ok (.invokevirtual 38, 3) := by decide +kernel
theorem dX7_send_26 : decode cX7_send 26 = .ok (.aload_n 0, 1) := by decide +kernel
theorem dX7_send_27 : decode cX7_send 27 = .ok (.getfield 10, 3) := by decide +kernel
theorem dX7_send_30 : decode cX7_send 30 = .ok (.iload_n 1, 1) := by decide +kernel
theorem dX7_send_31 : decode cX7_send 31 = .ok (.invokevirtual 144, 3) := by decide +kernel
theorem dX7_send_34 : decode cX7_send 34 = .ok (.aload_n 0, 1) := by decide +kernel
theorem dX7_send_35 : decode cX7_send 35 = .ok (.getfield 10, 3) := by decide +kernel
theorem dX7_send_38 : decode cX7_send 38 = .ok (.getfield 147, 3) := by decide +kernel
theorem dX7_send_41 : decode cX7_send 41 = .ok (.getfield 151, 3) := by decide +kernel
theorem dX7_send_44 : decode cX7_send 44 = .ok (.ireturn, 1) := by decide +kernel
theorem dX7_pass_0 : decode cX7_pass 0 = .ok (.iload_n 1, 1) := by decide +kernel
theorem dX7_pass_1 : decode cX7_pass 1 = .ok (.iconst 1, 1) := by decide +kernel
theorem dX7_pass_2 : decode cX7_pass 2 = .ok (.sipush 600, 3) := by decide +kernel
theorem dX7_pass_5 : decode cX7_pass 5 = .ok (.invokestatic 31, 3) := by decide +kernel
theorem dX7_pass_8 : decode cX7_pass 8 = .ok (.aload_n 0, 1) := by decide +kernel
theorem dX7_pass_9 : decode cX7_pass 9 = .ok (.getfield 10, 3) := by decide +kernel
theorem dX7_pass_12 : decode cX7_pass 12 = .ok (.iload_n 1, 1) := by decide +kernel
theorem dX7_pass_13 : decode cX7_pass 13 = .ok (.invokevirtual 154, 3) := by decide +kernel
theorem dX7_pass_16 : decode cX7_pass 16 = .ok (.invokestatic 62, 3) := by decide +kernel
theorem dX7_pass_19 : decode cX7_pass 19 = .ok (.aload_n 0, 1) := by decide +kernel
theorem dX7_pass_20 : decode cX7_pass 20 = .ok (.invokevirtual 38, 3) := by decide +kernel
theorem dX7_pass_23 : decode cX7_pass 23 = .ok (.aload_n 0, 1) := by decide +kernel
theorem dX7_pass_24 : decode cX7_pass 24 = .ok (.getfield 10, 3) := by decide +kernel
theorem dX7_pass_27 : decode cX7_pass 27 = .ok (.iload_n 1, 1) := by decide +kernel
theorem dX7_pass_28 : decode cX7_pass 28 = .ok (.invokevirtual 157, 3) := by decide +kernel
theorem dX7_pass_31 : decode cX7_pass 31 = .ok (.ireturn, 1) := by decide +kernel
theorem dX7_passage_0 : decode cX7_passage 0 = .ok (.iload_n 1, 1) := by decide +kernel
theorem dX7_passage_1 : decode cX7_passage 1 = .ok (.aload_n 0, 1) := by decide +kernel
theorem dX7_passage_2 : decode cX7_passage 2 = .ok (.getfield 10, 3) := by decide +kernel
theorem dX7_passage_5 : decode cX7_passage 5 = .ok (.getfield 45, 3) := by decide +kernel
theorem dX7_passage_8 : decode cX7_passage 8 = .ok (.getfield 49, 3) := by decide +kernel
theorem dX7_passage_11 : decode cX7_passage 11 = .ok (.invokestatic 54, 3) := by decide +kernel
theorem dX7_passage_14 : decode cX7_passage 14 = .ok (.iload_n 2, 1) := by decide +kernel
theorem dX7_passage_15 : decode cX7_passage 15 = .ok (.iconst 0, 1) := by decide +kernel
theorem dX7_passage_16 : decode cX7_passage 16 = .ok (.iconst 4, 1) := by decide +kernel
theorem dX7_passage_17 : decode cX7_passage 17 = .ok (.invokestatic 31, 3) := by decide +kernel
theorem dX7_passage_20 : decode cX7_passage 20 = .ok (.aload_n 0, 1) := by decide +kernel
theorem dX7_passage_21 : decode cX7_passage 21 = .ok (.getfield 10, 3) := by decide +kernel
theorem dX7_passage_24 : decode cX7_passage 24 = .ok (.iload_n 1, 1) := by decide +kernel
theorem dX7_passage_25 : decode cX7_passage 25 = .ok (.iload_n 2, 1) := by decide +kernel
theorem dX7_passage_26 : decode cX7_passage 26 = .ok (.invokevirtual 160, 3) := by decide +kernel
theorem dX7_passage_29 : decode cX7_passage 29 = .ok (.ireturn, 1) := by decide +kernel
theorem dX7_rope_0 : decode cX7_rope 0 = .ok (.iload_n 1, 1) := by decide +kernel
theorem dX7_rope_1 : decode cX7_rope 1 = .ok (.aload_n 0, 1) := by decide +kernel
theorem dX7_rope_2 : decode cX7_rope 2 = .ok (.getfield 10, 3) := by decide +kernel
theorem dX7_rope_5 : decode cX7_rope 5 = .ok (.getfield 73, 3) := by decide +kernel
theorem dX7_rope_8 : decode cX7_rope 8 = .ok (.getfield 77, 3) := by decide +kernel
theorem dX7_rope_11 : decode cX7_rope 11 = .ok (.invokestatic 54, 3) := by decide +kernel
theorem dX7_rope_14 : decode cX7_rope 14 = .ok (.iload_n 2, 1) := by decide +kernel
theorem dX7_rope_15 : decode cX7_rope 15 = .ok (.iconst 0, 1) := by decide +kernel
theorem dX7_rope_16 : decode cX7_rope 16 = .ok (.iconst 2, 1) := by decide +kernel
theorem dX7_rope_17 : decode cX7_rope 17 = .ok (.invokestatic 31, 3) := by decide +kernel
theorem dX7_rope_20 : decode cX7_rope 20 = .ok (.aload_n 0, 1) := by decide +kernel
theorem dX7_rope_21 : decode cX7_rope 21 = .ok (.getfield 10, 3) := by decide +kernel
theorem dX7_rope_24 : decode cX7_rope 24 = .ok (.getfield 73, 3) := by decide +kernel
theorem dX7_rope_27 : decode cX7_rope 27 = .ok (.iload_n 1, 1) := by decide +kernel
theorem dX7_rope_28 : decode cX7_rope 28 = .ok (.iload_n 2, 1) := by decide +kernel
theorem dX7_rope_29 : decode cX7_rope 29 = .ok (.invokevirtual 163, 3) := by decide +kernel
theorem dX7_rope_32 : decode cX7_rope 32 = .ok (.ireturn, 1) := by decide +kernel
theorem dX7_helper_0 : decode cX7_helper 0 = .ok (.iload_n 1, 1) := by decide +kernel
theorem dX7_helper_1 : decode cX7_helper 1 = .ok (.aload_n 0, 1) := by decide +kernel
theorem dX7_helper_2 : decode cX7_helper 2 = .ok (.getfield 10, 3) := by decide +kernel
theorem dX7_helper_5 : decode cX7_helper 5 = .ok (.getfield 83, 3) := by decide +kernel
theorem dX7_helper_8 : decode cX7_helper 8 = .ok (.invokestatic 54, 3) := by decide +kernel
theorem dX7_helper_11 : decode cX7_helper 11 = .ok (.iload_n 2, 1) := by decide +kernel
theorem dX7_helper_12 : decode cX7_helper 12 = .ok (.iconst 0, 1) := by decide +kernel
theorem dX7_helper_13 : decode cX7_helper 13 = .ok (.bipush 8, 2) := by decide +kernel
theorem dX7_helper_15 : decode cX7_helper 15 = .ok (.invokestatic 31, 3) := by decide +kernel
theorem dX7_helper_18 : decode cX7_helper 18 = .ok (.aload_n 0, 1) := by decide +kernel
theorem dX7_helper_19 : decode cX7_helper 19 = .ok (.getfield 10, 3) := by decide +kernel
theorem dX7_helper_22 : decode cX7_helper 22 = .ok (.getfield 166, 3) := by decide +kernel
theorem dX7_helper_25 : decode cX7_helper 25 = .ok (.iload_n 1, 1) := by decide +kernel
theorem dX7_helper_26 : decode cX7_helper 26 = .ok (.aaload, 1) := by decide +kernel
theorem dX7_helper_27 : decode cX7_helper 27 = .ok (.iload_n 2, 1) := by decide +kernel
theorem dX7_helper_28 : decode cX7_helper 28 = .ok (.invokevirtual 170, 3) := by decide +kernel
theorem dX7_helper_31 : decode cX7_helper 31 = .ok (.ireturn, 1) := by decide +kernel
theorem dX7_value_0 : decode cX7_value 0 = .ok (.iload_n 1, 1) := by decide +kernel
theorem dX7_value_1 : decode cX7_value 1 = .ok (.iconst 0, 1) := by decide +kernel
theorem dX7_value_2 : decode cX7_value 2 = .ok (.bipush 13, 2) := by decide +kernel
theorem dX7_value_4 : decode cX7_value 4 = .ok (.invokestatic 31, 3) := by decide +kernel
theorem dX7_value_7 : decode cX7_value 7 = .ok (.aload_n 0, 1) := by decide +kernel
theorem dX7_value_8 : decode cX7_value 8 = .ok (.getfield 10, 3) := by decide +kernel
theorem dX7_value_11 : decode cX7_value 11 = .ok (.iload_n 1, 1) := by decide +kernel
theorem dX7_value_12 : decode cX7_value 12 = .ok (.invokevirtual 174, 3) := by decide +kernel
theorem dX7_value_15 : decode cX7_value 15 = .ok (.ireturn, 1) := by decide +kernel
theorem dX7_message_0 : decode cX7_message 0 = .ok (.iload_n 1, 1) := by decide +kernel
theorem dX7_message_1 : decode cX7_message 1 = .ok (.aload_n 0, 1) := by decide +kernel
theorem dX7_message_2 : decode cX7_message 2 = .ok (.getfield 10, 3) := by decide +kernel
theorem dX7_message_5 : decode cX7_message 5 = .ok (.getfield 147, 3) := by decide +kernel
theorem dX7_message_8 : decode cX7_message 8 = .ok (.getfield 151, 3) := by decide +kernel
theorem dX7_message_11 : decode cX7_message 11 = .ok (.invokestatic 54, 3) := by decide +kernel
theorem dX7_message_14 : decode cX7_message 14 = .ok (.iload_n 2, 1) := by decide +kernel
theorem dX7_message_15 : decode cX7_message 15 = .ok (.iconst 0, 1) := by decide +kernel
theorem dX7_message_16 : decode cX7_message 16 = .ok (.iconst 2, 1) := by decide +kernel
theorem dX7_message_17 : decode cX7_message 17 = .ok (.invokestatic 31, 3) := by decide +kernel
theorem dX7_message_20 : decode cX7_message 20 = .ok (.aload_n 0, 1) := by decide +kernel
theorem dX7_message_21 : decode cX7_message 21 = .ok (.getfield 10, 3) := by decide +kernel
theorem dX7_message_24 : decode cX7_message 24 = .ok (.getfield 147, 3) := by decide +kernel
theorem dX7_message_27 : decode cX7_message 27 = .ok (.iload_n 1, 1) := by decide +kernel
theorem dX7_message_28 : decode cX7_message 28 = .ok (.iload_n 2, 1) := by decide +kernel
theorem dX7_message_29 : decode cX7_message 29 = .ok (.invokevirtual 175, 3) := by decide +kernel
theorem dX7_message_32 : decode cX7_message 32 = .ok (.ireturn, 1) := by decide +kernel
theorem dX7_carried_0 : decode cX7_carried 0 = .ok (.iload_n 1, 1) := by decide +kernel
theorem dX7_carried_1 : decode cX7_carried 1 = .ok (.aload_n 0, 1) := by decide +kernel
theorem dX7_carried_2 : decode cX7_carried 2 = .ok (.getfield 10, 3) := by decide +kernel
theorem dX7_carried_5 : decode cX7_carried 5 = .ok (.getfield 176, 3) := by decide +kernel
theorem dX7_carried_8 : decode cX7_carried 8 = .ok (.getfield 180, 3) := by decide +kernel
theorem dX7_carried_11 : decode cX7_carried 11 = .ok (.invokestatic 54, 3) := by decide +kernel
theorem dX7_carried_14 : decode cX7_carried 14 = .ok (.iload_n 2, 1) := by decide +kernel
theorem dX7_carried_15 : decode cX7_carried 15 = .ok (.iconst 0, 1) := by decide +kernel
theorem dX7_carried_16 : decode cX7_carried 16 = .ok (.iconst 2, 1) := by decide +kernel
theorem dX7_carried_17 : decode cX7_carried 17 = .ok (.invokestatic 31, 3) := by decide +kernel
theorem dX7_carried_20 : decode cX7_carried 20 = .ok (.aload_n 0, 1) := by decide +kernel
theorem dX7_carried_21 : decode cX7_carried 21 = .ok (.getfield 10, 3) := by decide +kernel
theorem dX7_carried_24 : decode cX7_carried 24 = .ok (.getfield 176, 3) := by decide +kernel
theorem dX7_carried_27 : decode cX7_carried 27 = .ok (.iload_n 1, 1) := by decide +kernel
theorem dX7_carried_28 : decode cX7_carried 28 = .ok (.iload_n 2, 1) := by decide +kernel
theorem dX7_carried_29 : decode cX7_carried 29 = .ok (.invokevirtual 185, 3) := by decide +kernel
theorem dX7_carried_32 : decode cX7_carried 32 = .ok (.ireturn, 1) := by decide +kernel
theorem dX7_why_0 : decode cX7_why 0 = .ok (.iload_n 1, 1) := by decide +kernel
theorem dX7_why_1 : decode cX7_why 1 = .ok (.aload_n 0, 1) := by decide +kernel
theorem dX7_why_2 : decode cX7_why 2 = .ok (.getfield 10, 3) := by decide +kernel
theorem dX7_why_5 : decode cX7_why 5 = .ok (.getfield 83, 3) := by decide +kernel
theorem dX7_why_8 : decode cX7_why 8 = .ok (.invokestatic 54, 3) := by decide +kernel
theorem dX7_why_11 : decode cX7_why 11 = .ok (.aload_n 0, 1) := by decide +kernel
theorem dX7_why_12 : decode cX7_why 12 = .ok (.getfield 10, 3) := by decide +kernel
theorem dX7_why_15 : decode cX7_why 15 = .ok (.aload_n 0, 1) := by decide +kernel
theorem dX7_why_16 : decode cX7_why 16 = .ok (.getfield 10, 3) := by decide +kernel
theorem dX7_why_19 : decode cX7_why 19 = .ok (.getfield 166, 3) := by decide +kernel
theorem dX7_why_22 : decode cX7_why 22 = .ok (.iload_n 1, 1) := by decide +kernel
theorem dX7_why_23 : decode cX7_why 23 = .ok (.aaload, 1) := by decide +kernel
theorem dX7_why_24 : decode cX7_why 24 = .ok (.iload_n 2, 1) := by decide +kernel
theorem dX7_why_25 : decode cX7_why 25 = .ok (.invokevirtual 186, 3) := by decide +kernel
theorem dX7_why_28 : decode cX7_why 28 = .ok (.ireturn, 1) := by decide +kernel
theorem dX7_minutesUp_0 : decode cX7_minutesUp 0 = .ok (.iload_n 1, 1) := by decide +kernel
theorem dX7_minutesUp_1 : decode cX7_minutesUp 1 = .ok (.aload_n 0, 1) := by decide +kernel
theorem dX7_minutesUp_2 : decode cX7_minutesUp 2 = .ok (.getfield 10, 3) := by decide +kernel
theorem dX7_minutesUp_5 : decode cX7_minutesUp 5 = .ok (.getfield 83, 3) := by decide +kernel
theorem dX7_minutesUp_8 : decode cX7_minutesUp 8 = .ok (.invokestatic 54, 3) := by decide +kernel
theorem dX7_minutesUp_11 : decode cX7_minutesUp 11 = .ok (.aload_n 0, 1) := by decide +kernel
theorem dX7_minutesUp_12 : decode cX7_minutesUp 12 = .ok (.getfield 10, 3) := by decide +kernel
theorem dX7_minutesUp_15 : decode cX7_minutesUp 15 = .ok (.aload_n 0, 1) := by decide +kernel
theorem dX7_minutesUp_16 : decode cX7_minutesUp 16 = .ok (.getfield 10, 3) := by decide +kernel
theorem dX7_minutesUp_19 : decode cX7_minutesUp 19 = .ok (.getfield 166, 3) := by decide +kernel
theorem dX7_minutesUp_22 : decode cX7_minutesUp 22 = .ok (.iload_n 1, 1) := by decide +kernel
theorem dX7_minutesUp_23 : decode cX7_minutesUp 23 = .ok (.aaload, 1) := by decide +kernel
theorem dX7_minutesUp_24 : decode cX7_minutesUp 24 = .ok (.invokevirtual 190, 3) := by decide +kernel
theorem dX7_minutesUp_27 : decode cX7_minutesUp 27 = .ok (.ireturn, 1) := by decide +kernel
theorem dX7_spare_0 : decode cX7_spare 0 = .ok (.iload_n 1, 1) := by decide +kernel
theorem dX7_spare_1 : decode cX7_spare 1 = .ok (.aload_n 0, 1) := by decide +kernel
theorem dX7_spare_2 : decode cX7_spare 2 = .ok (.getfield 10, 3) := by decide +kernel
theorem dX7_spare_5 : decode cX7_spare 5 = .ok (.getfield 83, 3) := by decide +kernel
theorem dX7_spare_8 : decode cX7_spare 8 = .ok (.invokestatic 54, 3) := by decide +kernel
theorem dX7_spare_11 : decode cX7_spare 11 = .ok (.aload_n 0, 1) := by decide +kernel
theorem dX7_spare_12 : decode cX7_spare 12 = .ok (.getfield 10, 3) := by decide +kernel
theorem dX7_spare_15 : decode cX7_spare 15 = .ok (.aload_n 0, 1) := by decide +kernel
theorem dX7_spare_16 : decode cX7_spare 16 = .ok (.getfield 10, 3) := by decide +kernel
theorem dX7_spare_19 : decode cX7_spare 19 = .ok (.getfield 166, 3) := by decide +kernel
theorem dX7_spare_22 : decode cX7_spare 22 = .ok (.iload_n 1, 1) := by decide +kernel
theorem dX7_spare_23 : decode cX7_spare 23 = .ok (.aaload, 1) := by decide +kernel
theorem dX7_spare_24 : decode cX7_spare 24 = .ok (.invokevirtual 194, 3) := by decide +kernel
theorem dX7_spare_27 : decode cX7_spare 27 = .ok (.ireturn, 1) := by decide +kernel
theorem dX7_bestRope_0 : decode cX7_bestRope 0 = .ok (.iload_n 1, 1) := by decide +kernel
theorem dX7_bestRope_1 : decode cX7_bestRope 1 = .ok (.aload_n 0, 1) := by decide +kernel
theorem dX7_bestRope_2 : decode cX7_bestRope 2 = .ok (.getfield 10, 3) := by decide +kernel
theorem dX7_bestRope_5 : decode cX7_bestRope 5 = .ok (.getfield 45, 3) := by decide +kernel
theorem dX7_bestRope_8 : decode cX7_bestRope 8 = .ok (.getfield 49, 3) := by decide +kernel
theorem dX7_bestRope_11 : decode cX7_bestRope 11 = .ok (.invokestatic 54, 3) := by decide +kernel
theorem dX7_bestRope_14 : decode cX7_bestRope 14 = .ok (.aload_n 0, 1) := by decide +kernel
theorem dX7_bestRope_15 : decode cX7_bestRope 15 = .ok (.getfield 10, 3) := by decide +kernel
theorem dX7_bestRope_18 : decode cX7_bestRope 18 = .ok (.getfield 45, 3) := by decide +kernel
theorem dX7_bestRope_21 : decode cX7_bestRope 21 = .ok (.iload_n 1, 1) := by decide +kernel
theorem dX7_bestRope_22 : decode cX7_bestRope 22 = .ok (.invokevirtual 197, 3) := by decide +kernel
theorem dX7_bestRope_25 : decode cX7_bestRope 25 = .ok (.ifCond .ne 5, 3) := by decide +kernel
theorem dX7_bestRope_28 : decode cX7_bestRope 28 = .ok (.iconst (-1), 1) := by decide +kernel
theorem dX7_bestRope_29 : decode cX7_bestRope 29 = .ok (.ireturn, 1) := by decide +kernel
theorem dX7_bestRope_30 : decode cX7_bestRope 30 = .ok (.aload_n 0, 1) := by decide +kernel
theorem dX7_bestRope_31 : decode cX7_bestRope 31 = .ok (.getfield 10, 3) := by decide +kernel
theorem dX7_bestRope_34 : decode cX7_bestRope 34 = .ok (.getfield 73, 3) := by decide +kernel
theorem dX7_bestRope_37 : decode cX7_bestRope 37 = .ok (.aload_n 0, 1) := by decide +kernel
theorem dX7_bestRope_38 : decode cX7_bestRope 38 = .ok (.getfield 10, 3) := by decide +kernel
theorem dX7_bestRope_41 : decode cX7_bestRope 41 = .ok (.getfield 45, 3) := by decide +kernel
theorem dX7_bestRope_44 : decode cX7_bestRope 44 = .ok (.iload_n 1, 1) := by decide +kernel
theorem dX7_bestRope_45 : decode cX7_bestRope 45 = .ok (.invokevirtual 66, 3) := by decide +kernel
theorem dX7_bestRope_48 : decode cX7_bestRope 48 = .ok (.invokevirtual 200, 3) := by decide +kernel
theorem dX7_bestRope_51 : decode cX7_bestRope 51 = .ok (.ireturn, 1) := by decide +kernel
theorem dX7_carryMinutes_0 : decode cX7_carryMinutes 0 = .ok (.aload_n 0, 1) := by decide +kernel
theorem dX7_carryMinutes_1 : decode cX7_carryMinutes 1 = .ok (.getfield 10, 3) := by decide +kernel
theorem dX7_carryMinutes_4 : decode cX7_carryMinutes 4 = .ok (.getfield 203, 3) := by decide +kernel
theorem dX7_carryMinutes_7 : decode cX7_carryMinutes 7 = .ok (.ifCond .ne 23, 3) := by decide +kernel
theorem dX7_carryMinutes_10 : decode cX7_carryMinutes 10 = .ok (.aload_n 0, 1) := by decide +kernel
theorem dX7_carryMinutes_11 : decode cX7_carryMinutes 11 = .ok (.getfield 10, 3) := by decide +kernel
theorem dX7_carryMinutes_14 : decode cX7_carryMinutes 14 = .ok (.getfield 45, 3) := by decide +kernel
theorem dX7_carryMinutes_17 : decode cX7_carryMinutes 17 = .ok (.aload_n 0, 1) := by decide +kernel
theorem dX7_carryMinutes_18 : decode cX7_carryMinutes 18 = .ok (.getfield 10, 3) := by decide +kernel
theorem dX7_carryMinutes_21 : decode cX7_carryMinutes 21 = .ok (.getfield 207, 3) := by decide +kernel
theorem dX7_carryMinutes_24 : decode cX7_carryMinutes 24 = .ok (.invokevirtual 210, 3) := by decide +kernel
theorem dX7_carryMinutes_27 : decode cX7_carryMinutes 27 = .ok (.ifCond .ne 5, 3) := by decide +kernel
theorem dX7_carryMinutes_30 : decode cX7_carryMinutes 30 = .ok (.iconst (-1), 1) := by decide +kernel
theorem dX7_carryMinutes_31 : decode cX7_carryMinutes 31 = .ok (.ireturn, 1) := by decide +kernel
theorem dX7_carryMinutes_32 : decode cX7_carryMinutes 32 = .ok (.iconst 3, 1) := by decide +kernel
theorem dX7_carryMinutes_33 : decode cX7_carryMinutes 33 = .ok (.aload_n 0, 1) := by decide +kernel
theorem dX7_carryMinutes_34 : decode cX7_carryMinutes 34 = .ok (.getfield 10, 3) := by decide +kernel
theorem dX7_carryMinutes_37 : decode cX7_carryMinutes 37 = .ok (.getfield 45, 3) := by decide +kernel
theorem dX7_carryMinutes_40 : decode cX7_carryMinutes 40 = .ok (.aload_n 0, 1) := by decide +kernel
theorem dX7_carryMinutes_41 : decode cX7_carryMinutes 41 = .ok (.getfield 10, 3) := by decide +kernel
theorem dX7_carryMinutes_44 : decode cX7_carryMinutes 44 = .ok (.getfield 207, 3) := by decide +kernel
theorem dX7_carryMinutes_47 : decode cX7_carryMinutes 47 = .ok (.invokevirtual 213, 3) := by decide +kernel
theorem dX7_carryMinutes_50 : decode cX7_carryMinutes 50 = .ok (.imul, 1) := by decide +kernel
theorem dX7_carryMinutes_51 : decode cX7_carryMinutes 51 = .ok (.ireturn, 1) := by decide +kernel
theorem dX7_team_0 : decode cX7_team 0 = .ok (.aload_n 0, 1) := by decide +kernel
theorem dX7_team_1 : decode cX7_team 1 = .ok (.getfield 10, 3) := by decide +kernel
theorem dX7_team_4 : decode cX7_team 4 = .ok (.invokevirtual 216, 3) := by decide +kernel
theorem dX7_team_7 : decode cX7_team 7 = .ok (.ireturn, 1) := by decide +kernel
theorem dX7_reach_0 : decode cX7_reach 0 = .ok (.iload_n 1, 1) := by decide +kernel
theorem dX7_reach_1 : decode cX7_reach 1 = .ok (.aload_n 0, 1) := by decide +kernel
theorem dX7_reach_2 : decode cX7_reach 2 = .ok (.getfield 10, 3) := by decide +kernel
theorem dX7_reach_5 : decode cX7_reach 5 = .ok (.getfield 83, 3) := by decide +kernel
theorem dX7_reach_8 : decode cX7_reach 8 = .ok (.invokestatic 54, 3) := by decide +kernel
theorem dX7_reach_11 : decode cX7_reach 11 = .ok (.aload_n 0, 1) := by decide +kernel
theorem dX7_reach_12 : decode cX7_reach 12 = .ok (.getfield 10, 3) := by decide +kernel
theorem dX7_reach_15 : decode cX7_reach 15 = .ok (.aload_n 0, 1) := by decide +kernel
theorem dX7_reach_16 : decode cX7_reach 16 = .ok (.getfield 10, 3) := by decide +kernel
theorem dX7_reach_19 : decode cX7_reach 19 = .ok (.getfield 166, 3) := by decide +kernel
theorem dX7_reach_22 : decode cX7_reach 22 = .ok (.iload_n 1, 1) := by decide +kernel
theorem dX7_reach_23 : decode cX7_reach 23 = .ok (.aaload, 1) := by decide +kernel
theorem dX7_reach_24 : decode cX7_reach 24 = .ok (.invokevirtual 220, 3) := by decide +kernel
theorem dX7_reach_27 : decode cX7_reach 27 = .ok (.ireturn, 1) := by decide +kernel
theorem dX7_meanTiredness_0 : decode cX7_meanTiredness 0 = .ok (.aload_n 0, 1) := by decide +kernel
theorem dX7_meanTiredness_1 : decode cX7_meanTiredness 1 = .ok (.getfield 10, 3) := by decide +kernel
theorem dX7_meanTiredness_4 : decode cX7_meanTiredness 4 = .ok (.getfield 83, 3) := by decide +kernel
theorem dX7_meanTiredness_7 : decode cX7_meanTiredness 7 = .ok (.istore_n 1, 1) := by decide +kernel
theorem dX7_meanTiredness_8 : decode cX7_meanTiredness 8 = .ok (.iload_n 1, 1) := by decide +kernel
theorem dX7_meanTiredness_9 : decode cX7_meanTiredness 9 = .ok (.ifCond .ne 5, 3) := by decide +kernel
theorem dX7_meanTiredness_12 : decode cX7_meanTiredness 12 = .ok (.dconst 0, 1) := by decide +kernel
theorem dX7_meanTiredness_13 : decode cX7_meanTiredness 13 = .ok (.dreturn, 1) := by decide +kernel
theorem dX7_meanTiredness_14 : decode cX7_meanTiredness 14 = .ok (.aload_n 0, 1) := by decide +kernel
theorem dX7_meanTiredness_15 : decode cX7_meanTiredness 15 = .ok (.getfield 10, 3) := by decide +kernel
theorem dX7_meanTiredness_18 : decode cX7_meanTiredness 18 = .ok (.invokevirtual 223, 3) := by decide +kernel
theorem dX7_meanTiredness_21 : decode cX7_meanTiredness 21 = .ok (.i2d, 1) := by decide +kernel
theorem dX7_meanTiredness_22 : decode cX7_meanTiredness 22 = .ok (.iload_n 1, 1) := by decide +kernel
theorem dX7_meanTiredness_23 : decode cX7_meanTiredness 23 = .ok (.i2d, 1) := by decide +kernel
theorem dX7_meanTiredness_24 : decode cX7_meanTiredness 24 = .ok (.ddiv, 1) := by decide +kernel
theorem dX7_meanTiredness_25 : decode cX7_meanTiredness 25 = .ok (.dreturn, 1) := by decide +kernel
theorem dX7_append_0 : decode cX7_append 0 = .ok (.iload_n 1, 1) := by decide +kernel
theorem dX7_append_1 : decode cX7_append 1 = .ok (.iconst 0, 1) := by decide +kernel
theorem dX7_append_2 : decode cX7_append 2 = .ok (.bipush 127, 2) := by decide +kernel
theorem dX7_append_4 : decode cX7_append 4 = .ok (.invokestatic 31, 3) := by decide +kernel
theorem dX7_append_7 : decode cX7_append 7 = .ok (.aload_n 0, 1) := by decide +kernel
theorem dX7_append_8 : decode cX7_append 8 = .ok (.getfield 27, 3) := by decide +kernel
theorem dX7_append_11 : decode cX7_append 11 = .ok (.getfield 226, 3) := by decide +kernel
theorem dX7_append_14 : decode cX7_append 14 = .ok (.bipush 90, 2) := by decide +kernel
theorem dX7_append_16 : decode cX7_append 16 = .ok (.if_icmp .ge 7, 3) := by decide +kernel
theorem dX7_append_19 : decode cX7_append 19 = .ok (.iconst 1, 1) := by decide +kernel
theorem dX7_append_20 : decode cX7_append 20 = .ok (.goto 4, 3) := by decide +kernel
theorem dX7_append_23 : decode cX7_append 23 = .ok (.iconst 0, 1) := by decide +kernel
theorem dX7_append_24 : decode cX7_append 24 = .ok (.invokestatic 62, 3) := by decide +kernel
theorem dX7_append_27 : decode cX7_append 27 = .ok (.aload_n 0, 1) := by decide +kernel
theorem dX7_append_28 : decode cX7_append 28 = .ok (.getfield 27, 3) := by decide +kernel
theorem dX7_append_31 : decode cX7_append 31 = .ok (.iload_n 1, 1) := by decide +kernel
theorem dX7_append_32 : decode cX7_append 32 = .ok (.invokevirtual 229, 3) := by decide +kernel
theorem dX7_append_35 : decode cX7_append 35 = .ok (.aload_n 0, 1) := by decide +kernel
theorem dX7_append_36 : decode cX7_append 36 = .ok (.getfield 27, 3) := by decide +kernel
theorem dX7_append_39 : decode cX7_append 39 = .ok (.getfield 226, 3) := by decide +kernel
theorem dX7_append_42 : decode cX7_append 42 = .ok (.ireturn, 1) := by decide +kernel
theorem dX7_clearText_0 : decode cX7_clearText 0 = .ok (.aload_n 0, 1) := by decide +kernel
theorem dX7_clearText_1 : decode cX7_clearText 1 = .ok (.getfield 27, 3) := by decide +kernel
theorem dX7_clearText_4 : decode cX7_clearText 4 = .ok (.getfield 226, 3) := by decide +kernel
theorem dX7_clearText_7 : decode cX7_clearText 7 = .ok (.istore_n 1, 1) := by decide +kernel
theorem dX7_clearText_8 : decode cX7_clearText 8 = .ok (.aload_n 0, 1) := by decide +kernel
theorem dX7_clearText_9 : decode cX7_clearText 9 = .ok (.getfield 27, 3) := by decide +kernel
theorem dX7_clearText_12 : decode cX7_clearText 12 = .ok (.iconst 0, 1) := by decide +kernel
theorem dX7_clearText_13 : decode cX7_clearText 13 = .ok (.putfield 226, 3) := by decide +kernel
theorem dX7_clearText_16 : decode cX7_clearText 16 = .ok (.iload_n 1, 1) := by decide +kernel
theorem dX7_clearText_17 : decode cX7_clearText 17 = .ok (.ireturn, 1) := by decide +kernel
theorem dX7_carryOut_0 : decode cX7_carryOut 0 = .ok (.aload_n 0, 1) := by decide +kernel
theorem dX7_carryOut_1 : decode cX7_carryOut 1 = .ok (.getfield 27, 3) := by decide +kernel
theorem dX7_carryOut_4 : decode cX7_carryOut 4 = .ok (.invokevirtual 232, 3) := by decide +kernel
theorem dX7_carryOut_7 : decode cX7_carryOut 7 = .ok (.istore_n 1, 1) := by decide +kernel
theorem dX7_carryOut_8 : decode cX7_carryOut 8 = .ok (.iload_n 1, 1) := by decide +kernel
theorem dX7_carryOut_9 : decode cX7_carryOut 9 = .ok (.iconst (-1), 1) := by decide +kernel
theorem dX7_carryOut_10 : decode cX7_carryOut 10 = .ok (.if_icmp .eq 8, 3) := by decide +kernel
theorem dX7_carryOut_13 : decode cX7_carryOut 13 = .ok (.bipush (-10), 2) := by decide +kernel
theorem dX7_carryOut_15 : decode cX7_carryOut 15 = .ok (.iload_n 1, 1) := by decide +kernel
theorem dX7_carryOut_16 : decode cX7_carryOut 16 = .ok (.isub, 1) := by decide +kernel
theorem dX7_carryOut_17 : decode cX7_carryOut 17 = .ok (.ireturn, 1) := by decide +kernel
theorem dX7_carryOut_18 : decode cX7_carryOut 18 = .ok (.aload_n 0, 1) := by decide +kernel
theorem dX7_carryOut_19 : decode cX7_carryOut 19 = .ok (.invokevirtual 38, 3) := by decide +kernel
theorem dX7_carryOut_22 : decode cX7_carryOut 22 = .ok (.iconst 0, 1) := by decide +kernel
theorem dX7_carryOut_23 : decode cX7_carryOut 23 = .ok (.istore_n 2, 1) := by decide +kernel
theorem dX7_carryOut_24 : decode cX7_carryOut 24 = .ok (.iconst 0, 1) := by decide +kernel
theorem dX7_carryOut_25 : decode cX7_carryOut 25 = .ok (.istore_n 3, 1) := by decide +kernel
theorem dX7_carryOut_26 : decode cX7_carryOut 26 = .ok (.iconst 0, 1) := by decide +kernel
theorem dX7_carryOut_27 : decode cX7_carryOut 27 = .ok (.istore 4, 2) := by decide +kernel
theorem dX7_carryOut_29 : decode cX7_carryOut 29 = .ok (.iload 4, 2) := by decide +kernel
theorem dX7_carryOut_31 : decode cX7_carryOut 31 = .ok (.bipush 90, 2) := by decide +kernel
theorem dX7_carryOut_33 : decode cX7_carryOut 33 = .ok (.if_icmp .ge 47, 3) := by decide +kernel
theorem dX7_carryOut_36 : decode cX7_carryOut 36 = .ok (.iload_n 3, 1) := by decide +kernel
theorem dX7_carryOut_37 : decode cX7_carryOut 37 = .ok (.aload_n 0, 1) := by decide +kernel
theorem dX7_carryOut_38 : decode cX7_carryOut 38 = .ok (.getfield 27, 3) := by decide +kernel
theorem dX7_carryOut_41 : decode cX7_carryOut 41 = .ok (.getfield 226, 3) := by decide +kernel
theorem dX7_carryOut_44 : decode cX7_carryOut 44 = .ok (.if_icmp .ge 36, 3) := by decide +kernel
theorem dX7_carryOut_47 : decode cX7_carryOut 47 = .ok (.aload_n 0, 1) := by decide +kernel
theorem dX7_carryOut_48 : decode cX7_carryOut 48 = .ok (.iload_n 3, 1) := by decide +kernel
theorem dX7_carryOut_49 : decode cX7_carryOut 49 = .ok (.invokevirtual 235, 3) := by decide +kernel
theorem dX7_carryOut_52 : decode cX7_carryOut 52 = .ok (.ifCond .ne 5, 3) := by decide +kernel
theorem dX7_carryOut_55 : decode cX7_carryOut 55 = .ok (.iload_n 2, 1) := by decide +kernel
theorem dX7_carryOut_56 : decode cX7_carryOut 56 = .ok (.ireturn, 1) := by decide +kernel
theorem dX7_carryOut_57 : decode cX7_carryOut 57 = .ok (.aload_n 0, 1) := by decide +kernel
theorem dX7_carryOut_58 : decode cX7_carryOut 58 = .ok (.iload_n 3, 1) := by decide +kernel
theorem dX7_carryOut_59 : decode cX7_carryOut 59 = .ok (.invokevirtual 238, 3) := by decide +kernel
theorem dX7_carryOut_62 : decode cX7_carryOut 62 = .ok (.iinc 2 1, 3) := by decide +kernel
theorem dX7_carryOut_65 : decode cX7_carryOut 65 = .ok (.aload_n 0, 1) := by decide +kernel
theorem dX7_carryOut_66 : decode cX7_carryOut 66 = .ok (.getfield 27, 3) := by decide +kernel
theorem dX7_carryOut_69 : decode cX7_carryOut 69 = .ok (.iload_n 3, 1) := by decide +kernel
theorem dX7_carryOut_70 : decode cX7_carryOut 70 = .ok (.invokevirtual 241, 3) := by decide +kernel
theorem dX7_carryOut_73 : decode cX7_carryOut 73 = .ok (.istore_n 3, 1) := by decide +kernel
theorem dX7_carryOut_74 : decode cX7_carryOut 74 = .ok (.iinc 4 1, 3) := by decide +kernel
theorem dX7_carryOut_77 : decode cX7_carryOut 77 = .ok (.goto (-48), 3) := by decide +kernel
theorem dX7_carryOut_80 : decode cX7_carryOut 80 = .ok (.iload_n 2, 1) := by decide +kernel
theorem dX7_carryOut_81 : decode cX7_carryOut 81 = .ok (.ireturn, 1) := by decide +kernel
theorem dX7_undo_0 : decode cX7_undo 0 = .ok (.aload_n 0, 1) := by decide +kernel
theorem dX7_undo_1 : decode cX7_undo 1 = .ok (.getfield 20, 3) := by decide +kernel
theorem dX7_undo_4 : decode cX7_undo 4 = .ok (.ifCond .le 7, 3) := by decide +kernel
theorem dX7_undo_7 : decode cX7_undo 7 = .ok (.iconst 1, 1) := by decide +kernel
theorem dX7_undo_8 : decode cX7_undo 8 = .ok (.goto 4, 3) := by decide +kernel
theorem dX7_undo_11 : decode cX7_undo 11 = .ok (.iconst 0, 1) := by decide +kernel
theorem dX7_undo_12 : decode cX7_undo 12 = .ok (.invokestatic 62, 3) := by decide +kernel
theorem dX7_undo_15 : decode cX7_undo 15 = .ok (.aload_n 0, 1) := by decide +kernel
theorem dX7_undo_16 : decode cX7_undo 16 = .ok (.dup, 1) := by decide +kernel
theorem dX7_undo_17 : decode cX7_undo 17 = .ok (.getfield 20, 3) := by decide +kernel
theorem dX7_undo_20 : decode cX7_undo 20 = .ok (.iconst 1, 1) := by decide +kernel
theorem dX7_undo_21 : decode cX7_undo 21 = .ok (.isub, 1) := by decide +kernel
theorem dX7_undo_22 : decode cX7_undo 22 = .ok (.putfield 20, 3) := by decide +kernel
theorem dX7_undo_25 : decode cX7_undo 25 = .ok (.aload_n 0, 1) := by decide +kernel
theorem dX7_undo_26 : decode cX7_undo 26 = .ok (.getfield 10, 3) := by decide +kernel
theorem dX7_undo_29 : decode cX7_undo 29 = .ok (.aload_n 0, 1) := by decide +kernel
theorem dX7_undo_30 : decode cX7_undo 30 = .ok (.getfield 16, 3) := by decide +kernel
theorem dX7_undo_33 : decode cX7_undo 33 = .ok (.aload_n 0, 1) := by decide +kernel
theorem dX7_undo_34 : decode cX7_undo 34 = .ok (.getfield 20, 3) := by decide +kernel
theorem dX7_undo_37 : decode cX7_undo 37 = .ok (.aaload, 1) := by decide +kernel
theorem dX7_undo_38 : decode cX7_undo 38 = .ok (.invokevirtual 244, 3) := by decide +kernel
theorem dX7_undo_41 : decode cX7_undo 41 = .ok (.aload_n 0, 1) := by decide +kernel
theorem dX7_undo_42 : decode cX7_undo 42 = .ok (.getfield 20, 3) := by decide +kernel
theorem dX7_undo_45 : decode cX7_undo 45 = .ok (.ireturn, 1) := by decide +kernel
theorem dX7_digest_0 : decode cX7_digest 0 = .ok (.ldc2_w 248, 3) := by decide +kernel
theorem dX7_digest_3 : decode cX7_digest 3 = .ok (.aload_n 0, 1) := by decide +kernel
theorem dX7_digest_4 : decode cX7_digest 4 = .ok (.getfield 27, 3) := by decide +kernel
theorem dX7_digest_7 : decode cX7_digest 7 = .ok (.getfield 226, 3) := by decide +kernel
theorem dX7_digest_10 : decode cX7_digest 10 = .ok (.i2l, 1) := by decide +kernel
theorem dX7_digest_11 : decode cX7_digest 11 = .ok (.ladd, 1) := by decide +kernel
theorem dX7_digest_12 : decode cX7_digest 12 = .ok (.lstore_n 1, 1) := by decide +kernel
theorem dX7_digest_13 : decode cX7_digest 13 = .ok (.aload_n 0, 1) := by decide +kernel
theorem dX7_digest_14 : decode cX7_digest 14 = .ok (.getfield 10, 3) := by decide +kernel
theorem dX7_digest_17 : decode cX7_digest 17 = .ok (.lload_n 1, 1) := by decide +kernel
theorem dX7_digest_18 : decode cX7_digest 18 = .ok (.invokevirtual 250, 3) := by decide +kernel
theorem dX7_digest_21 : decode cX7_digest 21 = .ok (.lstore_n 1, 1) := by decide +kernel
theorem dX7_digest_22 : decode cX7_digest 22 = .ok (.ldc2_w 254, 3) := by decide +kernel
theorem dX7_digest_25 : decode cX7_digest 25 = .ok (.lload_n 1, 1) := by decide +kernel
theorem dX7_digest_26 : decode cX7_digest 26 = .ok (.lmul, 1) := by decide +kernel
theorem dX7_digest_27 : decode cX7_digest 27 = .ok (.aload_n 0, 1) := by decide +kernel
theorem dX7_digest_28 : decode cX7_digest 28 = .ok (.getfield 20, 3) := by decide +kernel
theorem dX7_digest_31 : decode cX7_digest 31 = .ok (.i2l, 1) := by decide +kernel
theorem dX7_digest_32 : decode cX7_digest 32 = .ok (.ladd, 1) := by decide +kernel
theorem dX7_digest_33 : decode cX7_digest 33 = .ok (.lreturn, 1) := by decide +kernel
theorem dX7_requireIndex_0 : decode cX7_requireIndex 0 = .ok (.iload_n 0, 1) := by decide +kernel
theorem dX7_requireIndex_1 : decode cX7_requireIndex 1 = .ok (.ifCond .lt 8, 3) := by decide +kernel
theorem dX7_requireIndex_4 : decode cX7_requireIndex 4 = .ok (.iload_n 0, 1) := by decide +kernel
theorem dX7_requireIndex_5 : decode cX7_requireIndex 5 = .ok (.iload_n 1, 1) := by decide +kernel
theorem dX7_requireIndex_6 : decode cX7_requireIndex 6 = .ok (.if_icmp .lt 14, 3) := by decide +kernel
theorem dX7_requireIndex_9 : decode cX7_requireIndex 9 = .ok (.new 256, 3) := by decide +kernel
theorem dX7_requireIndex_12 : decode cX7_requireIndex 12 = .ok (.dup, 1) := by decide +kernel
theorem dX7_requireIndex_13 : decode cX7_requireIndex 13 = .ok (.ldc_w 258, 3) := by decide +kernel
theorem dX7_requireIndex_16 : decode cX7_requireIndex 16 = .ok (.invokespecial 260, 3) := by decide +kernel
theorem dX7_requireIndex_19 : decode cX7_requireIndex 19 = .ok (.athrow, 1) := by decide +kernel
theorem dX7_requireIndex_20 : decode cX7_requireIndex 20 = .ok (.return_, 1) := by decide +kernel
theorem dX7_requireRange_0 : decode cX7_requireRange 0 = .ok (.iload_n 0, 1) := by decide +kernel
theorem dX7_requireRange_1 : decode cX7_requireRange 1 = .ok (.iload_n 1, 1) := by decide +kernel
theorem dX7_requireRange_2 : decode cX7_requireRange 2 = .ok (.if_icmp .lt 12, 3) := by decide +kernel
theorem dX7_requireRange_5 : decode cX7_requireRange 5 = .ok (.iload_n 0, 1) := by decide +kernel
theorem dX7_requireRange_6 : decode cX7_requireRange 6 = .ok (.iload_n 2, 1) := by decide +kernel
theorem dX7_requireRange_7 : decode cX7_requireRange 7 = .ok (.if_icmp .gt 7, 3) := by decide +kernel
theorem dX7_requireRange_10 : decode cX7_requireRange 10 = .ok (.iconst 1, 1) := by decide +kernel
theorem dX7_requireRange_11 : decode cX7_requireRange 11 = .ok (.goto 4, 3) := by decide +kernel
theorem dX7_requireRange_14 : decode cX7_requireRange 14 = .ok (.iconst 0, 1) := by decide +kernel
theorem dX7_requireRange_15 : decode cX7_requireRange 15 = .ok (.invokestatic 132, 3) := by decide +kernel
theorem dX7_requireRange_18 : decode cX7_requireRange 18 = .ok (.return_, 1) := by decide +kernel
theorem dX7_requireArgument_0 : decode cX7_requireArgument 0 = .ok (.iload_n 0, 1) := by decide +kernel
theorem dX7_requireArgument_1 : decode cX7_requireArgument 1 = .ok (.ifCond .ne 14, 3) := by decide +kernel
theorem dX7_requireArgument_4 : decode cX7_requireArgument 4 = .ok (.new 263, 3) := by decide +kernel
theorem dX7_requireArgument_7 : decode cX7_requireArgument 7 = .ok (.dup, 1) := by decide +kernel
theorem dX7_requireArgument_8 : decode cX7_requireArgument 8 = .ok (.ldc_w 265, 3) := by decide +kernel
theorem dX7_requireArgument_11 : decode cX7_requireArgument 11 = .ok (.invokespecial 267, 3) := by decide +kernel
theorem dX7_requireArgument_14 : decode cX7_requireArgument 14 = .ok (.athrow, 1) := by decide +kernel
theorem dX7_requireArgument_15 : decode cX7_requireArgument 15 = .ok (.return_, 1) := by decide +kernel
theorem dX7_requirePossible_0 : decode cX7_requirePossible 0 = .ok (.iload_n 0, 1) := by decide +kernel
theorem dX7_requirePossible_1 : decode cX7_requirePossible 1 = .ok (.ifCond .ne 14, 3) := by decide +kernel
theorem dX7_requirePossible_4 : decode cX7_requirePossible 4 = .ok (.new 268, 3) := by decide +kernel
theorem dX7_requirePossible_7 : decode cX7_requirePossible 7 = .ok (.dup, 1) := by decide +kernel
theorem dX7_requirePossible_8 : decode cX7_requirePossible 8 = .ok (.ldc_w 270, 3) := by decide +kernel
theorem dX7_requirePossible_11 : decode cX7_requirePossible 11 = .ok (.invokespecial 272, 3) := by decide +kernel
theorem dX7_requirePossible_14 : decode cX7_requirePossible 14 = .ok (.athrow, 1) := by decide +kernel
theorem dX7_requirePossible_15 : decode cX7_requirePossible 15 = .ok (.return_, 1) := by decide +kernel
theorem dX7_save_0 : decode cX7_save 0 = .ok (.aload_n 0, 1) := by decide +kernel
theorem dX7_save_1 : decode cX7_save 1 = .ok (.getfield 20, 3) := by decide +kernel
theorem dX7_save_4 : decode cX7_save 4 = .ok (.iconst 4, 1) := by decide +kernel
theorem dX7_save_5 : decode cX7_save 5 = .ok (.if_icmp .lt 7, 3) := by decide +kernel
theorem dX7_save_8 : decode cX7_save 8 = .ok (.aload_n 0, 1) := by decide +kernel
theorem dX7_save_9 : decode cX7_save 9 = .ok (.invokevirtual 273, 3) := by decide +kernel
theorem dX7_save_12 : decode cX7_save 12 = .ok (.aload_n 0, 1) := by decide +kernel
theorem dX7_save_13 : decode cX7_save 13 = .ok (.getfield 16, 3) := by decide +kernel
theorem dX7_save_16 : decode cX7_save 16 = .ok (.aload_n 0, 1) := by decide +kernel
theorem dX7_save_17 : decode cX7_save 17 = .ok (.getfield 20, 3) := by decide +kernel
theorem dX7_save_20 : decode cX7_save 20 = .ok (.aaload, 1) := by decide +kernel
theorem dX7_save_21 : decode cX7_save 21 = .ok (.aload_n 0, 1) := by decide +kernel
theorem dX7_save_22 : decode cX7_save 22 = .ok (.getfield 10, 3) := by decide +kernel
theorem dX7_save_25 : decode cX7_save 25 = .ok (.invokevirtual 244, 3) := by decide +kernel
theorem dX7_save_28 : decode cX7_save 28 = .ok (.aload_n 0, 1) := by decide +kernel
theorem dX7_save_29 : decode cX7_save 29 = .ok (.dup, 1) := by decide +kernel
theorem dX7_save_30 : decode cX7_save 30 = .ok (.getfield 20, 3) := by decide +kernel
theorem dX7_save_33 : decode cX7_save 33 = .ok (.iconst 1, 1) := by decide +kernel
theorem dX7_save_34 : decode cX7_save 34 = .ok (.iadd, 1) := by decide +kernel
theorem dX7_save_35 : decode cX7_save 35 = .ok (.putfield 20, 3) := by decide +kernel
theorem dX7_save_38 : decode cX7_save 38 = .ok (.return_, 1) := by decide +kernel
theorem dX7_dropOldest_0 : decode cX7_dropOldest 0 = .ok (.aload_n 0, 1) := by decide +kernel
theorem dX7_dropOldest_1 : decode cX7_dropOldest 1 = .ok (.getfield 16, 3) := by decide +kernel
theorem dX7_dropOldest_4 : decode cX7_dropOldest 4 = .ok (.iconst 0, 1) := by decide +kernel
theorem dX7_dropOldest_5 : decode cX7_dropOldest 5 = .ok (.aaload, 1) := by decide +kernel
theorem dX7_dropOldest_6 : decode cX7_dropOldest 6 = .ok (.astore_n 1, 1) := by decide +kernel
theorem dX7_dropOldest_7 : decode cX7_dropOldest 7 = .ok (.iconst 1, 1) := by decide +kernel
theorem dX7_dropOldest_8 : decode cX7_dropOldest 8 = .ok (.istore_n 2, 1) := by decide +kernel
theorem dX7_dropOldest_9 : decode cX7_dropOldest 9 = .ok (.iload_n 2, 1) := by decide +kernel
theorem dX7_dropOldest_10 : decode cX7_dropOldest 10 = .ok (.iconst 4, 1) := by decide +kernel
theorem dX7_dropOldest_11 : decode cX7_dropOldest 11 = .ok (.if_icmp .ge 23, 3) := by decide +kernel
theorem dX7_dropOldest_14 : decode cX7_dropOldest 14 = .ok (.aload_n 0, 1) := by decide +kernel
theorem dX7_dropOldest_15 : decode cX7_dropOldest 15 = .ok (.getfield 16, 3) := by decide +kernel
theorem dX7_dropOldest_18 : decode cX7_dropOldest 18 = .ok (.iload_n 2, 1) := by decide +kernel
theorem dX7_dropOldest_19 : decode cX7_dropOldest 19 = .ok (.iconst 1, 1) := by decide +kernel
theorem dX7_dropOldest_20 : decode cX7_dropOldest 20 = .ok (.isub, 1) := by decide +kernel
theorem dX7_dropOldest_21 : decode cX7_dropOldest 21 = .ok (.aload_n 0, 1) := by decide +kernel
theorem dX7_dropOldest_22 : decode cX7_dropOldest 22 = .ok (.getfield 16, 3) := by decide +kernel
theorem dX7_dropOldest_25 : decode cX7_dropOldest 25 = .ok (.iload_n 2, 1) := by decide +kernel
theorem dX7_dropOldest_26 : decode cX7_dropOldest 26 = .ok (.aaload, 1) := by decide +kernel
theorem dX7_dropOldest_27 : decode cX7_dropOldest 27 = .ok (.aastore, 1) := by decide +kernel
theorem dX7_dropOldest_28 : decode cX7_dropOldest 28 = .ok (.iinc 2 1, 3) := by decide +kernel
theorem dX7_dropOldest_31 : decode cX7_dropOldest 31 = .ok (.goto (-22), 3) := by decide +kernel
theorem dX7_dropOldest_34 : decode cX7_dropOldest 34 = .ok (.aload_n 0, 1) := by decide +kernel
theorem dX7_dropOldest_35 : decode cX7_dropOldest 35 = .ok (.getfield 16, 3) := by decide +kernel
theorem dX7_dropOldest_38 : decode cX7_dropOldest 38 = .ok (.iconst 3, 1) := by decide +kernel
theorem dX7_dropOldest_39 : decode cX7_dropOldest 39 = .ok (.aload_n 1, 1) := by decide +kernel
theorem dX7_dropOldest_40 : decode cX7_dropOldest 40 = .ok (.aastore, 1) := by decide +kernel
theorem dX7_dropOldest_41 : decode cX7_dropOldest 41 = .ok (.aload_n 0, 1) := by decide +kernel
theorem dX7_dropOldest_42 : decode cX7_dropOldest 42 = .ok (.iconst 3, 1) := by decide +kernel
theorem dX7_dropOldest_43 : decode cX7_dropOldest 43 = .ok (.putfield 20, 3) := by decide +kernel
theorem dX7_dropOldest_46 : decode cX7_dropOldest 46 = .ok (.return_, 1) := by decide +kernel
theorem dX7_canObey_0 : decode cX7_canObey 0 = .ok (.aload_n 0, 1) := by decide +kernel
theorem dX7_canObey_1 : decode cX7_canObey 1 = .ok (.getfield 27, 3) := by decide +kernel
theorem dX7_canObey_4 : decode cX7_canObey 4 = .ok (.iload_n 1, 1) := by decide +kernel
theorem dX7_canObey_5 : decode cX7_canObey 5 = .ok (.iconst 1, 1) := by decide +kernel
theorem dX7_canObey_6 : decode cX7_canObey 6 = .ok (.iadd, 1) := by decide +kernel
theorem dX7_canObey_7 : decode cX7_canObey 7 = .ok (.invokevirtual 276, 3) := by decide +kernel
theorem dX7_canObey_10 : decode cX7_canObey 10 = .ok (.istore_n 2, 1) := by decide +kernel
theorem dX7_canObey_11 : decode cX7_canObey 11 = .ok (.aload_n 0, 1) := by decide +kernel
theorem dX7_canObey_12 : decode cX7_canObey 12 = .ok (.getfield 27, 3) := by decide +kernel
theorem dX7_canObey_15 : decode cX7_canObey 15 = .ok (.iload_n 1, 1) := by decide +kernel
theorem dX7_canObey_16 : decode cX7_canObey 16 = .ok (.iconst 2, 1) := by decide +kernel
theorem dX7_canObey_17 : decode cX7_canObey 17 = .ok (.iadd, 1) := by decide +kernel
theorem dX7_canObey_18 : decode cX7_canObey 18 = .ok (.invokevirtual 276, 3) := by decide +kernel
theorem dX7_canObey_21 : decode cX7_canObey 21 = .ok (.istore_n 3, 1) := by decide +kernel
theorem dX7_canObey_22 : decode cX7_canObey 22 = .ok (.aload_n 0, 1) := by decide +kernel
theorem dX7_canObey_23 : decode cX7_canObey 23 = .ok (.getfield 27, 3) := by decide +kernel
theorem dX7_canObey_26 : decode cX7_canObey 26 = .ok (.iload_n 1, 1) := by decide +kernel
theorem dX7_canObey_27 : decode cX7_canObey 27 = .ok (.invokevirtual 279, 3) := by decide +kernel
theorem dX7_canObey_30 : decode cX7_canObey 30 = .ok (.lookupswitch 134 #[(99, 88), (103, 50), (109, 79), (114, 70), (116, 60)], 50) := by decide +kernel
theorem dX7_canObey_80 : decode cX7_canObey 80 = .ok (.aload_n 0, 1) := by decide +kernel
theorem dX7_canObey_81 : decode cX7_canObey 81 = .ok (.getfield 10, 3) := by decide +kernel
theorem dX7_canObey_84 : decode cX7_canObey 84 = .ok (.iload_n 2, 1) := by decide +kernel
theorem dX7_canObey_85 : decode cX7_canObey 85 = .ok (.iload_n 3, 1) := by decide +kernel
theorem dX7_canObey_86 : decode cX7_canObey 86 = .ok (.invokevirtual 94, 3) := by decide +kernel
theorem dX7_canObey_89 : decode cX7_canObey 89 = .ok (.ireturn, 1) := by decide +kernel
theorem dX7_canObey_90 : decode cX7_canObey 90 = .ok (.aload_n 0, 1) := by decide +kernel
theorem dX7_canObey_91 : decode cX7_canObey 91 = .ok (.getfield 10, 3) := by decide +kernel
theorem dX7_canObey_94 : decode cX7_canObey 94 = .ok (.iload_n 2, 1) := by decide +kernel
theorem dX7_canObey_95 : decode cX7_canObey 95 = .ok (.iload_n 3, 1) := by decide +kernel
theorem dX7_canObey_96 : decode cX7_canObey 96 = .ok (.invokevirtual 102, 3) := by decide +kernel
theorem dX7_canObey_99 : decode cX7_canObey 99 = .ok (.ireturn, 1) := by decide +kernel
theorem dX7_canObey_100 : decode cX7_canObey 100 = .ok (.aload_n 0, 1) := by decide +kernel
theorem dX7_canObey_101 : decode cX7_canObey 101 = .ok (.getfield 10, 3) := by decide +kernel
theorem dX7_canObey_104 : decode cX7_canObey 104 = .ok (.iload_n 2, 1) := by decide +kernel
theorem dX7_canObey_105 : decode cX7_canObey 105 = .ok (.invokevirtual 117, 3) := by decide +kernel
theorem dX7_canObey_108 : decode cX7_canObey 108 = .ok (.ireturn, 1) := by decide +kernel
theorem dX7_canObey_109 : decode cX7_canObey 109 = .ok (.aload_n 0, 1) := by decide +kernel
theorem dX7_canObey_110 : decode cX7_canObey 110 = .ok (.getfield 10, 3) := by decide +kernel
theorem dX7_canObey_113 : decode cX7_canObey 113 = .ok (.iload_n 2, 1) := by decide +kernel
theorem dX7_canObey_114 : decode cX7_canObey 114 = .ok (.invokevirtual 141, 3) := by decide +kernel
theorem dX7_canObey_117 : decode cX7_canObey 117 = .ok (.ireturn, 1) := by decide +kernel
theorem dX7_canObey_118 : decode cX7_canObey 118 = .ok (.aload_n 0, 1) := by decide +kernel
theorem dX7_canObey_119 : decode cX7_canObey 119 = .ok (.getfield 10, 3) := by decide +kernel
theorem dX7_canObey_122 : decode cX7_canObey 122 = .ok (.aload_n 0, 1) := by decide +kernel
theorem dX7_canObey_123 : decode cX7_canObey 123 = .ok (.getfield 27, 3) := by decide +kernel
theorem dX7_canObey_126 : decode cX7_canObey 126 = .ok (.iload_n 1, 1) := by decide +kernel
theorem dX7_canObey_127 : decode cX7_canObey 127 = .ok (.iconst 1, 1) := by decide +kernel
theorem dX7_canObey_128 : decode cX7_canObey 128 = .ok (.iadd, 1) := by decide +kernel
theorem dX7_canObey_129 : decode cX7_canObey 129 = .ok (.invokevirtual 282, 3) := by decide +kernel
theorem dX7_canObey_132 : decode cX7_canObey 132 = .ok (.invokevirtual 129, 3) := by decide +kernel
theorem dX7_canObey_135 : decode cX7_canObey 135 = .ok (.ifCond .eq 27, 3) := by decide +kernel
theorem dX7_canObey_138 : decode cX7_canObey 138 = .ok (.aload_n 0, 1) := by decide +kernel
theorem dX7_canObey_139 : decode cX7_canObey 139 = .ok (.getfield 10, 3) := by decide +kernel
theorem dX7_canObey_142 : decode cX7_canObey 142 = .ok (.aload_n 0, 1) := by decide +kernel
theorem dX7_canObey_143 : decode cX7_canObey 143 = .ok (.getfield 27, 3) := by decide +kernel
theorem dX7_canObey_146 : decode cX7_canObey 146 = .ok (.iload_n 1, 1) := by decide +kernel
theorem dX7_canObey_147 : decode cX7_canObey 147 = .ok (.iconst 1, 1) := by decide +kernel
theorem dX7_canObey_148 : decode cX7_canObey 148 = .ok (.iadd, 1) := by decide +kernel
theorem dX7_canObey_149 : decode cX7_canObey 149 = .ok (.invokevirtual 282, 3) := by decide +kernel
theorem dX7_canObey_152 : decode cX7_canObey 152 = .ok (.invokevirtual 135, 3) := by decide +kernel
theorem dX7_canObey_155 : decode cX7_canObey 155 = .ok (.ifCond .eq 7, 3) := by decide +kernel
theorem dX7_canObey_158 : decode cX7_canObey 158 = .ok (.iconst 1, 1) := by decide +kernel
theorem dX7_canObey_159 : decode cX7_canObey 159 = .ok (.goto 4, 3) := by decide +kernel
theorem dX7_canObey_162 : decode cX7_canObey 162 = .ok (.iconst 0, 1) := by decide +kernel
theorem dX7_canObey_163 : decode cX7_canObey 163 = .ok (.ireturn, 1) := by decide +kernel
theorem dX7_canObey_164 : decode cX7_canObey 164 = .ok (.aload_n 0, 1) := by decide +kernel
theorem dX7_canObey_165 : decode cX7_canObey 165 = .ok (.getfield 10, 3) := by decide +kernel
theorem dX7_canObey_168 : decode cX7_canObey 168 = .ok (.aload_n 0, 1) := by decide +kernel
theorem dX7_canObey_169 : decode cX7_canObey 169 = .ok (.getfield 27, 3) := by decide +kernel
theorem dX7_canObey_172 : decode cX7_canObey 172 = .ok (.iload_n 1, 1) := by decide +kernel
theorem dX7_canObey_173 : decode cX7_canObey 173 = .ok (.iconst 1, 1) := by decide +kernel
theorem dX7_canObey_174 : decode cX7_canObey 174 = .ok (.iadd, 1) := by decide +kernel
theorem dX7_canObey_175 : decode cX7_canObey 175 = .ok (.invokevirtual 285, 3) := by decide +kernel
theorem dX7_canObey_178 : decode cX7_canObey 178 = .ok (.invokevirtual 154, 3) := by decide +kernel
theorem dX7_canObey_181 : decode cX7_canObey 181 = .ok (.ireturn, 1) := by decide +kernel
theorem dX7_obey_0 : decode cX7_obey 0 = .ok (.aload_n 0, 1) := by decide +kernel
theorem dX7_obey_1 : decode cX7_obey 1 = .ok (.getfield 27, 3) := by decide +kernel
theorem dX7_obey_4 : decode cX7_obey 4 = .ok (.iload_n 1, 1) := by decide +kernel
theorem dX7_obey_5 : decode cX7_obey 5 = .ok (.iconst 1, 1) := by decide +kernel
theorem dX7_obey_6 : decode cX7_obey 6 = .ok (.iadd, 1) := by decide +kernel
theorem dX7_obey_7 : decode cX7_obey 7 = .ok (.invokevirtual 276, 3) := by decide +kernel
theorem dX7_obey_10 : decode cX7_obey 10 = .ok (.istore_n 2, 1) := by decide +kernel
theorem dX7_obey_11 : decode cX7_obey 11 = .ok (.aload_n 0, 1) := by decide +kernel
theorem dX7_obey_12 : decode cX7_obey 12 = .ok (.getfield 27, 3) := by decide +kernel
theorem dX7_obey_15 : decode cX7_obey 15 = .ok (.iload_n 1, 1) := by decide +kernel
theorem dX7_obey_16 : decode cX7_obey 16 = .ok (.iconst 2, 1) := by decide +kernel
theorem dX7_obey_17 : decode cX7_obey 17 = .ok (.iadd, 1) := by decide +kernel
theorem dX7_obey_18 : decode cX7_obey 18 = .ok (.invokevirtual 276, 3) := by decide +kernel
theorem dX7_obey_21 : decode cX7_obey 21 = .ok (.istore_n 3, 1) := by decide +kernel
theorem dX7_obey_22 : decode cX7_obey 22 = .ok (.aload_n 0, 1) := by decide +kernel
theorem dX7_obey_23 : decode cX7_obey 23 = .ok (.getfield 27, 3) := by decide +kernel
theorem dX7_obey_26 : decode cX7_obey 26 = .ok (.iload_n 1, 1) := by decide +kernel
theorem dX7_obey_27 : decode cX7_obey 27 = .ok (.invokevirtual 279, 3) := by decide +kernel
theorem dX7_obey_30 : decode cX7_obey 30 = .ok (.lookupswitch 119 #[(99, 98), (103, 50), (109, 87), (114, 75), (116, 63)], 50) := by decide +kernel
theorem dX7_obey_80 : decode cX7_obey 80 = .ok (.aload_n 0, 1) := by decide +kernel
theorem dX7_obey_81 : decode cX7_obey 81 = .ok (.getfield 10, 3) := by decide +kernel
theorem dX7_obey_84 : decode cX7_obey 84 = .ok (.iload_n 2, 1) := by decide +kernel
theorem dX7_obey_85 : decode cX7_obey 85 = .ok (.iload_n 3, 1) := by decide +kernel
theorem dX7_obey_86 : decode cX7_obey 86 = .ok (.invokevirtual 98, 3) := by decide +kernel
theorem dX7_obey_89 : decode cX7_obey 89 = .ok (.pop, 1) := by decide +kernel
theorem dX7_obey_90 : decode cX7_obey 90 = .ok (.goto 77, 3) := by decide +kernel
theorem dX7_obey_93 : decode cX7_obey 93 = .ok (.aload_n 0, 1) := by decide +kernel
theorem dX7_obey_94 : decode cX7_obey 94 = .ok (.getfield 10, 3) := by decide +kernel
theorem dX7_obey_97 : decode cX7_obey 97 = .ok (.iload_n 2, 1) := by decide +kernel
theorem dX7_obey_98 : decode cX7_obey 98 = .ok (.iload_n 3, 1) := by decide +kernel
theorem dX7_obey_99 : decode cX7_obey 99 = .ok (.invokevirtual 105, 3) := by decide +kernel
theorem dX7_obey_102 : decode cX7_obey 102 = .ok (.goto 65, 3) := by decide +kernel
theorem dX7_obey_105 : decode cX7_obey 105 = .ok (.aload_n 0, 1) := by decide +kernel
theorem dX7_obey_106 : decode cX7_obey 106 = .ok (.getfield 10, 3) := by decide +kernel
theorem dX7_obey_109 : decode cX7_obey 109 = .ok (.iload_n 2, 1) := by decide +kernel
theorem dX7_obey_110 : decode cX7_obey 110 = .ok (.invokevirtual 120, 3) := by decide +kernel
theorem dX7_obey_113 : decode cX7_obey 113 = .ok (.pop, 1) := by decide +kernel
theorem dX7_obey_114 : decode cX7_obey 114 = .ok (.goto 53, 3) := by decide +kernel
theorem dX7_obey_117 : decode cX7_obey 117 = .ok (.aload_n 0, 1) := by decide +kernel
theorem dX7_obey_118 : decode cX7_obey 118 = .ok (.getfield 10, 3) := by decide +kernel
theorem dX7_obey_121 : decode cX7_obey 121 = .ok (.iload_n 2, 1) := by decide +kernel
theorem dX7_obey_122 : decode cX7_obey 122 = .ok (.invokevirtual 144, 3) := by decide +kernel
theorem dX7_obey_125 : decode cX7_obey 125 = .ok (.goto 42, 3) := by decide +kernel
theorem dX7_obey_128 : decode cX7_obey 128 = .ok (.aload_n 0, 1) := by decide +kernel
theorem dX7_obey_129 : decode cX7_obey 129 = .ok (.getfield 10, 3) := by decide +kernel
theorem dX7_obey_132 : decode cX7_obey 132 = .ok (.aload_n 0, 1) := by decide +kernel
theorem dX7_obey_133 : decode cX7_obey 133 = .ok (.getfield 27, 3) := by decide +kernel
theorem dX7_obey_136 : decode cX7_obey 136 = .ok (.iload_n 1, 1) := by decide +kernel
theorem dX7_obey_137 : decode cX7_obey 137 = .ok (.iconst 1, 1) := by decide +kernel
theorem dX7_obey_138 : decode cX7_obey 138 = .ok (.iadd, 1) := by decide +kernel
theorem dX7_obey_139 : decode cX7_obey 139 = .ok (.invokevirtual 282, 3) := by decide +kernel
theorem dX7_obey_142 : decode cX7_obey 142 = .ok (.invokevirtual 138, 3) := by decide +kernel
theorem dX7_obey_145 : decode cX7_obey 145 = .ok (.pop, 1) := by decide +kernel
theorem dX7_obey_146 : decode cX7_obey 146 = .ok (.goto 21, 3) := by decide +kernel
theorem dX7_obey_149 : decode cX7_obey 149 = .ok (.aload_n 0, 1) := by decide +kernel
theorem dX7_obey_150 : decode cX7_obey 150 = .ok (.getfield 10, 3) := by decide +kernel
theorem dX7_obey_153 : decode cX7_obey 153 = .ok (.aload_n 0, 1) := by decide +kernel
theorem dX7_obey_154 : decode cX7_obey 154 = .ok (.getfield 27, 3) := by decide +kernel
theorem dX7_obey_157 : decode cX7_obey 157 = .ok (.iload_n 1, 1) := by decide +kernel
theorem dX7_obey_158 : decode cX7_obey 158 = .ok (.iconst 1, 1) := by decide +kernel
theorem dX7_obey_159 : decode cX7_obey 159 = .ok (.iadd, 1) := by decide +kernel
theorem dX7_obey_160 : decode cX7_obey 160 = .ok (.invokevirtual 285, 3) := by decide +kernel
theorem dX7_obey_163 : decode cX7_obey 163 = .ok (.invokevirtual 157, 3) := by decide +kernel
theorem dX7_obey_166 : decode cX7_obey 166 = .ok (.pop, 1) := by decide +kernel
theorem dX7_obey_167 : decode cX7_obey 167 = .ok (.return_, 1) := by decide +kernel
end
section
theorem dX8_init_0 : decode cX8_init 0 = .ok (.aload_n 0, 1) := by decide +kernel
theorem dX8_init_1 : decode cX8_init 1 = .ok (.invokespecial 1, 3) := by decide +kernel
theorem dX8_init_4 : decode cX8_init 4 = .ok (.aload_n 0, 1) := by decide +kernel
theorem dX8_init_5 : decode cX8_init 5 = .ok (.sipush 178, 3) := by decide +kernel
theorem dX8_init_8 : decode cX8_init 8 = .ok (.newarray .int, 2) := by decide +kernel
theorem dX8_init_10 : decode cX8_init 10 = .ok (.putfield 7, 3) := by decide +kernel
theorem dX8_init_13 : decode cX8_init 13 = .ok (.aload_n 0, 1) := by decide +kernel
theorem dX8_init_14 : decode cX8_init 14 = .ok (.sipush 712, 3) := by decide +kernel
theorem dX8_init_17 : decode cX8_init 17 = .ok (.newarray .int, 2) := by decide +kernel
theorem dX8_init_19 : decode cX8_init 19 = .ok (.putfield 13, 3) := by decide +kernel
theorem dX8_init_22 : decode cX8_init 22 = .ok (.aload_n 0, 1) := by decide +kernel
theorem dX8_init_23 : decode cX8_init 23 = .ok (.sipush 178, 3) := by decide +kernel
theorem dX8_init_26 : decode cX8_init 26 = .ok (.newarray .int, 2) := by decide +kernel
theorem dX8_init_28 : decode cX8_init 28 = .ok (.putfield 16, 3) := by decide +kernel
theorem dX8_init_31 : decode cX8_init 31 = .ok (.aload_n 0, 1) := by decide +kernel
theorem dX8_init_32 : decode cX8_init 32 = .ok (.bipush 90, 2) := by decide +kernel
theorem dX8_init_34 : decode cX8_init 34 = .ok (.newarray .int, 2) := by decide +kernel
theorem dX8_init_36 : decode cX8_init 36 = .ok (.putfield 19, 3) := by decide +kernel
theorem dX8_init_39 : decode cX8_init 39 = .ok (.aload_n 0, 1) := by decide +kernel
theorem dX8_init_40 : decode cX8_init 40 = .ok (.iconst 4, 1) := by decide +kernel
theorem dX8_init_41 : decode cX8_init 41 = .ok (.invokevirtual 22, 3) := by decide +kernel
theorem dX8_init_44 : decode cX8_init 44 = .ok (.return_, 1) := by decide +kernel
theorem dX8_thrown_0 : decode cX8_thrown 0 = .ok (.aload_n 0, 1) := by decide +kernel
theorem dX8_thrown_1 : decode cX8_thrown 1 = .ok (.getfield 26, 3) := by decide +kernel
theorem dX8_thrown_4 : decode cX8_thrown 4 = .ok (.ireturn, 1) := by decide +kernel
theorem dX8_in_0 : decode cX8_in 0 = .ok (.iload_n 0, 1) := by decide +kernel
theorem dX8_in_1 : decode cX8_in 1 = .ok (.iload_n 1, 1) := by decide +kernel
theorem dX8_in_2 : decode cX8_in 2 = .ok (.if_icmp .lt 12, 3) := by decide +kernel
theorem dX8_in_5 : decode cX8_in 5 = .ok (.iload_n 0, 1) := by decide +kernel
theorem dX8_in_6 : decode cX8_in 6 = .ok (.iload_n 2, 1) := by decide +kernel
theorem dX8_in_7 : decode cX8_in 7 = .ok (.if_icmp .gt 7, 3) := by decide +kernel
theorem dX8_in_10 : decode cX8_in 10 = .ok (.iconst 1, 1) := by decide +kernel
theorem dX8_in_11 : decode cX8_in 11 = .ok (.goto 4, 3) := by decide +kernel
theorem dX8_in_14 : decode cX8_in 14 = .ok (.iconst 0, 1) := by decide +kernel
theorem dX8_in_15 : decode cX8_in 15 = .ok (.ireturn, 1) := by decide +kernel
theorem dX8_fails_0 : decode cX8_fails 0 = .ok (.aload_n 0, 1) := by decide +kernel
theorem dX8_fails_1 : decode cX8_fails 1 = .ok (.iload_n 1, 1) := by decide +kernel
theorem dX8_fails_2 : decode cX8_fails 2 = .ok (.putfield 26, 3) := by decide +kernel
theorem dX8_fails_5 : decode cX8_fails 5 = .ok (.iconst 0, 1) := by decide +kernel
theorem dX8_fails_6 : decode cX8_fails 6 = .ok (.ireturn, 1) := by decide +kernel
theorem dX8_tells_0 : decode cX8_tells 0 = .ok (.aload_n 0, 1) := by decide +kernel
theorem dX8_tells_1 : decode cX8_tells 1 = .ok (.iconst 0, 1) := by decide +kernel
theorem dX8_tells_2 : decode cX8_tells 2 = .ok (.putfield 26, 3) := by decide +kernel
theorem dX8_tells_5 : decode cX8_tells 5 = .ok (.iload_n 1, 1) := by decide +kernel
theorem dX8_tells_6 : decode cX8_tells 6 = .ok (.ireturn, 1) := by decide +kernel
theorem dX8_hold_0 : decode cX8_hold 0 = .ok (.iconst 0, 1) := by decide +kernel
theorem dX8_hold_1 : decode cX8_hold 1 = .ok (.istore_n 1, 1) := by decide +kernel
theorem dX8_hold_2 : decode cX8_hold 2 = .ok (.iload_n 1, 1) := by decide +kernel
theorem dX8_hold_3 : decode cX8_hold 3 = .ok (.sipush 178, 3) := by decide +kernel
theorem dX8_hold_6 : decode cX8_hold 6 = .ok (.if_icmp .ge 21, 3) := by decide +kernel
theorem dX8_hold_9 : decode cX8_hold 9 = .ok (.aload_n 0, 1) := by decide +kernel
theorem dX8_hold_10 : decode cX8_hold 10 = .ok (.getfield 16, 3) := by decide +kernel
theorem dX8_hold_13 : decode cX8_hold 13 = .ok (.iload_n 1, 1) := by decide +kernel
theorem dX8_hold_14 : decode cX8_hold 14 = .ok (.aload_n 0, 1) := by decide +kernel
theorem dX8_hold_15 : decode cX8_hold 15 = .ok (.getfield 7, 3) := by decide +kernel
theorem dX8_hold_18 : decode cX8_hold 18 = .ok (.iload_n 1, 1) := by decide +kernel
theorem dX8_hold_19 : decode cX8_hold 19 = .ok (.iaload, 1) := by decide +kernel
theorem dX8_hold_20 : decode cX8_hold 20 = .ok (.iastore, 1) := by decide +kernel
theorem dX8_hold_21 : decode cX8_hold 21 = .ok (.iinc 1 1, 3) := by decide +kernel
theorem dX8_hold_24 : decode cX8_hold 24 = .ok (.goto (-22), 3) := by decide +kernel
theorem dX8_hold_27 : decode cX8_hold 27 = .ok (.return_, 1) := by decide +kernel
theorem dX8_ends_0 : decode cX8_ends 0 = .ok (.aload_n 0, 1) := by decide +kernel
theorem dX8_ends_1 : decode cX8_ends 1 = .ok (.getfield 30, 3) := by decide +kernel
theorem dX8_ends_4 : decode cX8_ends 4 = .ok (.iconst 4, 1) := by decide +kernel
theorem dX8_ends_5 : decode cX8_ends 5 = .ok (.if_icmp .ne 44, 3) := by decide +kernel
theorem dX8_ends_8 : decode cX8_ends 8 = .ok (.iconst 0, 1) := by decide +kernel
theorem dX8_ends_9 : decode cX8_ends 9 = .ok (.istore_n 2, 1) := by decide +kernel
theorem dX8_ends_10 : decode cX8_ends 10 = .ok (.iload_n 2, 1) := by decide +kernel
theorem dX8_ends_11 : decode cX8_ends 11 = .ok (.sipush 534, 3) := by decide +kernel
theorem dX8_ends_14 : decode cX8_ends 14 = .ok (.if_icmp .ge 25, 3) := by decide +kernel
theorem dX8_ends_17 : decode cX8_ends 17 = .ok (.aload_n 0, 1) := by decide +kernel
theorem dX8_ends_18 : decode cX8_ends 18 = .ok (.getfield 13, 3) := by decide +kernel
theorem dX8_ends_21 : decode cX8_ends 21 = .ok (.iload_n 2, 1) := by decide +kernel
theorem dX8_ends_22 : decode cX8_ends 22 = .ok (.aload_n 0, 1) := by decide +kernel
theorem dX8_ends_23 : decode cX8_ends 23 = .ok (.getfield 13, 3) := by decide +kernel
theorem dX8_ends_26 : decode cX8_ends 26 = .ok (.iload_n 2, 1) := by decide +kernel
theorem dX8_ends_27 : decode cX8_ends 27 = .ok (.sipush 178, 3) := by decide +kernel
theorem dX8_ends_30 : decode cX8_ends 30 = .ok (.iadd, 1) := by decide +kernel
theorem dX8_ends_31 : decode cX8_ends 31 = .ok (.iaload, 1) := by decide +kernel
theorem dX8_ends_32 : decode cX8_ends 32 = .ok (.iastore, 1) := by decide +kernel
theorem dX8_ends_33 : decode cX8_ends 33 = .ok (.iinc 2 1, 3) := by decide +kernel
theorem dX8_ends_36 : decode cX8_ends 36 = .ok (.goto (-26), 3) := by decide +kernel
theorem dX8_ends_39 : decode cX8_ends 39 = .ok (.aload_n 0, 1) := by decide +kernel
theorem dX8_ends_40 : decode cX8_ends 40 = .ok (.dup, 1) := by decide +kernel
theorem dX8_ends_41 : decode cX8_ends 41 = .ok (.getfield 30, 3) := by decide +kernel
theorem dX8_ends_44 : decode cX8_ends 44 = .ok (.iconst 1, 1) := by decide +kernel
theorem dX8_ends_45 : decode cX8_ends 45 = .ok (.isub, 1) := by decide +kernel
theorem dX8_ends_46 : decode cX8_ends 46 = .ok (.putfield 30, 3) := by decide +kernel
theorem dX8_ends_49 : decode cX8_ends 49 = .ok (.iconst 0, 1) := by decide +kernel
theorem dX8_ends_50 : decode cX8_ends 50 = .ok (.istore_n 2, 1) := by decide +kernel
theorem dX8_ends_51 : decode cX8_ends 51 = .ok (.iload_n 2, 1) := by decide +kernel
theorem dX8_ends_52 : decode cX8_ends 52 = .ok (.sipush 178, 3) := by decide +kernel
theorem dX8_ends_55 : decode cX8_ends 55 = .ok (.if_icmp .ge 30, 3) := by decide +kernel
theorem dX8_ends_58 : decode cX8_ends 58 = .ok (.aload_n 0, 1) := by decide +kernel
theorem dX8_ends_59 : decode cX8_ends 59 = .ok (.getfield 13, 3) := by decide +kernel
theorem dX8_ends_62 : decode cX8_ends 62 = .ok (.sipush 178, 3) := by decide +kernel
theorem dX8_ends_65 : decode cX8_ends 65 = .ok (.aload_n 0, 1) := by decide +kernel
theorem dX8_ends_66 : decode cX8_ends 66 = .ok (.getfield 30, 3) := by decide +kernel
theorem dX8_ends_69 : decode cX8_ends 69 = .ok (.imul, 1) := by decide +kernel
theorem dX8_ends_70 : decode cX8_ends 70 = .ok (.iload_n 2, 1) := by decide +kernel
theorem dX8_ends_71 : decode cX8_ends 71 = .ok (.iadd, 1) := by decide +kernel
theorem dX8_ends_72 : decode cX8_ends 72 = .ok (.aload_n 0, 1) := by decide +kernel
theorem dX8_ends_73 : decode cX8_ends 73 = .ok (.getfield 16, 3) := by decide +kernel
theorem dX8_ends_76 : decode cX8_ends 76 = .ok (.iload_n 2, 1) := by decide +kernel
theorem dX8_ends_77 : decode cX8_ends 77 = .ok (.iaload, 1) := by decide +kernel
theorem dX8_ends_78 : decode cX8_ends 78 = .ok (.iastore, 1) := by decide +kernel
theorem dX8_ends_79 : decode cX8_ends 79 = .ok (.iinc 2 1, 3) := by decide +kernel
theorem dX8_ends_82 : decode cX8_ends 82 = .ok (.goto (-31), 3) := by decide +kernel
theorem dX8_ends_85 : decode cX8_ends 85 = .ok (.aload_n 0, 1) := by decide +kernel
theorem dX8_ends_86 : decode cX8_ends 86 = .ok (.dup, 1) := by decide +kernel
theorem dX8_ends_87 : decode cX8_ends 87 = .ok (.getfield 30, 3) := by decide +kernel
theorem dX8_ends_90 : decode cX8_ends 90 = .ok (.iconst 1, 1) := by decide +kernel
theorem dX8_ends_91 : decode cX8_ends 91 = .ok (.iadd, 1) := by decide +kernel
theorem dX8_ends_92 : decode cX8_ends 92 = .ok (.putfield 30, 3) := by decide +kernel
theorem dX8_ends_95 : decode cX8_ends 95 = .ok (.aload_n 0, 1) := by decide +kernel
theorem dX8_ends_96 : decode cX8_ends 96 = .ok (.iload_n 1, 1) := by decide +kernel
theorem dX8_ends_97 : decode cX8_ends 97 = .ok (.invokevirtual 33, 3) := by decide +kernel
theorem dX8_ends_100 : decode cX8_ends 100 = .ok (.ireturn, 1) := by decide +kernel
theorem dX8_begins_0 : decode cX8_begins 0 = .ok (.iconst 0, 1) := by decide +kernel
theorem dX8_begins_1 : decode cX8_begins 1 = .ok (.istore_n 2, 1) := by decide +kernel
theorem dX8_begins_2 : decode cX8_begins 2 = .ok (.iload_n 2, 1) := by decide +kernel
theorem dX8_begins_3 : decode cX8_begins 3 = .ok (.sipush 178, 3) := by decide +kernel
theorem dX8_begins_6 : decode cX8_begins 6 = .ok (.if_icmp .ge 16, 3) := by decide +kernel
theorem dX8_begins_9 : decode cX8_begins 9 = .ok (.aload_n 0, 1) := by decide +kernel
theorem dX8_begins_10 : decode cX8_begins 10 = .ok (.getfield 7, 3) := by decide +kernel
theorem dX8_begins_13 : decode cX8_begins 13 = .ok (.iload_n 2, 1) := by decide +kernel
theorem dX8_begins_14 : decode cX8_begins 14 = .ok (.iconst 0, 1) := by decide +kernel
theorem dX8_begins_15 : decode cX8_begins 15 = .ok (.iastore, 1) := by decide +kernel
theorem dX8_begins_16 : decode cX8_begins 16 = .ok (.iinc 2 1, 3) := by decide +kernel
theorem dX8_begins_19 : decode cX8_begins 19 = .ok (.goto (-17), 3) := by decide +kernel
theorem dX8_begins_22 : decode cX8_begins 22 = .ok (.aload_n 0, 1) := by decide +kernel
theorem dX8_begins_23 : decode cX8_begins 23 = .ok (.getfield 7, 3) := by decide +kernel
theorem dX8_begins_26 : decode cX8_begins 26 = .ok (.iconst 0, 1) := by decide +kernel
theorem dX8_begins_27 : decode cX8_begins 27 = .ok (.iload_n 1, 1) := by decide +kernel
theorem dX8_begins_28 : decode cX8_begins 28 = .ok (.iastore, 1) := by decide +kernel
theorem dX8_begins_29 : decode cX8_begins 29 = .ok (.aload_n 0, 1) := by decide +kernel
theorem dX8_begins_30 : decode cX8_begins 30 = .ok (.getfield 7, 3) := by decide +kernel
theorem dX8_begins_33 : decode cX8_begins 33 = .ok (.iconst 4, 1) := by decide +kernel
theorem dX8_begins_34 : decode cX8_begins 34 = .ok (.iload_n 1, 1) := by decide +kernel
theorem dX8_begins_35 : decode cX8_begins 35 = .ok (.iastore, 1) := by decide +kernel
theorem dX8_begins_36 : decode cX8_begins 36 = .ok (.iconst 0, 1) := by decide +kernel
theorem dX8_begins_37 : decode cX8_begins 37 = .ok (.istore_n 2, 1) := by decide +kernel
theorem dX8_begins_38 : decode cX8_begins 38 = .ok (.iload_n 2, 1) := by decide +kernel
theorem dX8_begins_39 : decode cX8_begins 39 = .ok (.bipush 7, 2) := by decide +kernel
theorem dX8_begins_41 : decode cX8_begins 41 = .ok (.if_icmp .ge 89, 3) := by decide +kernel
theorem dX8_begins_44 : decode cX8_begins 44 = .ok (.aload_n 0, 1) := by decide +kernel
theorem dX8_begins_45 : decode cX8_begins 45 = .ok (.getfield 7, 3) := by decide +kernel
theorem dX8_begins_48 : decode cX8_begins 48 = .ok (.bipush 13, 2) := by decide +kernel
theorem dX8_begins_50 : decode cX8_begins 50 = .ok (.iload_n 2, 1) := by decide +kernel
theorem dX8_begins_51 : decode cX8_begins 51 = .ok (.iadd, 1) := by decide +kernel
theorem dX8_begins_52 : decode cX8_begins 52 = .ok (.iload_n 2, 1) := by decide +kernel
theorem dX8_begins_53 : decode cX8_begins 53 = .ok (.iconst 1, 1) := by decide +kernel
theorem dX8_begins_54 : decode cX8_begins 54 = .ok (.if_icmp .ne 8, 3) := by decide +kernel
theorem dX8_begins_57 : decode cX8_begins 57 = .ok (.bipush 20, 2) := by decide +kernel
theorem dX8_begins_59 : decode cX8_begins 59 = .ok (.goto 14, 3) := by decide +kernel
theorem dX8_begins_62 : decode cX8_begins 62 = .ok (.iload_n 2, 1) := by decide +kernel
theorem dX8_begins_63 : decode cX8_begins 63 = .ok (.iconst 3, 1) := by decide +kernel
theorem dX8_begins_64 : decode cX8_begins 64 = .ok (.if_icmp .ne 8, 3) := by decide +kernel
theorem dX8_begins_67 : decode cX8_begins 67 = .ok (.bipush 35, 2) := by decide +kernel
theorem dX8_begins_69 : decode cX8_begins 69 = .ok (.goto 4, 3) := by decide +kernel
theorem dX8_begins_72 : decode cX8_begins 72 = .ok (.iconst 0, 1) := by decide +kernel
theorem dX8_begins_73 : decode cX8_begins 73 = .ok (.iastore, 1) := by decide +kernel
theorem dX8_begins_74 : decode cX8_begins 74 = .ok (.aload_n 0, 1) := by decide +kernel
theorem dX8_begins_75 : decode cX8_begins 75 = .ok (.getfield 7, 3) := by decide +kernel
theorem dX8_begins_78 : decode cX8_begins 78 = .ok (.bipush 20, 2) := by decide +kernel
theorem dX8_begins_80 : decode cX8_begins 80 = .ok (.iload_n 2, 1) := by decide +kernel
theorem dX8_begins_81 : decode cX8_begins 81 = .ok (.iadd, 1) := by decide +kernel
theorem dX8_begins_82 : decode cX8_begins 82 = .ok (.iload_n 2, 1) := by decide +kernel
theorem dX8_begins_83 : decode cX8_begins 83 = .ok (.iconst 1, 1) := by decide +kernel
theorem dX8_begins_84 : decode cX8_begins 84 = .ok (.if_icmp .ne 8, 3) := by decide +kernel
theorem dX8_begins_87 : decode cX8_begins 87 = .ok (.bipush 8, 2) := by decide +kernel
theorem dX8_begins_89 : decode cX8_begins 89 = .ok (.goto 24, 3) := by decide +kernel
theorem dX8_begins_92 : decode cX8_begins 92 = .ok (.iload_n 2, 1) := by decide +kernel
theorem dX8_begins_93 : decode cX8_begins 93 = .ok (.iconst 2, 1) := by decide +kernel
theorem dX8_begins_94 : decode cX8_begins 94 = .ok (.if_icmp .ne 8, 3) := by decide +kernel
theorem dX8_begins_97 : decode cX8_begins 97 = .ok (.bipush 6, 2) := by decide +kernel
theorem dX8_begins_99 : decode cX8_begins 99 = .ok (.goto 14, 3) := by decide +kernel
theorem dX8_begins_102 : decode cX8_begins 102 = .ok (.iload_n 2, 1) := by decide +kernel
theorem dX8_begins_103 : decode cX8_begins 103 = .ok (.iconst 3, 1) := by decide +kernel
theorem dX8_begins_104 : decode cX8_begins 104 = .ok (.if_icmp .ne 8, 3) := by decide +kernel
theorem dX8_begins_107 : decode cX8_begins 107 = .ok (.bipush 10, 2) := by decide +kernel
theorem dX8_begins_109 : decode cX8_begins 109 = .ok (.goto 4, 3) := by decide +kernel
theorem dX8_begins_112 : decode cX8_begins 112 = .ok (.iconst 5, 1) := by decide +kernel
theorem dX8_begins_113 : decode cX8_begins 113 = .ok (.iastore, 1) := by decide +kernel
theorem dX8_begins_114 : decode cX8_begins 114 = .ok (.aload_n 0, 1) := by decide +kernel
theorem dX8_begins_115 : decode cX8_begins 115 = .ok (.getfield 7, 3) := by decide +kernel
theorem dX8_begins_118 : decode cX8_begins 118 = .ok (.bipush 27, 2) := by decide +kernel
theorem dX8_begins_120 : decode cX8_begins 120 = .ok (.iload_n 2, 1) := by decide +kernel
theorem dX8_begins_121 : decode cX8_begins 121 = .ok (.iadd, 1) := by decide +kernel
theorem dX8_begins_122 : decode cX8_begins 122 = .ok (.iconst (-1), 1) := by decide +kernel
theorem dX8_begins_123 : decode cX8_begins 123 = .ok (.iastore, 1) := by decide +kernel
theorem dX8_begins_124 : decode cX8_begins 124 = .ok (.iinc 2 1, 3) := by decide +kernel
theorem dX8_begins_127 : decode cX8_begins 127 = .ok (.goto (-89), 3) := by decide +kernel
theorem dX8_begins_130 : decode cX8_begins 130 = .ok (.return_, 1) := by decide +kernel
theorem dX8_isPassage_0 : decode cX8_isPassage 0 = .ok (.iload_n 1, 1) := by decide +kernel
theorem dX8_isPassage_1 : decode cX8_isPassage 1 = .ok (.ifCond .lt 17, 3) := by decide +kernel
theorem dX8_isPassage_4 : decode cX8_isPassage 4 = .ok (.iload_n 1, 1) := by decide +kernel
theorem dX8_isPassage_5 : decode cX8_isPassage 5 = .ok (.aload_n 0, 1) := by decide +kernel
theorem dX8_isPassage_6 : decode cX8_isPassage 6 = .ok (.getfield 7, 3) := by decide +kernel
theorem dX8_isPassage_9 : decode cX8_isPassage 9 = .ok (.iconst 0, 1) := by decide +kernel
theorem dX8_isPassage_10 : decode cX8_isPassage 10 = .ok (.iaload, 1) := by decide +kernel
theorem dX8_isPassage_11 : decode cX8_isPassage 11 = .ok (.if_icmp .ge 7, 3) := by decide +kernel
theorem dX8_isPassage_14 : decode cX8_isPassage 14 = .ok (.iconst 1, 1) := by decide +kernel
theorem dX8_isPassage_15 : decode cX8_isPassage 15 = .ok (.goto 4, 3) := by decide +kernel
theorem dX8_isPassage_18 : decode cX8_isPassage 18 = .ok (.iconst 0, 1) := by decide +kernel
theorem dX8_isPassage_19 : decode cX8_isPassage 19 = .ok (.ireturn, 1) := by decide +kernel
theorem dX8_isRope_0 : decode cX8_isRope 0 = .ok (.iload_n 1, 1) := by decide +kernel
theorem dX8_isRope_1 : decode cX8_isRope 1 = .ok (.ifCond .lt 17, 3) := by decide +kernel
theorem dX8_isRope_4 : decode cX8_isRope 4 = .ok (.iload_n 1, 1) := by decide +kernel
theorem dX8_isRope_5 : decode cX8_isRope 5 = .ok (.aload_n 0, 1) := by decide +kernel
theorem dX8_isRope_6 : decode cX8_isRope 6 = .ok (.getfield 7, 3) := by decide +kernel
theorem dX8_isRope_9 : decode cX8_isRope 9 = .ok (.iconst 1, 1) := by decide +kernel
theorem dX8_isRope_10 : decode cX8_isRope 10 = .ok (.iaload, 1) := by decide +kernel
theorem dX8_isRope_11 : decode cX8_isRope 11 = .ok (.if_icmp .ge 7, 3) := by decide +kernel
theorem dX8_isRope_14 : decode cX8_isRope 14 = .ok (.iconst 1, 1) := by decide +kernel
theorem dX8_isRope_15 : decode cX8_isRope 15 = .ok (.goto 4, 3) := by decide +kernel
theorem dX8_isRope_18 : decode cX8_isRope 18 = .ok (.iconst 0, 1) := by decide +kernel
theorem dX8_isRope_19 : decode cX8_isRope 19 = .ok (.ireturn, 1) := by decide +kernel
theorem dX8_isHelper_0 : decode cX8_isHelper 0 = .ok (.iload_n 1, 1) := by decide +kernel
theorem dX8_isHelper_1 : decode cX8_isHelper 1 = .ok (.ifCond .lt 17, 3) := by decide +kernel
theorem dX8_isHelper_4 : decode cX8_isHelper 4 = .ok (.iload_n 1, 1) := by decide +kernel
theorem dX8_isHelper_5 : decode cX8_isHelper 5 = .ok (.aload_n 0, 1) := by decide +kernel
theorem dX8_isHelper_6 : decode cX8_isHelper 6 = .ok (.getfield 7, 3) := by decide +kernel
theorem dX8_isHelper_9 : decode cX8_isHelper 9 = .ok (.iconst 2, 1) := by decide +kernel
theorem dX8_isHelper_10 : decode cX8_isHelper 10 = .ok (.iaload, 1) := by decide +kernel
theorem dX8_isHelper_11 : decode cX8_isHelper 11 = .ok (.if_icmp .ge 7, 3) := by decide +kernel
theorem dX8_isHelper_14 : decode cX8_isHelper 14 = .ok (.iconst 1, 1) := by decide +kernel
theorem dX8_isHelper_15 : decode cX8_isHelper 15 = .ok (.goto 4, 3) := by decide +kernel
theorem dX8_isHelper_18 : decode cX8_isHelper 18 = .ok (.iconst 0, 1) := by decide +kernel
theorem dX8_isHelper_19 : decode cX8_isHelper 19 = .ok (.ireturn, 1) := by decide +kernel
theorem dX8_of_0 : decode cX8_of 0 = .ok (.aload_n 0, 1) := by decide +kernel
theorem dX8_of_1 : decode cX8_of 1 = .ok (.getfield 7, 3) := by decide +kernel
theorem dX8_of_4 : decode cX8_of 4 = .ok (.bipush 58, 2) := by decide +kernel
theorem dX8_of_6 : decode cX8_of 6 = .ok (.bipush 9, 2) := by decide +kernel
theorem dX8_of_8 : decode cX8_of 8 = .ok (.iload_n 1, 1) := by decide +kernel
theorem dX8_of_9 : decode cX8_of 9 = .ok (.imul, 1) := by decide +kernel
theorem dX8_of_10 : decode cX8_of 10 = .ok (.iadd, 1) := by decide +kernel
theorem dX8_of_11 : decode cX8_of 11 = .ok (.iload_n 2, 1) := by decide +kernel
theorem dX8_of_12 : decode cX8_of 12 = .ok (.iadd, 1) := by decide +kernel
theorem dX8_of_13 : decode cX8_of 13 = .ok (.iaload, 1) := by decide +kernel
theorem dX8_of_14 : decode cX8_of 14 = .ok (.ireturn, 1) := by decide +kernel
theorem dX8_lays_0 : decode cX8_lays 0 = .ok (.aload_n 0, 1) := by decide +kernel
theorem dX8_lays_1 : decode cX8_lays 1 = .ok (.getfield 7, 3) := by decide +kernel
theorem dX8_lays_4 : decode cX8_lays 4 = .ok (.bipush 58, 2) := by decide +kernel
theorem dX8_lays_6 : decode cX8_lays 6 = .ok (.bipush 9, 2) := by decide +kernel
theorem dX8_lays_8 : decode cX8_lays 8 = .ok (.iload_n 1, 1) := by decide +kernel
theorem dX8_lays_9 : decode cX8_lays 9 = .ok (.imul, 1) := by decide +kernel
theorem dX8_lays_10 : decode cX8_lays 10 = .ok (.iadd, 1) := by decide +kernel
theorem dX8_lays_11 : decode cX8_lays 11 = .ok (.iload_n 2, 1) := by decide +kernel
theorem dX8_lays_12 : decode cX8_lays 12 = .ok (.iadd, 1) := by decide +kernel
theorem dX8_lays_13 : decode cX8_lays 13 = .ok (.iload_n 3, 1) := by decide +kernel
theorem dX8_lays_14 : decode cX8_lays 14 = .ok (.iastore, 1) := by decide +kernel
theorem dX8_lays_15 : decode cX8_lays 15 = .ok (.return_, 1) := by decide +kernel
theorem dX8_isShut_0 : decode cX8_isShut 0 = .ok (.aload_n 0, 1) := by decide +kernel
theorem dX8_isShut_1 : decode cX8_isShut 1 = .ok (.getfield 7, 3) := by decide +kernel
theorem dX8_isShut_4 : decode cX8_isShut 4 = .ok (.bipush 13, 2) := by decide +kernel
theorem dX8_isShut_6 : decode cX8_isShut 6 = .ok (.iload_n 1, 1) := by decide +kernel
theorem dX8_isShut_7 : decode cX8_isShut 7 = .ok (.iadd, 1) := by decide +kernel
theorem dX8_isShut_8 : decode cX8_isShut 8 = .ok (.iaload, 1) := by decide +kernel
theorem dX8_isShut_9 : decode cX8_isShut 9 = .ok (.ifCond .le 20, 3) := by decide +kernel
theorem dX8_isShut_12 : decode cX8_isShut 12 = .ok (.aload_n 0, 1) := by decide +kernel
theorem dX8_isShut_13 : decode cX8_isShut 13 = .ok (.getfield 7, 3) := by decide +kernel
theorem dX8_isShut_16 : decode cX8_isShut 16 = .ok (.bipush 27, 2) := by decide +kernel
theorem dX8_isShut_18 : decode cX8_isShut 18 = .ok (.iload_n 1, 1) := by decide +kernel
theorem dX8_isShut_19 : decode cX8_isShut 19 = .ok (.iadd, 1) := by decide +kernel
theorem dX8_isShut_20 : decode cX8_isShut 20 = .ok (.iaload, 1) := by decide +kernel
theorem dX8_isShut_21 : decode cX8_isShut 21 = .ok (.iconst (-1), 1) := by decide +kernel
theorem dX8_isShut_22 : decode cX8_isShut 22 = .ok (.if_icmp .ne 7, 3) := by decide +kernel
theorem dX8_isShut_25 : decode cX8_isShut 25 = .ok (.iconst 1, 1) := by decide +kernel
theorem dX8_isShut_26 : decode cX8_isShut 26 = .ok (.goto 4, 3) := by decide +kernel
theorem dX8_isShut_29 : decode cX8_isShut 29 = .ok (.iconst 0, 1) := by decide +kernel
theorem dX8_isShut_30 : decode cX8_isShut 30 = .ok (.ireturn, 1) := by decide +kernel
theorem dX8_stands_0 : decode cX8_stands 0 = .ok (.aload_n 0, 1) := by decide +kernel
theorem dX8_stands_1 : decode cX8_stands 1 = .ok (.iload_n 1, 1) := by decide +kernel
theorem dX8_stands_2 : decode cX8_stands 2 = .ok (.iconst 2, 1) := by decide +kernel
theorem dX8_stands_3 : decode cX8_stands 3 = .ok (.invokevirtual 37, 3) := by decide +kernel
theorem dX8_stands_6 : decode cX8_stands 6 = .ok (.ifCond .ne 7, 3) := by decide +kernel
theorem dX8_stands_9 : decode cX8_stands 9 = .ok (.iconst 1, 1) := by decide +kernel
theorem dX8_stands_10 : decode cX8_stands 10 = .ok (.goto 4, 3) := by decide +kernel
theorem dX8_stands_13 : decode cX8_stands 13 = .ok (.iconst 0, 1) := by decide +kernel
theorem dX8_stands_14 : decode cX8_stands 14 = .ok (.ireturn, 1) := by decide +kernel
theorem dX8_isBelow_0 : decode cX8_isBelow 0 = .ok (.aload_n 0, 1) := by decide +kernel
theorem dX8_isBelow_1 : decode cX8_isBelow 1 = .ok (.iload_n 1, 1) := by decide +kernel
theorem dX8_isBelow_2 : decode cX8_isBelow 2 = .ok (.iconst 2, 1) := by decide +kernel
theorem dX8_isBelow_3 : decode cX8_isBelow 3 = .ok (.invokevirtual 37, 3) := by decide +kernel
theorem dX8_isBelow_6 : decode cX8_isBelow 6 = .ok (.iconst 1, 1) := by decide +kernel
theorem dX8_isBelow_7 : decode cX8_isBelow 7 = .ok (.if_icmp .eq 12, 3) := by decide +kernel
theorem dX8_isBelow_10 : decode cX8_isBelow 10 = .ok (.aload_n 0, 1) := by decide +kernel
theorem dX8_isBelow_11 : decode cX8_isBelow 11 = .ok (.iload_n 1, 1) := by decide +kernel
theorem dX8_isBelow_12 : decode cX8_isBelow 12 = .ok (.iconst 1, 1) := by decide +kernel
theorem dX8_isBelow_13 : decode cX8_isBelow 13 = .ok (.invokevirtual 37, 3) := by decide +kernel
theorem dX8_isBelow_16 : decode cX8_isBelow 16 = .ok (.ifCond .le 7, 3) := by decide +kernel
theorem dX8_isBelow_19 : decode cX8_isBelow 19 = .ok (.iconst 1, 1) := by decide +kernel
theorem dX8_isBelow_20 : decode cX8_isBelow 20 = .ok (.goto 4, 3) := by decide +kernel
theorem dX8_isBelow_23 : decode cX8_isBelow 23 = .ok (.iconst 0, 1) := by decide +kernel
theorem dX8_isBelow_24 : decode cX8_isBelow 24 = .ok (.ireturn, 1) := by decide +kernel
theorem dX8_passageOf_0 : decode cX8_passageOf 0 = .ok (.aload_n 0, 1) := by decide +kernel
theorem dX8_passageOf_1 : decode cX8_passageOf 1 = .ok (.iload_n 1, 1) := by decide +kernel
theorem dX8_passageOf_2 : decode cX8_passageOf 2 = .ok (.iconst 1, 1) := by decide +kernel
theorem dX8_passageOf_3 : decode cX8_passageOf 3 = .ok (.invokevirtual 37, 3) := by decide +kernel
theorem dX8_passageOf_6 : decode cX8_passageOf 6 = .ok (.istore_n 2, 1) := by decide +kernel
theorem dX8_passageOf_7 : decode cX8_passageOf 7 = .ok (.aload_n 0, 1) := by decide +kernel
theorem dX8_passageOf_8 : decode cX8_passageOf 8 = .ok (.iload_n 1, 1) := by decide +kernel
theorem dX8_passageOf_9 : decode cX8_passageOf 9 = .ok (.iconst 2, 1) := by decide +kernel
theorem dX8_passageOf_10 : decode cX8_passageOf 10 = .ok (.invokevirtual 37, 3) := by decide +kernel
theorem dX8_passageOf_13 : decode cX8_passageOf 13 = .ok (.iconst 1, 1) := by decide +kernel
theorem dX8_passageOf_14 : decode cX8_passageOf 14 = .ok (.if_icmp .eq 7, 3) := by decide +kernel
theorem dX8_passageOf_17 : decode cX8_passageOf 17 = .ok (.iconst (-1), 1) := by decide +kernel
theorem dX8_passageOf_18 : decode cX8_passageOf 18 = .ok (.goto 20, 3) := by decide +kernel
theorem dX8_passageOf_21 : decode cX8_passageOf 21 = .ok (.aload_n 0, 1) := by decide +kernel
theorem dX8_passageOf_22 : decode cX8_passageOf 22 = .ok (.iload_n 1, 1) := by decide +kernel
theorem dX8_passageOf_23 : decode cX8_passageOf 23 = .ok (.iconst 3, 1) := by decide +kernel
theorem dX8_passageOf_24 : decode cX8_passageOf 24 = .ok (.invokevirtual 37, 3) := by decide +kernel
theorem dX8_passageOf_27 : decode cX8_passageOf 27 = .ok (.iload_n 2, 1) := by decide +kernel
theorem dX8_passageOf_28 : decode cX8_passageOf 28 = .ok (.if_icmp .ge 9, 3) := by decide +kernel
theorem dX8_passageOf_31 : decode cX8_passageOf 31 = .ok (.iload_n 2, 1) := by decide +kernel
theorem dX8_passageOf_32 : decode cX8_passageOf 32 = .ok (.iconst 1, 1) := by decide +kernel
theorem dX8_passageOf_33 : decode cX8_passageOf 33 = .ok (.isub, 1) := by decide +kernel
theorem dX8_passageOf_34 : decode cX8_passageOf 34 = .ok (.goto 4, 3) := by decide +kernel
theorem dX8_passageOf_37 : decode cX8_passageOf 37 = .ok (.iload_n 2, 1) := by decide +kernel
theorem dX8_passageOf_38 : decode cX8_passageOf 38 = .ok (.ireturn, 1) := by decide +kernel
theorem dX8_walkers_0 : decode cX8_walkers 0 = .ok (.iconst 0, 1) := by decide +kernel
theorem dX8_walkers_1 : decode cX8_walkers 1 = .ok (.istore_n 2, 1) := by decide +kernel
theorem dX8_walkers_2 : decode cX8_walkers 2 = .ok (.iconst 0, 1) := by decide +kernel
theorem dX8_walkers_3 : decode cX8_walkers 3 = .ok (.istore_n 3, 1) := by decide +kernel
theorem dX8_walkers_4 : decode cX8_walkers 4 = .ok (.iload_n 3, 1) := by decide +kernel
theorem dX8_walkers_5 : decode cX8_walkers 5 = .ok (.aload_n 0, 1) := by decide +kernel
theorem dX8_walkers_6 : decode cX8_walkers 6 = .ok (.getfield 7, 3) := by decide +kernel
theorem dX8_walkers_9 : decode cX8_walkers 9 = .ok (.iconst 2, 1) := by decide +kernel
theorem dX8_walkers_10 : decode cX8_walkers 10 = .ok (.iaload, 1) := by decide +kernel
theorem dX8_walkers_11 : decode cX8_walkers 11 = .ok (.if_icmp .ge 26, 3) := by decide +kernel
theorem dX8_walkers_14 : decode cX8_walkers 14 = .ok (.iload_n 2, 1) := by decide +kernel
theorem dX8_walkers_15 : decode cX8_walkers 15 = .ok (.aload_n 0, 1) := by decide +kernel
theorem dX8_walkers_16 : decode cX8_walkers 16 = .ok (.iload_n 3, 1) := by decide +kernel
theorem dX8_walkers_17 : decode cX8_walkers 17 = .ok (.invokevirtual 41, 3) := by decide +kernel
theorem dX8_walkers_20 : decode cX8_walkers 20 = .ok (.iload_n 1, 1) := by decide +kernel
theorem dX8_walkers_21 : decode cX8_walkers 21 = .ok (.if_icmp .ne 7, 3) := by decide +kernel
theorem dX8_walkers_24 : decode cX8_walkers 24 = .ok (.iconst 1, 1) := by decide +kernel
theorem dX8_walkers_25 : decode cX8_walkers 25 = .ok (.goto 4, 3) := by decide +kernel
theorem dX8_walkers_28 : decode cX8_walkers 28 = .ok (.iconst 0, 1) := by decide +kernel
theorem dX8_walkers_29 : decode cX8_walkers 29 = .ok (.iadd, 1) := by decide +kernel
theorem dX8_walkers_30 : decode cX8_walkers 30 = .ok (.istore_n 2, 1) := by decide +kernel
theorem dX8_walkers_31 : decode cX8_walkers 31 = .ok (.iinc 3 1, 3) := by decide +kernel
theorem dX8_walkers_34 : decode cX8_walkers 34 = .ok (.goto (-30), 3) := by decide +kernel
theorem dX8_walkers_37 : decode cX8_walkers 37 = .ok (.iload_n 2, 1) := by decide +kernel
theorem dX8_walkers_38 : decode cX8_walkers 38 = .ok (.ireturn, 1) := by decide +kernel
theorem dX8_rigger_0 : decode cX8_rigger 0 = .ok (.iconst (-1), 1) := by decide +kernel
theorem dX8_rigger_1 : decode cX8_rigger 1 = .ok (.istore_n 2, 1) := by decide +kernel
theorem dX8_rigger_2 : decode cX8_rigger 2 = .ok (.iconst 0, 1) := by decide +kernel
theorem dX8_rigger_3 : decode cX8_rigger 3 = .ok (.istore_n 3, 1) := by decide +kernel
theorem dX8_rigger_4 : decode cX8_rigger 4 = .ok (.iload_n 3, 1) := by decide +kernel
theorem dX8_rigger_5 : decode cX8_rigger 5 = .ok (.aload_n 0, 1) := by decide +kernel
theorem dX8_rigger_6 : decode cX8_rigger 6 = .ok (.getfield 7, 3) := by decide +kernel
theorem dX8_rigger_9 : decode cX8_rigger 9 = .ok (.iconst 2, 1) := by decide +kernel
theorem dX8_rigger_10 : decode cX8_rigger 10 = .ok (.iaload, 1) := by decide +kernel
theorem dX8_rigger_11 : decode cX8_rigger 11 = .ok (.if_icmp .ge 35, 3) := by decide +kernel
theorem dX8_rigger_14 : decode cX8_rigger 14 = .ok (.aload_n 0, 1) := by decide +kernel
theorem dX8_rigger_15 : decode cX8_rigger 15 = .ok (.iload_n 3, 1) := by decide +kernel
theorem dX8_rigger_16 : decode cX8_rigger 16 = .ok (.iconst 2, 1) := by decide +kernel
theorem dX8_rigger_17 : decode cX8_rigger 17 = .ok (.invokevirtual 37, 3) := by decide +kernel
theorem dX8_rigger_20 : decode cX8_rigger 20 = .ok (.iconst 2, 1) := by decide +kernel
theorem dX8_rigger_21 : decode cX8_rigger 21 = .ok (.if_icmp .ne 17, 3) := by decide +kernel
theorem dX8_rigger_24 : decode cX8_rigger 24 = .ok (.aload_n 0, 1) := by decide +kernel
theorem dX8_rigger_25 : decode cX8_rigger 25 = .ok (.iload_n 3, 1) := by decide +kernel
theorem dX8_rigger_26 : decode cX8_rigger 26 = .ok (.iconst 1, 1) := by decide +kernel
theorem dX8_rigger_27 : decode cX8_rigger 27 = .ok (.invokevirtual 37, 3) := by decide +kernel
theorem dX8_rigger_30 : decode cX8_rigger 30 = .ok (.iload_n 1, 1) := by decide +kernel
theorem dX8_rigger_31 : decode cX8_rigger 31 = .ok (.if_icmp .ne 7, 3) := by decide +kernel
theorem dX8_rigger_34 : decode cX8_rigger 34 = .ok (.iload_n 3, 1) := by decide +kernel
theorem dX8_rigger_35 : decode cX8_rigger 35 = .ok (.goto 4, 3) := by decide +kernel
theorem dX8_rigger_38 : decode cX8_rigger 38 = .ok (.iload_n 2, 1) := by decide +kernel
theorem dX8_rigger_39 : decode cX8_rigger 39 = .ok (.istore_n 2, 1) := by decide +kernel
theorem dX8_rigger_40 : decode cX8_rigger 40 = .ok (.iinc 3 1, 3) := by decide +kernel
theorem dX8_rigger_43 : decode cX8_rigger 43 = .ok (.goto (-39), 3) := by decide +kernel
theorem dX8_rigger_46 : decode cX8_rigger 46 = .ok (.iload_n 2, 1) := by decide +kernel
theorem dX8_rigger_47 : decode cX8_rigger 47 = .ok (.ireturn, 1) := by decide +kernel
theorem dX8_upFrom_0 : decode cX8_upFrom 0 = .ok (.iconst 0, 1) := by decide +kernel
theorem dX8_upFrom_1 : decode cX8_upFrom 1 = .ok (.istore_n 2, 1) := by decide +kernel
theorem dX8_upFrom_2 : decode cX8_upFrom 2 = .ok (.iconst 0, 1) := by decide +kernel
theorem dX8_upFrom_3 : decode cX8_upFrom 3 = .ok (.istore_n 3, 1) := by decide +kernel
theorem dX8_upFrom_4 : decode cX8_upFrom 4 = .ok (.iload_n 3, 1) := by decide +kernel
theorem dX8_upFrom_5 : decode cX8_upFrom 5 = .ok (.iload_n 1, 1) := by decide +kernel
theorem dX8_upFrom_6 : decode cX8_upFrom 6 = .ok (.if_icmp .ge 21, 3) := by decide +kernel
theorem dX8_upFrom_9 : decode cX8_upFrom 9 = .ok (.iload_n 2, 1) := by decide +kernel
theorem dX8_upFrom_10 : decode cX8_upFrom 10 = .ok (.aload_n 0, 1) := by decide +kernel
theorem dX8_upFrom_11 : decode cX8_upFrom 11 = .ok (.getfield 7, 3) := by decide +kernel
theorem dX8_upFrom_14 : decode cX8_upFrom 14 = .ok (.bipush 20, 2) := by decide +kernel
theorem dX8_upFrom_16 : decode cX8_upFrom 16 = .ok (.iload_n 3, 1) := by decide +kernel
theorem dX8_upFrom_17 : decode cX8_upFrom 17 = .ok (.iadd, 1) := by decide +kernel
theorem dX8_upFrom_18 : decode cX8_upFrom 18 = .ok (.iaload, 1) := by decide +kernel
theorem dX8_upFrom_19 : decode cX8_upFrom 19 = .ok (.iadd, 1) := by decide +kernel
theorem dX8_upFrom_20 : decode cX8_upFrom 20 = .ok (.istore_n 2, 1) := by decide +kernel
theorem dX8_upFrom_21 : decode cX8_upFrom 21 = .ok (.iinc 3 1, 3) := by decide +kernel
theorem dX8_upFrom_24 : decode cX8_upFrom 24 = .ok (.goto (-20), 3) := by decide +kernel
theorem dX8_upFrom_27 : decode cX8_upFrom 27 = .ok (.iload_n 2, 1) := by decide +kernel
theorem dX8_upFrom_28 : decode cX8_upFrom 28 = .ok (.ireturn, 1) := by decide +kernel
theorem dX8_isShutAbove_0 : decode cX8_isShutAbove 0 = .ok (.iconst 0, 1) := by decide +kernel
theorem dX8_isShutAbove_1 : decode cX8_isShutAbove 1 = .ok (.istore_n 2, 1) := by decide +kernel
theorem dX8_isShutAbove_2 : decode cX8_isShutAbove 2 = .ok (.iconst 0, 1) := by decide +kernel
theorem dX8_isShutAbove_3 : decode cX8_isShutAbove 3 = .ok (.istore_n 3, 1) := by decide +kernel
theorem dX8_isShutAbove_4 : decode cX8_isShutAbove 4 = .ok (.iload_n 3, 1) := by decide +kernel
theorem dX8_isShutAbove_5 : decode cX8_isShutAbove 5 = .ok (.iload_n 1, 1) := by decide +kernel
theorem dX8_isShutAbove_6 : decode cX8_isShutAbove 6 = .ok (.if_icmp .ge 27, 3) := by decide +kernel
theorem dX8_isShutAbove_9 : decode cX8_isShutAbove 9 = .ok (.iload_n 2, 1) := by decide +kernel
theorem dX8_isShutAbove_10 : decode cX8_isShutAbove 10 = .ok (.ifCond .ne 11, 3) := by decide +kernel
theorem dX8_isShutAbove_13 : decode cX8_isShutAbove 13 = .ok (.aload_n 0, 1) := by decide +kernel
theorem dX8_isShutAbove_14 : decode cX8_isShutAbove 14 = .ok (.iload_n 3, 1) := by decide +kernel
theorem dX8_isShutAbove_15 : decode cX8_isShutAbove 15 = .ok (.invokevirtual 44, 3) := by decide +kernel
theorem dX8_isShutAbove_18 : decode cX8_isShutAbove 18 = .ok (.ifCond .eq 7, 3) := by decide +kernel
theorem dX8_isShutAbove_21 : decode cX8_isShutAbove 21 = .ok (.iconst 1, 1) := by decide +kernel
theorem dX8_isShutAbove_22 : decode cX8_isShutAbove 22 = .ok (.goto 4, 3) := by decide +kernel
theorem dX8_isShutAbove_25 : decode cX8_isShutAbove 25 = .ok (.iconst 0, 1) := by decide +kernel
theorem dX8_isShutAbove_26 : decode cX8_isShutAbove 26 = .ok (.istore_n 2, 1) := by decide +kernel
theorem dX8_isShutAbove_27 : decode cX8_isShutAbove 27 = .ok (.iinc 3 1, 3) := by decide +kernel
theorem dX8_isShutAbove_30 : decode cX8_isShutAbove 30 = .ok (.goto (-26), 3) := by decide +kernel
theorem dX8_isShutAbove_33 : decode cX8_isShutAbove 33 = .ok (.iload_n 2, 1) := by decide +kernel
theorem dX8_isShutAbove_34 : decode cX8_isShutAbove 34 = .ok (.ireturn, 1) := by decide +kernel
theorem dX8_isInTime_0 : decode cX8_isInTime 0 = .ok (.aload_n 0, 1) := by decide +kernel
theorem dX8_isInTime_1 : decode cX8_isInTime 1 = .ok (.iload_n 1, 1) := by decide +kernel
theorem dX8_isInTime_2 : decode cX8_isInTime 2 = .ok (.invokevirtual 48, 3) := by decide +kernel
theorem dX8_isInTime_5 : decode cX8_isInTime 5 = .ok (.ifCond .eq 13, 3) := by decide +kernel
theorem dX8_isInTime_8 : decode cX8_isInTime 8 = .ok (.aload_n 0, 1) := by decide +kernel
theorem dX8_isInTime_9 : decode cX8_isInTime 9 = .ok (.iload_n 1, 1) := by decide +kernel
theorem dX8_isInTime_10 : decode cX8_isInTime 10 = .ok (.bipush 7, 2) := by decide +kernel
theorem dX8_isInTime_12 : decode cX8_isInTime 12 = .ok (.invokevirtual 37, 3) := by decide +kernel
theorem dX8_isInTime_15 : decode cX8_isInTime 15 = .ok (.goto 4, 3) := by decide +kernel
theorem dX8_isInTime_18 : decode cX8_isInTime 18 = .ok (.iconst 0, 1) := by decide +kernel
theorem dX8_isInTime_19 : decode cX8_isInTime 19 = .ok (.istore 4, 2) := by decide +kernel
theorem dX8_isInTime_21 : decode cX8_isInTime 21 = .ok (.iload 4, 2) := by decide +kernel
theorem dX8_isInTime_23 : decode cX8_isInTime 23 = .ok (.iload_n 3, 1) := by decide +kernel
theorem dX8_isInTime_24 : decode cX8_isInTime 24 = .ok (.iadd, 1) := by decide +kernel
theorem dX8_isInTime_25 : decode cX8_isInTime 25 = .ok (.aload_n 0, 1) := by decide +kernel
theorem dX8_isInTime_26 : decode cX8_isInTime 26 = .ok (.iload_n 2, 1) := by decide +kernel
theorem dX8_isInTime_27 : decode cX8_isInTime 27 = .ok (.invokevirtual 51, 3) := by decide +kernel
theorem dX8_isInTime_30 : decode cX8_isInTime 30 = .ok (.iadd, 1) := by decide +kernel
theorem dX8_isInTime_31 : decode cX8_isInTime 31 = .ok (.aload_n 0, 1) := by decide +kernel
theorem dX8_isInTime_32 : decode cX8_isInTime 32 = .ok (.iload_n 1, 1) := by decide +kernel
theorem dX8_isInTime_33 : decode cX8_isInTime 33 = .ok (.iconst 0, 1) := by decide +kernel
theorem dX8_isInTime_34 : decode cX8_isInTime 34 = .ok (.invokevirtual 37, 3) := by decide +kernel
theorem dX8_isInTime_37 : decode cX8_isInTime 37 = .ok (.if_icmp .gt 7, 3) := by decide +kernel
theorem dX8_isInTime_40 : decode cX8_isInTime 40 = .ok (.iconst 1, 1) := by decide +kernel
theorem dX8_isInTime_41 : decode cX8_isInTime 41 = .ok (.goto 4, 3) := by decide +kernel
theorem dX8_isInTime_44 : decode cX8_isInTime 44 = .ok (.iconst 0, 1) := by decide +kernel
theorem dX8_isInTime_45 : decode cX8_isInTime 45 = .ok (.ireturn, 1) := by decide +kernel
theorem dX8_begin_0 : decode cX8_begin 0 = .ok (.iload_n 1, 1) := by decide +kernel
theorem dX8_begin_1 : decode cX8_begin 1 = .ok (.iconst 1, 1) := by decide +kernel
theorem dX8_begin_2 : decode cX8_begin 2 = .ok (.bipush 7, 2) := by decide +kernel
theorem dX8_begin_4 : decode cX8_begin 4 = .ok (.invokestatic 54, 3) := by decide +kernel
theorem dX8_begin_7 : decode cX8_begin 7 = .ok (.ifCond .ne 9, 3) := by decide +kernel
theorem dX8_begin_10 : decode cX8_begin 10 = .ok (.aload_n 0, 1) := by decide +kernel
theorem dX8_begin_11 : decode cX8_begin 11 = .ok (.iconst 1, 1) := by decide +kernel
theorem dX8_begin_12 : decode cX8_begin 12 = .ok (.invokevirtual 58, 3) := by decide +kernel
theorem dX8_begin_15 : decode cX8_begin 15 = .ok (.ireturn, 1) := by decide +kernel
theorem dX8_begin_16 : decode cX8_begin 16 = .ok (.aload_n 0, 1) := by decide +kernel
theorem dX8_begin_17 : decode cX8_begin 17 = .ok (.invokevirtual 61, 3) := by decide +kernel
theorem dX8_begin_20 : decode cX8_begin 20 = .ok (.aload_n 0, 1) := by decide +kernel
theorem dX8_begin_21 : decode cX8_begin 21 = .ok (.iload_n 1, 1) := by decide +kernel
theorem dX8_begin_22 : decode cX8_begin 22 = .ok (.invokevirtual 22, 3) := by decide +kernel
theorem dX8_begin_25 : decode cX8_begin 25 = .ok (.aload_n 0, 1) := by decide +kernel
theorem dX8_begin_26 : decode cX8_begin 26 = .ok (.aload_n 0, 1) := by decide +kernel
theorem dX8_begin_27 : decode cX8_begin 27 = .ok (.getfield 16, 3) := by decide +kernel
theorem dX8_begin_30 : decode cX8_begin 30 = .ok (.iconst 3, 1) := by decide +kernel
theorem dX8_begin_31 : decode cX8_begin 31 = .ok (.iaload, 1) := by decide +kernel
theorem dX8_begin_32 : decode cX8_begin 32 = .ok (.invokevirtual 64, 3) := by decide +kernel
theorem dX8_begin_35 : decode cX8_begin 35 = .ok (.ireturn, 1) := by decide +kernel
theorem dX8_setPassage_0 : decode cX8_setPassage 0 = .ok (.aload_n 0, 1) := by decide +kernel
theorem dX8_setPassage_1 : decode cX8_setPassage 1 = .ok (.iload_n 1, 1) := by decide +kernel
theorem dX8_setPassage_2 : decode cX8_setPassage 2 = .ok (.invokevirtual 67, 3) := by decide +kernel
theorem dX8_setPassage_5 : decode cX8_setPassage 5 = .ok (.ifCond .ne 9, 3) := by decide +kernel
theorem dX8_setPassage_8 : decode cX8_setPassage 8 = .ok (.aload_n 0, 1) := by decide +kernel
theorem dX8_setPassage_9 : decode cX8_setPassage 9 = .ok (.iconst 1, 1) := by decide +kernel
theorem dX8_setPassage_10 : decode cX8_setPassage 10 = .ok (.invokevirtual 58, 3) := by decide +kernel
theorem dX8_setPassage_13 : decode cX8_setPassage 13 = .ok (.ireturn, 1) := by decide +kernel
theorem dX8_setPassage_14 : decode cX8_setPassage 14 = .ok (.iload_n 2, 1) := by decide +kernel
theorem dX8_setPassage_15 : decode cX8_setPassage 15 = .ok (.iconst 0, 1) := by decide +kernel
theorem dX8_setPassage_16 : decode cX8_setPassage 16 = .ok (.bipush 60, 2) := by decide +kernel
theorem dX8_setPassage_18 : decode cX8_setPassage 18 = .ok (.invokestatic 54, 3) := by decide +kernel
theorem dX8_setPassage_21 : decode cX8_setPassage 21 = .ok (.ifCond .eq 13, 3) := by decide +kernel
theorem dX8_setPassage_24 : decode cX8_setPassage 24 = .ok (.iload_n 3, 1) := by decide +kernel
theorem dX8_setPassage_25 : decode cX8_setPassage 25 = .ok (.iconst 1, 1) := by decide +kernel
theorem dX8_setPassage_26 : decode cX8_setPassage 26 = .ok (.bipush 30, 2) := by decide +kernel
theorem dX8_setPassage_28 : decode cX8_setPassage 28 = .ok (.invokestatic 54, 3) := by decide +kernel
theorem dX8_setPassage_31 : decode cX8_setPassage 31 = .ok (.ifCond .ne 9, 3) := by decide +kernel
theorem dX8_setPassage_34 : decode cX8_setPassage 34 = .ok (.aload_n 0, 1) := by decide +kernel
theorem dX8_setPassage_35 : decode cX8_setPassage 35 = .ok (.iconst 2, 1) := by decide +kernel
theorem dX8_setPassage_36 : decode cX8_setPassage 36 = .ok (.invokevirtual 58, 3) := by decide +kernel
theorem dX8_setPassage_39 : decode cX8_setPassage 39 = .ok (.ireturn, 1) := by decide +kernel
theorem dX8_setPassage_40 : decode cX8_setPassage 40 = .ok (.aload_n 0, 1) := by decide +kernel
theorem dX8_setPassage_41 : decode cX8_setPassage 41 = .ok (.getfield 7, 3) := by decide +kernel
theorem dX8_setPassage_44 : decode cX8_setPassage 44 = .ok (.bipush 27, 2) := by decide +kernel
theorem dX8_setPassage_46 : decode cX8_setPassage 46 = .ok (.iload_n 1, 1) := by decide +kernel
theorem dX8_setPassage_47 : decode cX8_setPassage 47 = .ok (.iadd, 1) := by decide +kernel
theorem dX8_setPassage_48 : decode cX8_setPassage 48 = .ok (.iaload, 1) := by decide +kernel
theorem dX8_setPassage_49 : decode cX8_setPassage 49 = .ok (.iconst (-1), 1) := by decide +kernel
theorem dX8_setPassage_50 : decode cX8_setPassage 50 = .ok (.if_icmp .ne 20, 3) := by decide +kernel
theorem dX8_setPassage_53 : decode cX8_setPassage 53 = .ok (.aload_n 0, 1) := by decide +kernel
theorem dX8_setPassage_54 : decode cX8_setPassage 54 = .ok (.iload_n 1, 1) := by decide +kernel
theorem dX8_setPassage_55 : decode cX8_setPassage 55 = .ok (.invokevirtual 70, 3) := by decide +kernel
theorem dX8_setPassage_58 : decode cX8_setPassage 58 = .ok (.iconst (-1), 1) := by decide +kernel
theorem dX8_setPassage_59 : decode cX8_setPassage 59 = .ok (.if_icmp .ne 11, 3) := by decide +kernel
theorem dX8_setPassage_62 : decode cX8_setPassage 62 = .ok (.aload_n 0, 1) := by decide +kernel
theorem dX8_setPassage_63 : decode cX8_setPassage 63 = .ok (.iload_n 1, 1) := by decide +kernel
theorem dX8_setPassage_64 : decode cX8_setPassage 64 = .ok (.invokevirtual 73, 3) := by decide +kernel
theorem dX8_setPassage_67 : decode cX8_setPassage 67 = .ok (.ifCond .le 9, 3) := by decide +kernel
theorem dX8_setPassage_70 : decode cX8_setPassage 70 = .ok (.aload_n 0, 1) := by decide +kernel
theorem dX8_setPassage_71 : decode cX8_setPassage 71 = .ok (.iconst 3, 1) := by decide +kernel
theorem dX8_setPassage_72 : decode cX8_setPassage 72 = .ok (.invokevirtual 58, 3) := by decide +kernel
theorem dX8_setPassage_75 : decode cX8_setPassage 75 = .ok (.ireturn, 1) := by decide +kernel
theorem dX8_setPassage_76 : decode cX8_setPassage 76 = .ok (.aload_n 0, 1) := by decide +kernel
theorem dX8_setPassage_77 : decode cX8_setPassage 77 = .ok (.invokevirtual 61, 3) := by decide +kernel
theorem dX8_setPassage_80 : decode cX8_setPassage 80 = .ok (.aload_n 0, 1) := by decide +kernel
theorem dX8_setPassage_81 : decode cX8_setPassage 81 = .ok (.getfield 7, 3) := by decide +kernel
theorem dX8_setPassage_84 : decode cX8_setPassage 84 = .ok (.bipush 13, 2) := by decide +kernel
theorem dX8_setPassage_86 : decode cX8_setPassage 86 = .ok (.iload_n 1, 1) := by decide +kernel
theorem dX8_setPassage_87 : decode cX8_setPassage 87 = .ok (.iadd, 1) := by decide +kernel
theorem dX8_setPassage_88 : decode cX8_setPassage 88 = .ok (.iload_n 2, 1) := by decide +kernel
theorem dX8_setPassage_89 : decode cX8_setPassage 89 = .ok (.iastore, 1) := by decide +kernel
theorem dX8_setPassage_90 : decode cX8_setPassage 90 = .ok (.aload_n 0, 1) := by decide +kernel
theorem dX8_setPassage_91 : decode cX8_setPassage 91 = .ok (.getfield 7, 3) := by decide +kernel
theorem dX8_setPassage_94 : decode cX8_setPassage 94 = .ok (.bipush 20, 2) := by decide +kernel
theorem dX8_setPassage_96 : decode cX8_setPassage 96 = .ok (.iload_n 1, 1) := by decide +kernel
theorem dX8_setPassage_97 : decode cX8_setPassage 97 = .ok (.iadd, 1) := by decide +kernel
theorem dX8_setPassage_98 : decode cX8_setPassage 98 = .ok (.iload_n 3, 1) := by decide +kernel
theorem dX8_setPassage_99 : decode cX8_setPassage 99 = .ok (.iastore, 1) := by decide +kernel
theorem dX8_setPassage_100 : decode cX8_setPassage 100 = .ok (.aload_n 0, 1) := by decide +kernel
theorem dX8_setPassage_101 : decode cX8_setPassage 101 = .ok (.aload_n 0, 1) := by decide +kernel
theorem dX8_setPassage_102 : decode cX8_setPassage 102 = .ok (.getfield 16, 3) := by decide +kernel
theorem dX8_setPassage_105 : decode cX8_setPassage 105 = .ok (.bipush 13, 2) := by decide +kernel
theorem dX8_setPassage_107 : decode cX8_setPassage 107 = .ok (.iload_n 1, 1) := by decide +kernel
theorem dX8_setPassage_108 : decode cX8_setPassage 108 = .ok (.iadd, 1) := by decide +kernel
theorem dX8_setPassage_109 : decode cX8_setPassage 109 = .ok (.iaload, 1) := by decide +kernel
theorem dX8_setPassage_110 : decode cX8_setPassage 110 = .ok (.invokevirtual 64, 3) := by decide +kernel
theorem dX8_setPassage_113 : decode cX8_setPassage 113 = .ok (.ireturn, 1) := by decide +kernel
theorem dX8_addRope_0 : decode cX8_addRope 0 = .ok (.iload_n 1, 1) := by decide +kernel
theorem dX8_addRope_1 : decode cX8_addRope 1 = .ok (.bipush 10, 2) := by decide +kernel
theorem dX8_addRope_3 : decode cX8_addRope 3 = .ok (.bipush 80, 2) := by decide +kernel
theorem dX8_addRope_5 : decode cX8_addRope 5 = .ok (.invokestatic 54, 3) := by decide +kernel
theorem dX8_addRope_8 : decode cX8_addRope 8 = .ok (.ifCond .ne 9, 3) := by decide +kernel
theorem dX8_addRope_11 : decode cX8_addRope 11 = .ok (.aload_n 0, 1) := by decide +kernel
theorem dX8_addRope_12 : decode cX8_addRope 12 = .ok (.iconst 1, 1) := by decide +kernel
theorem dX8_addRope_13 : decode cX8_addRope 13 = .ok (.invokevirtual 58, 3) := by decide +kernel
theorem dX8_addRope_16 : decode cX8_addRope 16 = .ok (.ireturn, 1) := by decide +kernel
theorem dX8_addRope_17 : decode cX8_addRope 17 = .ok (.aload_n 0, 1) := by decide +kernel
theorem dX8_addRope_18 : decode cX8_addRope 18 = .ok (.getfield 7, 3) := by decide +kernel
theorem dX8_addRope_21 : decode cX8_addRope 21 = .ok (.iconst 1, 1) := by decide +kernel
theorem dX8_addRope_22 : decode cX8_addRope 22 = .ok (.iaload, 1) := by decide +kernel
theorem dX8_addRope_23 : decode cX8_addRope 23 = .ok (.bipush 8, 2) := by decide +kernel
theorem dX8_addRope_25 : decode cX8_addRope 25 = .ok (.if_icmp .ne 9, 3) := by decide +kernel
theorem dX8_addRope_28 : decode cX8_addRope 28 = .ok (.aload_n 0, 1) := by decide +kernel
theorem dX8_addRope_29 : decode cX8_addRope 29 = .ok (.iconst 2, 1) := by decide +kernel
theorem dX8_addRope_30 : decode cX8_addRope 30 = .ok (.invokevirtual 58, 3) := by decide +kernel
theorem dX8_addRope_33 : decode cX8_addRope 33 = .ok (.ireturn, 1) := by decide +kernel
theorem dX8_addRope_34 : decode cX8_addRope 34 = .ok (.aload_n 0, 1) := by decide +kernel
theorem dX8_addRope_35 : decode cX8_addRope 35 = .ok (.invokevirtual 61, 3) := by decide +kernel
theorem dX8_addRope_38 : decode cX8_addRope 38 = .ok (.bipush 34, 2) := by decide +kernel
theorem dX8_addRope_40 : decode cX8_addRope 40 = .ok (.iconst 3, 1) := by decide +kernel
theorem dX8_addRope_41 : decode cX8_addRope 41 = .ok (.aload_n 0, 1) := by decide +kernel
theorem dX8_addRope_42 : decode cX8_addRope 42 = .ok (.getfield 7, 3) := by decide +kernel
theorem dX8_addRope_45 : decode cX8_addRope 45 = .ok (.iconst 1, 1) := by decide +kernel
theorem dX8_addRope_46 : decode cX8_addRope 46 = .ok (.iaload, 1) := by decide +kernel
theorem dX8_addRope_47 : decode cX8_addRope 47 = .ok (.imul, 1) := by decide +kernel
theorem dX8_addRope_48 : decode cX8_addRope 48 = .ok (.iadd, 1) := by decide +kernel
theorem dX8_addRope_49 : decode cX8_addRope 49 = .ok (.istore_n 2, 1) := by decide +kernel
theorem dX8_addRope_50 : decode cX8_addRope 50 = .ok (.aload_n 0, 1) := by decide +kernel
theorem dX8_addRope_51 : decode cX8_addRope 51 = .ok (.getfield 7, 3) := by decide +kernel
theorem dX8_addRope_54 : decode cX8_addRope 54 = .ok (.iload_n 2, 1) := by decide +kernel
theorem dX8_addRope_55 : decode cX8_addRope 55 = .ok (.iload_n 1, 1) := by decide +kernel
theorem dX8_addRope_56 : decode cX8_addRope 56 = .ok (.iastore, 1) := by decide +kernel
theorem dX8_addRope_57 : decode cX8_addRope 57 = .ok (.aload_n 0, 1) := by decide +kernel
theorem dX8_addRope_58 : decode cX8_addRope 58 = .ok (.getfield 7, 3) := by decide +kernel
theorem dX8_addRope_61 : decode cX8_addRope 61 = .ok (.iload_n 2, 1) := by decide +kernel
theorem dX8_addRope_62 : decode cX8_addRope 62 = .ok (.iconst 1, 1) := by decide +kernel
theorem dX8_addRope_63 : decode cX8_addRope 63 = .ok (.iadd, 1) := by decide +kernel
theorem dX8_addRope_64 : decode cX8_addRope 64 = .ok (.iconst 0, 1) := by decide +kernel
theorem dX8_addRope_65 : decode cX8_addRope 65 = .ok (.iastore, 1) := by decide +kernel
theorem dX8_addRope_66 : decode cX8_addRope 66 = .ok (.aload_n 0, 1) := by decide +kernel
theorem dX8_addRope_67 : decode cX8_addRope 67 = .ok (.getfield 7, 3) := by decide +kernel
theorem dX8_addRope_70 : decode cX8_addRope 70 = .ok (.iload_n 2, 1) := by decide +kernel
theorem dX8_addRope_71 : decode cX8_addRope 71 = .ok (.iconst 2, 1) := by decide +kernel
theorem dX8_addRope_72 : decode cX8_addRope 72 = .ok (.iadd, 1) := by decide +kernel
theorem dX8_addRope_73 : decode cX8_addRope 73 = .ok (.iconst 0, 1) := by decide +kernel
theorem dX8_addRope_74 : decode cX8_addRope 74 = .ok (.iastore, 1) := by decide +kernel
theorem dX8_addRope_75 : decode cX8_addRope 75 = .ok (.aload_n 0, 1) := by decide +kernel
theorem dX8_addRope_76 : decode cX8_addRope 76 = .ok (.getfield 7, 3) := by decide +kernel
theorem dX8_addRope_79 : decode cX8_addRope 79 = .ok (.iconst 1, 1) := by decide +kernel
theorem dX8_addRope_80 : decode cX8_addRope 80 = .ok (.dup2, 1) := by decide +kernel
theorem dX8_addRope_81 : decode cX8_addRope 81 = .ok (.iaload, 1) := by decide +kernel
theorem dX8_addRope_82 : decode cX8_addRope 82 = .ok (.iconst 1, 1) := by decide +kernel
theorem dX8_addRope_83 : decode cX8_addRope 83 = .ok (.iadd, 1) := by decide +kernel
theorem dX8_addRope_84 : decode cX8_addRope 84 = .ok (.iastore, 1) := by decide +kernel
theorem dX8_addRope_85 : decode cX8_addRope 85 = .ok (.aload_n 0, 1) := by decide +kernel
theorem dX8_addRope_86 : decode cX8_addRope 86 = .ok (.aload_n 0, 1) := by decide +kernel
theorem dX8_addRope_87 : decode cX8_addRope 87 = .ok (.getfield 16, 3) := by decide +kernel
theorem dX8_addRope_90 : decode cX8_addRope 90 = .ok (.iconst 1, 1) := by decide +kernel
theorem dX8_addRope_91 : decode cX8_addRope 91 = .ok (.iaload, 1) := by decide +kernel
theorem dX8_addRope_92 : decode cX8_addRope 92 = .ok (.invokevirtual 64, 3) := by decide +kernel
theorem dX8_addRope_95 : decode cX8_addRope 95 = .ok (.ireturn, 1) := by decide +kernel
theorem dX8_addHelper_0 : decode cX8_addHelper 0 = .ok (.iload_n 1, 1) := by decide +kernel
theorem dX8_addHelper_1 : decode cX8_addHelper 1 = .ok (.bipush 30, 2) := by decide +kernel
theorem dX8_addHelper_3 : decode cX8_addHelper 3 = .ok (.sipush 600, 3) := by decide +kernel
theorem dX8_addHelper_6 : decode cX8_addHelper 6 = .ok (.invokestatic 54, 3) := by decide +kernel
theorem dX8_addHelper_9 : decode cX8_addHelper 9 = .ok (.ifCond .ne 9, 3) := by decide +kernel
theorem dX8_addHelper_12 : decode cX8_addHelper 12 = .ok (.aload_n 0, 1) := by decide +kernel
theorem dX8_addHelper_13 : decode cX8_addHelper 13 = .ok (.iconst 1, 1) := by decide +kernel
theorem dX8_addHelper_14 : decode cX8_addHelper 14 = .ok (.invokevirtual 58, 3) := by decide +kernel
theorem dX8_addHelper_17 : decode cX8_addHelper 17 = .ok (.ireturn, 1) := by decide +kernel
theorem dX8_addHelper_18 : decode cX8_addHelper 18 = .ok (.aload_n 0, 1) := by decide +kernel
theorem dX8_addHelper_19 : decode cX8_addHelper 19 = .ok (.getfield 7, 3) := by decide +kernel
theorem dX8_addHelper_22 : decode cX8_addHelper 22 = .ok (.iconst 2, 1) := by decide +kernel
theorem dX8_addHelper_23 : decode cX8_addHelper 23 = .ok (.iaload, 1) := by decide +kernel
theorem dX8_addHelper_24 : decode cX8_addHelper 24 = .ok (.bipush 6, 2) := by decide +kernel
theorem dX8_addHelper_26 : decode cX8_addHelper 26 = .ok (.if_icmp .ne 9, 3) := by decide +kernel
theorem dX8_addHelper_29 : decode cX8_addHelper 29 = .ok (.aload_n 0, 1) := by decide +kernel
theorem dX8_addHelper_30 : decode cX8_addHelper 30 = .ok (.iconst 2, 1) := by decide +kernel
theorem dX8_addHelper_31 : decode cX8_addHelper 31 = .ok (.invokevirtual 58, 3) := by decide +kernel
theorem dX8_addHelper_34 : decode cX8_addHelper 34 = .ok (.ireturn, 1) := by decide +kernel
theorem dX8_addHelper_35 : decode cX8_addHelper 35 = .ok (.aload_n 0, 1) := by decide +kernel
theorem dX8_addHelper_36 : decode cX8_addHelper 36 = .ok (.invokevirtual 61, 3) := by decide +kernel
theorem dX8_addHelper_39 : decode cX8_addHelper 39 = .ok (.aload_n 0, 1) := by decide +kernel
theorem dX8_addHelper_40 : decode cX8_addHelper 40 = .ok (.getfield 7, 3) := by decide +kernel
theorem dX8_addHelper_43 : decode cX8_addHelper 43 = .ok (.iconst 2, 1) := by decide +kernel
theorem dX8_addHelper_44 : decode cX8_addHelper 44 = .ok (.iaload, 1) := by decide +kernel
theorem dX8_addHelper_45 : decode cX8_addHelper 45 = .ok (.istore_n 2, 1) := by decide +kernel
theorem dX8_addHelper_46 : decode cX8_addHelper 46 = .ok (.iconst 0, 1) := by decide +kernel
theorem dX8_addHelper_47 : decode cX8_addHelper 47 = .ok (.istore_n 3, 1) := by decide +kernel
theorem dX8_addHelper_48 : decode cX8_addHelper 48 = .ok (.iload_n 3, 1) := by decide +kernel
theorem dX8_addHelper_49 : decode cX8_addHelper 49 = .ok (.bipush 9, 2) := by decide +kernel
theorem dX8_addHelper_51 : decode cX8_addHelper 51 = .ok (.if_icmp .ge 38, 3) := by decide +kernel
theorem dX8_addHelper_54 : decode cX8_addHelper 54 = .ok (.aload_n 0, 1) := by decide +kernel
theorem dX8_addHelper_55 : decode cX8_addHelper 55 = .ok (.iload_n 2, 1) := by decide +kernel
theorem dX8_addHelper_56 : decode cX8_addHelper 56 = .ok (.iload_n 3, 1) := by decide +kernel
theorem dX8_addHelper_57 : decode cX8_addHelper 57 = .ok (.iload_n 3, 1) := by decide +kernel
theorem dX8_addHelper_58 : decode cX8_addHelper 58 = .ok (.ifCond .ne 7, 3) := by decide +kernel
theorem dX8_addHelper_61 : decode cX8_addHelper 61 = .ok (.iload_n 1, 1) := by decide +kernel
theorem dX8_addHelper_62 : decode cX8_addHelper 62 = .ok (.goto 18, 3) := by decide +kernel
theorem dX8_addHelper_65 : decode cX8_addHelper 65 = .ok (.iload_n 3, 1) := by decide +kernel
theorem dX8_addHelper_66 : decode cX8_addHelper 66 = .ok (.iconst 3, 1) := by decide +kernel
theorem dX8_addHelper_67 : decode cX8_addHelper 67 = .ok (.if_icmp .eq 8, 3) := by decide +kernel
theorem dX8_addHelper_70 : decode cX8_addHelper 70 = .ok (.iload_n 3, 1) := by decide +kernel
theorem dX8_addHelper_71 : decode cX8_addHelper 71 = .ok (.iconst 5, 1) := by decide +kernel
theorem dX8_addHelper_72 : decode cX8_addHelper 72 = .ok (.if_icmp .ne 7, 3) := by decide +kernel
theorem dX8_addHelper_75 : decode cX8_addHelper 75 = .ok (.iconst (-1), 1) := by decide +kernel
theorem dX8_addHelper_76 : decode cX8_addHelper 76 = .ok (.goto 4, 3) := by decide +kernel
theorem dX8_addHelper_79 : decode cX8_addHelper 79 = .ok (.iconst 0, 1) := by decide +kernel
theorem dX8_addHelper_80 : decode cX8_addHelper 80 = .ok (.invokevirtual 76, 3) := by decide +kernel
theorem dX8_addHelper_83 : decode cX8_addHelper 83 = .ok (.iinc 3 1, 3) := by decide +kernel
theorem dX8_addHelper_86 : decode cX8_addHelper 86 = .ok (.goto (-38), 3) := by decide +kernel
theorem dX8_addHelper_89 : decode cX8_addHelper 89 = .ok (.aload_n 0, 1) := by decide +kernel
theorem dX8_addHelper_90 : decode cX8_addHelper 90 = .ok (.getfield 7, 3) := by decide +kernel
theorem dX8_addHelper_93 : decode cX8_addHelper 93 = .ok (.iconst 2, 1) := by decide +kernel
theorem dX8_addHelper_94 : decode cX8_addHelper 94 = .ok (.dup2, 1) := by decide +kernel
theorem dX8_addHelper_95 : decode cX8_addHelper 95 = .ok (.iaload, 1) := by decide +kernel
theorem dX8_addHelper_96 : decode cX8_addHelper 96 = .ok (.iconst 1, 1) := by decide +kernel
theorem dX8_addHelper_97 : decode cX8_addHelper 97 = .ok (.iadd, 1) := by decide +kernel
theorem dX8_addHelper_98 : decode cX8_addHelper 98 = .ok (.iastore, 1) := by decide +kernel
theorem dX8_addHelper_99 : decode cX8_addHelper 99 = .ok (.aload_n 0, 1) := by decide +kernel
theorem dX8_addHelper_100 : decode cX8_addHelper 100 = .ok (.iload_n 2, 1) := by decide +kernel
theorem dX8_addHelper_101 : decode cX8_addHelper 101 = .ok (.invokevirtual 64, 3) := by decide +kernel
theorem dX8_addHelper_104 : decode cX8_addHelper 104 = .ok (.ireturn, 1) := by decide +kernel
theorem dX8_setSilence_0 : decode cX8_setSilence 0 = .ok (.iload_n 1, 1) := by decide +kernel
theorem dX8_setSilence_1 : decode cX8_setSilence 1 = .ok (.iconst 0, 1) := by decide +kernel
theorem dX8_setSilence_2 : decode cX8_setSilence 2 = .ok (.ldc 80, 2) := by decide +kernel
theorem dX8_setSilence_4 : decode cX8_setSilence 4 = .ok (.invokestatic 54, 3) := by decide +kernel
theorem dX8_setSilence_7 : decode cX8_setSilence 7 = .ok (.ifCond .eq 13, 3) := by decide +kernel
theorem dX8_setSilence_10 : decode cX8_setSilence 10 = .ok (.iload_n 2, 1) := by decide +kernel
theorem dX8_setSilence_11 : decode cX8_setSilence 11 = .ok (.iload_n 1, 1) := by decide +kernel
theorem dX8_setSilence_12 : decode cX8_setSilence 12 = .ok (.ldc 80, 2) := by decide +kernel
theorem dX8_setSilence_14 : decode cX8_setSilence 14 = .ok (.invokestatic 54, 3) := by decide +kernel
theorem dX8_setSilence_17 : decode cX8_setSilence 17 = .ok (.ifCond .ne 9, 3) := by decide +kernel
theorem dX8_setSilence_20 : decode cX8_setSilence 20 = .ok (.aload_n 0, 1) := by decide +kernel
theorem dX8_setSilence_21 : decode cX8_setSilence 21 = .ok (.iconst 1, 1) := by decide +kernel
theorem dX8_setSilence_22 : decode cX8_setSilence 22 = .ok (.invokevirtual 58, 3) := by decide +kernel
theorem dX8_setSilence_25 : decode cX8_setSilence 25 = .ok (.ireturn, 1) := by decide +kernel
theorem dX8_setSilence_26 : decode cX8_setSilence 26 = .ok (.aload_n 0, 1) := by decide +kernel
theorem dX8_setSilence_27 : decode cX8_setSilence 27 = .ok (.invokevirtual 61, 3) := by decide +kernel
theorem dX8_setSilence_30 : decode cX8_setSilence 30 = .ok (.aload_n 0, 1) := by decide +kernel
theorem dX8_setSilence_31 : decode cX8_setSilence 31 = .ok (.getfield 7, 3) := by decide +kernel
theorem dX8_setSilence_34 : decode cX8_setSilence 34 = .ok (.bipush 9, 2) := by decide +kernel
theorem dX8_setSilence_36 : decode cX8_setSilence 36 = .ok (.iload_n 1, 1) := by decide +kernel
theorem dX8_setSilence_37 : decode cX8_setSilence 37 = .ok (.iastore, 1) := by decide +kernel
theorem dX8_setSilence_38 : decode cX8_setSilence 38 = .ok (.aload_n 0, 1) := by decide +kernel
theorem dX8_setSilence_39 : decode cX8_setSilence 39 = .ok (.getfield 7, 3) := by decide +kernel
theorem dX8_setSilence_42 : decode cX8_setSilence 42 = .ok (.bipush 10, 2) := by decide +kernel
theorem dX8_setSilence_44 : decode cX8_setSilence 44 = .ok (.iload_n 2, 1) := by decide +kernel
theorem dX8_setSilence_45 : decode cX8_setSilence 45 = .ok (.iastore, 1) := by decide +kernel
theorem dX8_setSilence_46 : decode cX8_setSilence 46 = .ok (.aload_n 0, 1) := by decide +kernel
theorem dX8_setSilence_47 : decode cX8_setSilence 47 = .ok (.aload_n 0, 1) := by decide +kernel
theorem dX8_setSilence_48 : decode cX8_setSilence 48 = .ok (.getfield 16, 3) := by decide +kernel
theorem dX8_setSilence_51 : decode cX8_setSilence 51 = .ok (.bipush 10, 2) := by decide +kernel
theorem dX8_setSilence_53 : decode cX8_setSilence 53 = .ok (.iaload, 1) := by decide +kernel
theorem dX8_setSilence_54 : decode cX8_setSilence 54 = .ok (.invokevirtual 64, 3) := by decide +kernel
theorem dX8_setSilence_57 : decode cX8_setSilence 57 = .ok (.ireturn, 1) := by decide +kernel
theorem dX8_effort_0 : decode cX8_effort 0 = .ok (.aload_n 0, 1) := by decide +kernel
theorem dX8_effort_1 : decode cX8_effort 1 = .ok (.getfield 7, 3) := by decide +kernel
theorem dX8_effort_4 : decode cX8_effort 4 = .ok (.bipush 20, 2) := by decide +kernel
theorem dX8_effort_6 : decode cX8_effort 6 = .ok (.iload_n 1, 1) := by decide +kernel
theorem dX8_effort_7 : decode cX8_effort 7 = .ok (.iadd, 1) := by decide +kernel
theorem dX8_effort_8 : decode cX8_effort 8 = .ok (.iaload, 1) := by decide +kernel
theorem dX8_effort_9 : decode cX8_effort 9 = .ok (.iload_n 2, 1) := by decide +kernel
theorem dX8_effort_10 : decode cX8_effort 10 = .ok (.ifCond .eq 19, 3) := by decide +kernel
theorem dX8_effort_13 : decode cX8_effort 13 = .ok (.aload_n 0, 1) := by decide +kernel
theorem dX8_effort_14 : decode cX8_effort 14 = .ok (.getfield 7, 3) := by decide +kernel
theorem dX8_effort_17 : decode cX8_effort 17 = .ok (.bipush 13, 2) := by decide +kernel
theorem dX8_effort_19 : decode cX8_effort 19 = .ok (.iload_n 1, 1) := by decide +kernel
theorem dX8_effort_20 : decode cX8_effort 20 = .ok (.iadd, 1) := by decide +kernel
theorem dX8_effort_21 : decode cX8_effort 21 = .ok (.iaload, 1) := by decide +kernel
theorem dX8_effort_22 : decode cX8_effort 22 = .ok (.ifCond .le 7, 3) := by decide +kernel
theorem dX8_effort_25 : decode cX8_effort 25 = .ok (.iconst 2, 1) := by decide +kernel
theorem dX8_effort_26 : decode cX8_effort 26 = .ok (.goto 4, 3) := by decide +kernel
theorem dX8_effort_29 : decode cX8_effort 29 = .ok (.iconst 1, 1) := by decide +kernel
theorem dX8_effort_30 : decode cX8_effort 30 = .ok (.imul, 1) := by decide +kernel
theorem dX8_effort_31 : decode cX8_effort 31 = .ok (.ireturn, 1) := by decide +kernel
theorem dX8_reason_0 : decode cX8_reason 0 = .ok (.aload_n 0, 1) := by decide +kernel
theorem dX8_reason_1 : decode cX8_reason 1 = .ok (.iload_n 1, 1) := by decide +kernel
theorem dX8_reason_2 : decode cX8_reason 2 = .ok (.iconst 1, 1) := by decide +kernel
theorem dX8_reason_3 : decode cX8_reason 3 = .ok (.invokevirtual 37, 3) := by decide +kernel
theorem dX8_reason_6 : decode cX8_reason 6 = .ok (.istore_n 3, 1) := by decide +kernel
theorem dX8_reason_7 : decode cX8_reason 7 = .ok (.aload_n 0, 1) := by decide +kernel
theorem dX8_reason_8 : decode cX8_reason 8 = .ok (.iload_n 1, 1) := by decide +kernel
theorem dX8_reason_9 : decode cX8_reason 9 = .ok (.invokevirtual 81, 3) := by decide +kernel
theorem dX8_reason_12 : decode cX8_reason 12 = .ok (.ifCond .ne 5, 3) := by decide +kernel
theorem dX8_reason_15 : decode cX8_reason 15 = .ok (.iconst 1, 1) := by decide +kernel
theorem dX8_reason_16 : decode cX8_reason 16 = .ok (.ireturn, 1) := by decide +kernel
theorem dX8_reason_17 : decode cX8_reason 17 = .ok (.iload_n 2, 1) := by decide +kernel
theorem dX8_reason_18 : decode cX8_reason 18 = .ok (.iconst 0, 1) := by decide +kernel
theorem dX8_reason_19 : decode cX8_reason 19 = .ok (.aload_n 0, 1) := by decide +kernel
theorem dX8_reason_20 : decode cX8_reason 20 = .ok (.getfield 7, 3) := by decide +kernel
theorem dX8_reason_23 : decode cX8_reason 23 = .ok (.iconst 0, 1) := by decide +kernel
theorem dX8_reason_24 : decode cX8_reason 24 = .ok (.iaload, 1) := by decide +kernel
theorem dX8_reason_25 : decode cX8_reason 25 = .ok (.invokestatic 54, 3) := by decide +kernel
theorem dX8_reason_28 : decode cX8_reason 28 = .ok (.ifCond .eq 17, 3) := by decide +kernel
theorem dX8_reason_31 : decode cX8_reason 31 = .ok (.iload_n 2, 1) := by decide +kernel
theorem dX8_reason_32 : decode cX8_reason 32 = .ok (.iload_n 3, 1) := by decide +kernel
theorem dX8_reason_33 : decode cX8_reason 33 = .ok (.iconst 1, 1) := by decide +kernel
theorem dX8_reason_34 : decode cX8_reason 34 = .ok (.isub, 1) := by decide +kernel
theorem dX8_reason_35 : decode cX8_reason 35 = .ok (.if_icmp .eq 12, 3) := by decide +kernel
theorem dX8_reason_38 : decode cX8_reason 38 = .ok (.iload_n 2, 1) := by decide +kernel
theorem dX8_reason_39 : decode cX8_reason 39 = .ok (.iload_n 3, 1) := by decide +kernel
theorem dX8_reason_40 : decode cX8_reason 40 = .ok (.iconst 1, 1) := by decide +kernel
theorem dX8_reason_41 : decode cX8_reason 41 = .ok (.iadd, 1) := by decide +kernel
theorem dX8_reason_42 : decode cX8_reason 42 = .ok (.if_icmp .eq 5, 3) := by decide +kernel
theorem dX8_reason_45 : decode cX8_reason 45 = .ok (.iconst 2, 1) := by decide +kernel
theorem dX8_reason_46 : decode cX8_reason 46 = .ok (.ireturn, 1) := by decide +kernel
theorem dX8_reason_47 : decode cX8_reason 47 = .ok (.iload_n 2, 1) := by decide +kernel
theorem dX8_reason_48 : decode cX8_reason 48 = .ok (.iload_n 3, 1) := by decide +kernel
theorem dX8_reason_49 : decode cX8_reason 49 = .ok (.if_icmp .ge 7, 3) := by decide +kernel
theorem dX8_reason_52 : decode cX8_reason 52 = .ok (.iconst 1, 1) := by decide +kernel
theorem dX8_reason_53 : decode cX8_reason 53 = .ok (.goto 4, 3) := by decide +kernel
theorem dX8_reason_56 : decode cX8_reason 56 = .ok (.iconst 0, 1) := by decide +kernel
theorem dX8_reason_57 : decode cX8_reason 57 = .ok (.istore 4, 2) := by decide +kernel
theorem dX8_reason_59 : decode cX8_reason 59 = .ok (.iload 4, 2) := by decide +kernel
theorem dX8_reason_61 : decode cX8_reason 61 = .ok (.ifCond .eq 7, 3) := by decide +kernel
theorem dX8_reason_64 : decode cX8_reason 64 = .ok (.iload_n 2, 1) := by decide +kernel
theorem dX8_reason_65 : decode cX8_reason 65 = .ok (.goto 4, 3) := by decide +kernel
theorem dX8_reason_68 : decode cX8_reason 68 = .ok (.iload_n 3, 1) := by decide +kernel
theorem dX8_reason_69 : decode cX8_reason 69 = .ok (.istore 5, 2) := by decide +kernel
theorem dX8_reason_71 : decode cX8_reason 71 = .ok (.aload_n 0, 1) := by decide +kernel
theorem dX8_reason_72 : decode cX8_reason 72 = .ok (.iload 5, 2) := by decide +kernel
theorem dX8_reason_74 : decode cX8_reason 74 = .ok (.invokevirtual 44, 3) := by decide +kernel
theorem dX8_reason_77 : decode cX8_reason 77 = .ok (.ifCond .eq 5, 3) := by decide +kernel
theorem dX8_reason_80 : decode cX8_reason 80 = .ok (.iconst 3, 1) := by decide +kernel
theorem dX8_reason_81 : decode cX8_reason 81 = .ok (.ireturn, 1) := by decide +kernel
theorem dX8_reason_82 : decode cX8_reason 82 = .ok (.aload_n 0, 1) := by decide +kernel
theorem dX8_reason_83 : decode cX8_reason 83 = .ok (.iload_n 1, 1) := by decide +kernel
theorem dX8_reason_84 : decode cX8_reason 84 = .ok (.bipush 6, 2) := by decide +kernel
theorem dX8_reason_86 : decode cX8_reason 86 = .ok (.invokevirtual 37, 3) := by decide +kernel
theorem dX8_reason_89 : decode cX8_reason 89 = .ok (.aload_n 0, 1) := by decide +kernel
theorem dX8_reason_90 : decode cX8_reason 90 = .ok (.iload 5, 2) := by decide +kernel
theorem dX8_reason_92 : decode cX8_reason 92 = .ok (.iload 4, 2) := by decide +kernel
theorem dX8_reason_94 : decode cX8_reason 94 = .ok (.invokevirtual 84, 3) := by decide +kernel
theorem dX8_reason_97 : decode cX8_reason 97 = .ok (.iadd, 1) := by decide +kernel
theorem dX8_reason_98 : decode cX8_reason 98 = .ok (.bipush 100, 2) := by decide +kernel
theorem dX8_reason_100 : decode cX8_reason 100 = .ok (.if_icmp .le 5, 3) := by decide +kernel
theorem dX8_reason_103 : decode cX8_reason 103 = .ok (.iconst 4, 1) := by decide +kernel
theorem dX8_reason_104 : decode cX8_reason 104 = .ok (.ireturn, 1) := by decide +kernel
theorem dX8_reason_105 : decode cX8_reason 105 = .ok (.iload 4, 2) := by decide +kernel
theorem dX8_reason_107 : decode cX8_reason 107 = .ok (.ifCond .ne 26, 3) := by decide +kernel
theorem dX8_reason_110 : decode cX8_reason 110 = .ok (.aload_n 0, 1) := by decide +kernel
theorem dX8_reason_111 : decode cX8_reason 111 = .ok (.iload_n 1, 1) := by decide +kernel
theorem dX8_reason_112 : decode cX8_reason 112 = .ok (.iload_n 2, 1) := by decide +kernel
theorem dX8_reason_113 : decode cX8_reason 113 = .ok (.aload_n 0, 1) := by decide +kernel
theorem dX8_reason_114 : decode cX8_reason 114 = .ok (.getfield 7, 3) := by decide +kernel
theorem dX8_reason_117 : decode cX8_reason 117 = .ok (.bipush 20, 2) := by decide +kernel
theorem dX8_reason_119 : decode cX8_reason 119 = .ok (.iload 5, 2) := by decide +kernel
theorem dX8_reason_121 : decode cX8_reason 121 = .ok (.iadd, 1) := by decide +kernel
theorem dX8_reason_122 : decode cX8_reason 122 = .ok (.iaload, 1) := by decide +kernel
theorem dX8_reason_123 : decode cX8_reason 123 = .ok (.invokevirtual 88, 3) := by decide +kernel
theorem dX8_reason_126 : decode cX8_reason 126 = .ok (.ifCond .ne 7, 3) := by decide +kernel
theorem dX8_reason_129 : decode cX8_reason 129 = .ok (.iconst 5, 1) := by decide +kernel
theorem dX8_reason_130 : decode cX8_reason 130 = .ok (.goto 4, 3) := by decide +kernel
theorem dX8_reason_133 : decode cX8_reason 133 = .ok (.iconst 0, 1) := by decide +kernel
theorem dX8_reason_134 : decode cX8_reason 134 = .ok (.ireturn, 1) := by decide +kernel
theorem dX8_walks_0 : decode cX8_walks 0 = .ok (.aload_n 0, 1) := by decide +kernel
theorem dX8_walks_1 : decode cX8_walks 1 = .ok (.iload_n 1, 1) := by decide +kernel
theorem dX8_walks_2 : decode cX8_walks 2 = .ok (.iconst 2, 1) := by decide +kernel
theorem dX8_walks_3 : decode cX8_walks 3 = .ok (.iconst 1, 1) := by decide +kernel
theorem dX8_walks_4 : decode cX8_walks 4 = .ok (.invokevirtual 76, 3) := by decide +kernel
theorem dX8_walks_7 : decode cX8_walks 7 = .ok (.aload_n 0, 1) := by decide +kernel
theorem dX8_walks_8 : decode cX8_walks 8 = .ok (.iload_n 1, 1) := by decide +kernel
theorem dX8_walks_9 : decode cX8_walks 9 = .ok (.iconst 3, 1) := by decide +kernel
theorem dX8_walks_10 : decode cX8_walks 10 = .ok (.iload_n 2, 1) := by decide +kernel
theorem dX8_walks_11 : decode cX8_walks 11 = .ok (.invokevirtual 76, 3) := by decide +kernel
theorem dX8_walks_14 : decode cX8_walks 14 = .ok (.aload_n 0, 1) := by decide +kernel
theorem dX8_walks_15 : decode cX8_walks 15 = .ok (.iload_n 1, 1) := by decide +kernel
theorem dX8_walks_16 : decode cX8_walks 16 = .ok (.iconst 4, 1) := by decide +kernel
theorem dX8_walks_17 : decode cX8_walks 17 = .ok (.iload_n 3, 1) := by decide +kernel
theorem dX8_walks_18 : decode cX8_walks 18 = .ok (.invokevirtual 76, 3) := by decide +kernel
theorem dX8_walks_21 : decode cX8_walks 21 = .ok (.aload_n 0, 1) := by decide +kernel
theorem dX8_walks_22 : decode cX8_walks 22 = .ok (.iload_n 1, 1) := by decide +kernel
theorem dX8_walks_23 : decode cX8_walks 23 = .ok (.bipush 8, 2) := by decide +kernel
theorem dX8_walks_25 : decode cX8_walks 25 = .ok (.iload 4, 2) := by decide +kernel
theorem dX8_walks_27 : decode cX8_walks 27 = .ok (.invokevirtual 76, 3) := by decide +kernel
theorem dX8_walks_30 : decode cX8_walks 30 = .ok (.return_, 1) := by decide +kernel
theorem dX8_sets_0 : decode cX8_sets 0 = .ok (.aload_n 0, 1) := by decide +kernel
theorem dX8_sets_1 : decode cX8_sets 1 = .ok (.iload_n 1, 1) := by decide +kernel
theorem dX8_sets_2 : decode cX8_sets 2 = .ok (.iload_n 2, 1) := by decide +kernel
theorem dX8_sets_3 : decode cX8_sets 3 = .ok (.aload_n 0, 1) := by decide +kernel
theorem dX8_sets_4 : decode cX8_sets 4 = .ok (.getfield 7, 3) := by decide +kernel
theorem dX8_sets_7 : decode cX8_sets 7 = .ok (.bipush 20, 2) := by decide +kernel
theorem dX8_sets_9 : decode cX8_sets 9 = .ok (.iload_n 2, 1) := by decide +kernel
theorem dX8_sets_10 : decode cX8_sets 10 = .ok (.aload_n 0, 1) := by decide +kernel
theorem dX8_sets_11 : decode cX8_sets 11 = .ok (.iload_n 1, 1) := by decide +kernel
theorem dX8_sets_12 : decode cX8_sets 12 = .ok (.iconst 1, 1) := by decide +kernel
theorem dX8_sets_13 : decode cX8_sets 13 = .ok (.invokevirtual 37, 3) := by decide +kernel
theorem dX8_sets_16 : decode cX8_sets 16 = .ok (.if_icmp .ge 7, 3) := by decide +kernel
theorem dX8_sets_19 : decode cX8_sets 19 = .ok (.iload_n 2, 1) := by decide +kernel
theorem dX8_sets_20 : decode cX8_sets 20 = .ok (.goto 6, 3) := by decide +kernel
theorem dX8_sets_23 : decode cX8_sets 23 = .ok (.iload_n 2, 1) := by decide +kernel
theorem dX8_sets_24 : decode cX8_sets 24 = .ok (.iconst 1, 1) := by decide +kernel
theorem dX8_sets_25 : decode cX8_sets 25 = .ok (.isub, 1) := by decide +kernel
theorem dX8_sets_26 : decode cX8_sets 26 = .ok (.iadd, 1) := by decide +kernel
theorem dX8_sets_27 : decode cX8_sets 27 = .ok (.iaload, 1) := by decide +kernel
theorem dX8_sets_28 : decode cX8_sets 28 = .ok (.iconst 0, 1) := by decide +kernel
theorem dX8_sets_29 : decode cX8_sets 29 = .ok (.invokevirtual 91, 3) := by decide +kernel
theorem dX8_sets_32 : decode cX8_sets 32 = .ok (.return_, 1) := by decide +kernel
theorem dX8_goes_0 : decode cX8_goes 0 = .ok (.aload_n 0, 1) := by decide +kernel
theorem dX8_goes_1 : decode cX8_goes 1 = .ok (.iload_n 1, 1) := by decide +kernel
theorem dX8_goes_2 : decode cX8_goes 2 = .ok (.invokevirtual 95, 3) := by decide +kernel
theorem dX8_goes_5 : decode cX8_goes 5 = .ok (.ifCond .ne 5, 3) := by decide +kernel
theorem dX8_goes_8 : decode cX8_goes 8 = .ok (.iconst 1, 1) := by decide +kernel
theorem dX8_goes_9 : decode cX8_goes 9 = .ok (.ireturn, 1) := by decide +kernel
theorem dX8_goes_10 : decode cX8_goes 10 = .ok (.aload_n 0, 1) := by decide +kernel
theorem dX8_goes_11 : decode cX8_goes 11 = .ok (.iload_n 1, 1) := by decide +kernel
theorem dX8_goes_12 : decode cX8_goes 12 = .ok (.iload_n 2, 1) := by decide +kernel
theorem dX8_goes_13 : decode cX8_goes 13 = .ok (.invokevirtual 98, 3) := by decide +kernel
theorem dX8_goes_16 : decode cX8_goes 16 = .ok (.ifCond .eq 5, 3) := by decide +kernel
theorem dX8_goes_19 : decode cX8_goes 19 = .ok (.iconst 2, 1) := by decide +kernel
theorem dX8_goes_20 : decode cX8_goes 20 = .ok (.ireturn, 1) := by decide +kernel
theorem dX8_goes_21 : decode cX8_goes 21 = .ok (.aload_n 0, 1) := by decide +kernel
theorem dX8_goes_22 : decode cX8_goes 22 = .ok (.iload_n 1, 1) := by decide +kernel
theorem dX8_goes_23 : decode cX8_goes 23 = .ok (.iload_n 2, 1) := by decide +kernel
theorem dX8_goes_24 : decode cX8_goes 24 = .ok (.invokevirtual 101, 3) := by decide +kernel
theorem dX8_goes_27 : decode cX8_goes 27 = .ok (.aload_n 0, 1) := by decide +kernel
theorem dX8_goes_28 : decode cX8_goes 28 = .ok (.aload_n 0, 1) := by decide +kernel
theorem dX8_goes_29 : decode cX8_goes 29 = .ok (.iload_n 1, 1) := by decide +kernel
theorem dX8_goes_30 : decode cX8_goes 30 = .ok (.iconst 4, 1) := by decide +kernel
theorem dX8_goes_31 : decode cX8_goes 31 = .ok (.invokevirtual 37, 3) := by decide +kernel
theorem dX8_goes_34 : decode cX8_goes 34 = .ok (.putfield 105, 3) := by decide +kernel
theorem dX8_goes_37 : decode cX8_goes 37 = .ok (.iconst 0, 1) := by decide +kernel
theorem dX8_goes_38 : decode cX8_goes 38 = .ok (.ireturn, 1) := by decide +kernel
theorem dX8_takes_0 : decode cX8_takes 0 = .ok (.aload_n 0, 1) := by decide +kernel
theorem dX8_takes_1 : decode cX8_takes 1 = .ok (.iload_n 1, 1) := by decide +kernel
theorem dX8_takes_2 : decode cX8_takes 2 = .ok (.invokevirtual 95, 3) := by decide +kernel
theorem dX8_takes_5 : decode cX8_takes 5 = .ok (.ifCond .eq 11, 3) := by decide +kernel
theorem dX8_takes_8 : decode cX8_takes 8 = .ok (.aload_n 0, 1) := by decide +kernel
theorem dX8_takes_9 : decode cX8_takes 9 = .ok (.iload_n 2, 1) := by decide +kernel
theorem dX8_takes_10 : decode cX8_takes 10 = .ok (.invokevirtual 108, 3) := by decide +kernel
theorem dX8_takes_13 : decode cX8_takes 13 = .ok (.ifCond .ne 5, 3) := by decide +kernel
theorem dX8_takes_16 : decode cX8_takes 16 = .ok (.iconst 1, 1) := by decide +kernel
theorem dX8_takes_17 : decode cX8_takes 17 = .ok (.ireturn, 1) := by decide +kernel
theorem dX8_takes_18 : decode cX8_takes 18 = .ok (.bipush 34, 2) := by decide +kernel
theorem dX8_takes_20 : decode cX8_takes 20 = .ok (.iconst 3, 1) := by decide +kernel
theorem dX8_takes_21 : decode cX8_takes 21 = .ok (.iload_n 2, 1) := by decide +kernel
theorem dX8_takes_22 : decode cX8_takes 22 = .ok (.imul, 1) := by decide +kernel
theorem dX8_takes_23 : decode cX8_takes 23 = .ok (.iadd, 1) := by decide +kernel
theorem dX8_takes_24 : decode cX8_takes 24 = .ok (.istore_n 3, 1) := by decide +kernel
theorem dX8_takes_25 : decode cX8_takes 25 = .ok (.aload_n 0, 1) := by decide +kernel
theorem dX8_takes_26 : decode cX8_takes 26 = .ok (.iload_n 1, 1) := by decide +kernel
theorem dX8_takes_27 : decode cX8_takes 27 = .ok (.invokevirtual 81, 3) := by decide +kernel
theorem dX8_takes_30 : decode cX8_takes 30 = .ok (.ifCond .eq 41, 3) := by decide +kernel
theorem dX8_takes_33 : decode cX8_takes 33 = .ok (.aload_n 0, 1) := by decide +kernel
theorem dX8_takes_34 : decode cX8_takes 34 = .ok (.iload_n 1, 1) := by decide +kernel
theorem dX8_takes_35 : decode cX8_takes 35 = .ok (.iconst 5, 1) := by decide +kernel
theorem dX8_takes_36 : decode cX8_takes 36 = .ok (.invokevirtual 37, 3) := by decide +kernel
theorem dX8_takes_39 : decode cX8_takes 39 = .ok (.iconst (-1), 1) := by decide +kernel
theorem dX8_takes_40 : decode cX8_takes 40 = .ok (.if_icmp .ne 31, 3) := by decide +kernel
theorem dX8_takes_43 : decode cX8_takes 43 = .ok (.aload_n 0, 1) := by decide +kernel
theorem dX8_takes_44 : decode cX8_takes 44 = .ok (.getfield 7, 3) := by decide +kernel
theorem dX8_takes_47 : decode cX8_takes 47 = .ok (.iload_n 3, 1) := by decide +kernel
theorem dX8_takes_48 : decode cX8_takes 48 = .ok (.iconst 1, 1) := by decide +kernel
theorem dX8_takes_49 : decode cX8_takes 49 = .ok (.iadd, 1) := by decide +kernel
theorem dX8_takes_50 : decode cX8_takes 50 = .ok (.iaload, 1) := by decide +kernel
theorem dX8_takes_51 : decode cX8_takes 51 = .ok (.ifCond .ne 20, 3) := by decide +kernel
theorem dX8_takes_54 : decode cX8_takes 54 = .ok (.aload_n 0, 1) := by decide +kernel
theorem dX8_takes_55 : decode cX8_takes 55 = .ok (.getfield 7, 3) := by decide +kernel
theorem dX8_takes_58 : decode cX8_takes 58 = .ok (.iload_n 3, 1) := by decide +kernel
theorem dX8_takes_59 : decode cX8_takes 59 = .ok (.iconst 2, 1) := by decide +kernel
theorem dX8_takes_60 : decode cX8_takes 60 = .ok (.iadd, 1) := by decide +kernel
theorem dX8_takes_61 : decode cX8_takes 61 = .ok (.iaload, 1) := by decide +kernel
theorem dX8_takes_62 : decode cX8_takes 62 = .ok (.aload_n 0, 1) := by decide +kernel
theorem dX8_takes_63 : decode cX8_takes 63 = .ok (.iload_n 1, 1) := by decide +kernel
theorem dX8_takes_64 : decode cX8_takes 64 = .ok (.iconst 1, 1) := by decide +kernel
theorem dX8_takes_65 : decode cX8_takes 65 = .ok (.invokevirtual 37, 3) := by decide +kernel
theorem dX8_takes_68 : decode cX8_takes 68 = .ok (.if_icmp .eq 5, 3) := by decide +kernel
theorem dX8_takes_71 : decode cX8_takes 71 = .ok (.iconst 2, 1) := by decide +kernel
theorem dX8_takes_72 : decode cX8_takes 72 = .ok (.ireturn, 1) := by decide +kernel
theorem dX8_takes_73 : decode cX8_takes 73 = .ok (.aload_n 0, 1) := by decide +kernel
theorem dX8_takes_74 : decode cX8_takes 74 = .ok (.iload_n 2, 1) := by decide +kernel
theorem dX8_takes_75 : decode cX8_takes 75 = .ok (.iload_n 1, 1) := by decide +kernel
theorem dX8_takes_76 : decode cX8_takes 76 = .ok (.invokevirtual 111, 3) := by decide +kernel
theorem dX8_takes_79 : decode cX8_takes 79 = .ok (.aload_n 0, 1) := by decide +kernel
theorem dX8_takes_80 : decode cX8_takes 80 = .ok (.aload_n 0, 1) := by decide +kernel
theorem dX8_takes_81 : decode cX8_takes 81 = .ok (.getfield 7, 3) := by decide +kernel
theorem dX8_takes_84 : decode cX8_takes 84 = .ok (.iload_n 3, 1) := by decide +kernel
theorem dX8_takes_85 : decode cX8_takes 85 = .ok (.iaload, 1) := by decide +kernel
theorem dX8_takes_86 : decode cX8_takes 86 = .ok (.putfield 105, 3) := by decide +kernel
theorem dX8_takes_89 : decode cX8_takes 89 = .ok (.iconst 0, 1) := by decide +kernel
theorem dX8_takes_90 : decode cX8_takes 90 = .ok (.ireturn, 1) := by decide +kernel
theorem dX8_gives_0 : decode cX8_gives 0 = .ok (.aload_n 0, 1) := by decide +kernel
theorem dX8_gives_1 : decode cX8_gives 1 = .ok (.getfield 7, 3) := by decide +kernel
theorem dX8_gives_4 : decode cX8_gives 4 = .ok (.bipush 34, 2) := by decide +kernel
theorem dX8_gives_6 : decode cX8_gives 6 = .ok (.iconst 3, 1) := by decide +kernel
theorem dX8_gives_7 : decode cX8_gives 7 = .ok (.iload_n 1, 1) := by decide +kernel
theorem dX8_gives_8 : decode cX8_gives 8 = .ok (.imul, 1) := by decide +kernel
theorem dX8_gives_9 : decode cX8_gives 9 = .ok (.iadd, 1) := by decide +kernel
theorem dX8_gives_10 : decode cX8_gives 10 = .ok (.iconst 1, 1) := by decide +kernel
theorem dX8_gives_11 : decode cX8_gives 11 = .ok (.iadd, 1) := by decide +kernel
theorem dX8_gives_12 : decode cX8_gives 12 = .ok (.iconst 1, 1) := by decide +kernel
theorem dX8_gives_13 : decode cX8_gives 13 = .ok (.iastore, 1) := by decide +kernel
theorem dX8_gives_14 : decode cX8_gives 14 = .ok (.aload_n 0, 1) := by decide +kernel
theorem dX8_gives_15 : decode cX8_gives 15 = .ok (.getfield 7, 3) := by decide +kernel
theorem dX8_gives_18 : decode cX8_gives 18 = .ok (.bipush 34, 2) := by decide +kernel
theorem dX8_gives_20 : decode cX8_gives 20 = .ok (.iconst 3, 1) := by decide +kernel
theorem dX8_gives_21 : decode cX8_gives 21 = .ok (.iload_n 1, 1) := by decide +kernel
theorem dX8_gives_22 : decode cX8_gives 22 = .ok (.imul, 1) := by decide +kernel
theorem dX8_gives_23 : decode cX8_gives 23 = .ok (.iadd, 1) := by decide +kernel
theorem dX8_gives_24 : decode cX8_gives 24 = .ok (.iconst 2, 1) := by decide +kernel
theorem dX8_gives_25 : decode cX8_gives 25 = .ok (.iadd, 1) := by decide +kernel
theorem dX8_gives_26 : decode cX8_gives 26 = .ok (.iload_n 2, 1) := by decide +kernel
theorem dX8_gives_27 : decode cX8_gives 27 = .ok (.iastore, 1) := by decide +kernel
theorem dX8_gives_28 : decode cX8_gives 28 = .ok (.aload_n 0, 1) := by decide +kernel
theorem dX8_gives_29 : decode cX8_gives 29 = .ok (.iload_n 2, 1) := by decide +kernel
theorem dX8_gives_30 : decode cX8_gives 30 = .ok (.iconst 5, 1) := by decide +kernel
theorem dX8_gives_31 : decode cX8_gives 31 = .ok (.iload_n 1, 1) := by decide +kernel
theorem dX8_gives_32 : decode cX8_gives 32 = .ok (.invokevirtual 76, 3) := by decide +kernel
theorem dX8_gives_35 : decode cX8_gives 35 = .ok (.return_, 1) := by decide +kernel
theorem dX8_leaves_0 : decode cX8_leaves 0 = .ok (.aload_n 0, 1) := by decide +kernel
theorem dX8_leaves_1 : decode cX8_leaves 1 = .ok (.iload_n 1, 1) := by decide +kernel
theorem dX8_leaves_2 : decode cX8_leaves 2 = .ok (.iconst 5, 1) := by decide +kernel
theorem dX8_leaves_3 : decode cX8_leaves 3 = .ok (.invokevirtual 37, 3) := by decide +kernel
theorem dX8_leaves_6 : decode cX8_leaves 6 = .ok (.istore 4, 2) := by decide +kernel
theorem dX8_leaves_8 : decode cX8_leaves 8 = .ok (.aload_n 0, 1) := by decide +kernel
theorem dX8_leaves_9 : decode cX8_leaves 9 = .ok (.getfield 7, 3) := by decide +kernel
theorem dX8_leaves_12 : decode cX8_leaves 12 = .ok (.bipush 34, 2) := by decide +kernel
theorem dX8_leaves_14 : decode cX8_leaves 14 = .ok (.iconst 3, 1) := by decide +kernel
theorem dX8_leaves_15 : decode cX8_leaves 15 = .ok (.iload 4, 2) := by decide +kernel
theorem dX8_leaves_17 : decode cX8_leaves 17 = .ok (.imul, 1) := by decide +kernel
theorem dX8_leaves_18 : decode cX8_leaves 18 = .ok (.iadd, 1) := by decide +kernel
theorem dX8_leaves_19 : decode cX8_leaves 19 = .ok (.iconst 1, 1) := by decide +kernel
theorem dX8_leaves_20 : decode cX8_leaves 20 = .ok (.iadd, 1) := by decide +kernel
theorem dX8_leaves_21 : decode cX8_leaves 21 = .ok (.iload_n 2, 1) := by decide +kernel
theorem dX8_leaves_22 : decode cX8_leaves 22 = .ok (.iastore, 1) := by decide +kernel
theorem dX8_leaves_23 : decode cX8_leaves 23 = .ok (.aload_n 0, 1) := by decide +kernel
theorem dX8_leaves_24 : decode cX8_leaves 24 = .ok (.getfield 7, 3) := by decide +kernel
theorem dX8_leaves_27 : decode cX8_leaves 27 = .ok (.bipush 34, 2) := by decide +kernel
theorem dX8_leaves_29 : decode cX8_leaves 29 = .ok (.iconst 3, 1) := by decide +kernel
theorem dX8_leaves_30 : decode cX8_leaves 30 = .ok (.iload 4, 2) := by decide +kernel
theorem dX8_leaves_32 : decode cX8_leaves 32 = .ok (.imul, 1) := by decide +kernel
theorem dX8_leaves_33 : decode cX8_leaves 33 = .ok (.iadd, 1) := by decide +kernel
theorem dX8_leaves_34 : decode cX8_leaves 34 = .ok (.iconst 2, 1) := by decide +kernel
theorem dX8_leaves_35 : decode cX8_leaves 35 = .ok (.iadd, 1) := by decide +kernel
theorem dX8_leaves_36 : decode cX8_leaves 36 = .ok (.iload_n 3, 1) := by decide +kernel
theorem dX8_leaves_37 : decode cX8_leaves 37 = .ok (.iastore, 1) := by decide +kernel
theorem dX8_leaves_38 : decode cX8_leaves 38 = .ok (.aload_n 0, 1) := by decide +kernel
theorem dX8_leaves_39 : decode cX8_leaves 39 = .ok (.iload_n 1, 1) := by decide +kernel
theorem dX8_leaves_40 : decode cX8_leaves 40 = .ok (.iconst 5, 1) := by decide +kernel
theorem dX8_leaves_41 : decode cX8_leaves 41 = .ok (.iconst (-1), 1) := by decide +kernel
theorem dX8_leaves_42 : decode cX8_leaves 42 = .ok (.invokevirtual 76, 3) := by decide +kernel
theorem dX8_leaves_45 : decode cX8_leaves 45 = .ok (.return_, 1) := by decide +kernel
theorem dX8_holdsAt_0 : decode cX8_holdsAt 0 = .ok (.aload_n 0, 1) := by decide +kernel
theorem dX8_holdsAt_1 : decode cX8_holdsAt 1 = .ok (.getfield 7, 3) := by decide +kernel
theorem dX8_holdsAt_4 : decode cX8_holdsAt 4 = .ok (.bipush 34, 2) := by decide +kernel
theorem dX8_holdsAt_6 : decode cX8_holdsAt 6 = .ok (.iconst 3, 1) := by decide +kernel
theorem dX8_holdsAt_7 : decode cX8_holdsAt 7 = .ok (.iload_n 1, 1) := by decide +kernel
theorem dX8_holdsAt_8 : decode cX8_holdsAt 8 = .ok (.imul, 1) := by decide +kernel
theorem dX8_holdsAt_9 : decode cX8_holdsAt 9 = .ok (.iadd, 1) := by decide +kernel
theorem dX8_holdsAt_10 : decode cX8_holdsAt 10 = .ok (.iaload, 1) := by decide +kernel
theorem dX8_holdsAt_11 : decode cX8_holdsAt 11 = .ok (.aload_n 0, 1) := by decide +kernel
theorem dX8_holdsAt_12 : decode cX8_holdsAt 12 = .ok (.getfield 7, 3) := by decide +kernel
theorem dX8_holdsAt_15 : decode cX8_holdsAt 15 = .ok (.bipush 13, 2) := by decide +kernel
theorem dX8_holdsAt_17 : decode cX8_holdsAt 17 = .ok (.iload_n 2, 1) := by decide +kernel
theorem dX8_holdsAt_18 : decode cX8_holdsAt 18 = .ok (.iadd, 1) := by decide +kernel
theorem dX8_holdsAt_19 : decode cX8_holdsAt 19 = .ok (.iaload, 1) := by decide +kernel
theorem dX8_holdsAt_20 : decode cX8_holdsAt 20 = .ok (.iconst 3, 1) := by decide +kernel
theorem dX8_holdsAt_21 : decode cX8_holdsAt 21 = .ok (.iadd, 1) := by decide +kernel
theorem dX8_holdsAt_22 : decode cX8_holdsAt 22 = .ok (.if_icmp .lt 7, 3) := by decide +kernel
theorem dX8_holdsAt_25 : decode cX8_holdsAt 25 = .ok (.iconst 1, 1) := by decide +kernel
theorem dX8_holdsAt_26 : decode cX8_holdsAt 26 = .ok (.goto 4, 3) := by decide +kernel
theorem dX8_holdsAt_29 : decode cX8_holdsAt 29 = .ok (.iconst 0, 1) := by decide +kernel
theorem dX8_holdsAt_30 : decode cX8_holdsAt 30 = .ok (.ireturn, 1) := by decide +kernel
theorem dX8_rigsAt_0 : decode cX8_rigsAt 0 = .ok (.aload_n 0, 1) := by decide +kernel
theorem dX8_rigsAt_1 : decode cX8_rigsAt 1 = .ok (.iload_n 1, 1) := by decide +kernel
theorem dX8_rigsAt_2 : decode cX8_rigsAt 2 = .ok (.invokevirtual 95, 3) := by decide +kernel
theorem dX8_rigsAt_5 : decode cX8_rigsAt 5 = .ok (.ifCond .ne 5, 3) := by decide +kernel
theorem dX8_rigsAt_8 : decode cX8_rigsAt 8 = .ok (.iconst 1, 1) := by decide +kernel
theorem dX8_rigsAt_9 : decode cX8_rigsAt 9 = .ok (.ireturn, 1) := by decide +kernel
theorem dX8_rigsAt_10 : decode cX8_rigsAt 10 = .ok (.aload_n 0, 1) := by decide +kernel
theorem dX8_rigsAt_11 : decode cX8_rigsAt 11 = .ok (.iload_n 1, 1) := by decide +kernel
theorem dX8_rigsAt_12 : decode cX8_rigsAt 12 = .ok (.iconst 1, 1) := by decide +kernel
theorem dX8_rigsAt_13 : decode cX8_rigsAt 13 = .ok (.invokevirtual 37, 3) := by decide +kernel
theorem dX8_rigsAt_16 : decode cX8_rigsAt 16 = .ok (.istore_n 2, 1) := by decide +kernel
theorem dX8_rigsAt_17 : decode cX8_rigsAt 17 = .ok (.aload_n 0, 1) := by decide +kernel
theorem dX8_rigsAt_18 : decode cX8_rigsAt 18 = .ok (.iload_n 1, 1) := by decide +kernel
theorem dX8_rigsAt_19 : decode cX8_rigsAt 19 = .ok (.invokevirtual 81, 3) := by decide +kernel
theorem dX8_rigsAt_22 : decode cX8_rigsAt 22 = .ok (.ifCond .eq 38, 3) := by decide +kernel
theorem dX8_rigsAt_25 : decode cX8_rigsAt 25 = .ok (.aload_n 0, 1) := by decide +kernel
theorem dX8_rigsAt_26 : decode cX8_rigsAt 26 = .ok (.iload_n 1, 1) := by decide +kernel
theorem dX8_rigsAt_27 : decode cX8_rigsAt 27 = .ok (.iconst 5, 1) := by decide +kernel
theorem dX8_rigsAt_28 : decode cX8_rigsAt 28 = .ok (.invokevirtual 37, 3) := by decide +kernel
theorem dX8_rigsAt_31 : decode cX8_rigsAt 31 = .ok (.iconst (-1), 1) := by decide +kernel
theorem dX8_rigsAt_32 : decode cX8_rigsAt 32 = .ok (.if_icmp .eq 28, 3) := by decide +kernel
theorem dX8_rigsAt_35 : decode cX8_rigsAt 35 = .ok (.aload_n 0, 1) := by decide +kernel
theorem dX8_rigsAt_36 : decode cX8_rigsAt 36 = .ok (.iload_n 2, 1) := by decide +kernel
theorem dX8_rigsAt_37 : decode cX8_rigsAt 37 = .ok (.invokevirtual 67, 3) := by decide +kernel
theorem dX8_rigsAt_40 : decode cX8_rigsAt 40 = .ok (.ifCond .eq 20, 3) := by decide +kernel
theorem dX8_rigsAt_43 : decode cX8_rigsAt 43 = .ok (.aload_n 0, 1) := by decide +kernel
theorem dX8_rigsAt_44 : decode cX8_rigsAt 44 = .ok (.iload_n 2, 1) := by decide +kernel
theorem dX8_rigsAt_45 : decode cX8_rigsAt 45 = .ok (.invokevirtual 44, 3) := by decide +kernel
theorem dX8_rigsAt_48 : decode cX8_rigsAt 48 = .ok (.ifCond .eq 12, 3) := by decide +kernel
theorem dX8_rigsAt_51 : decode cX8_rigsAt 51 = .ok (.aload_n 0, 1) := by decide +kernel
theorem dX8_rigsAt_52 : decode cX8_rigsAt 52 = .ok (.iload_n 2, 1) := by decide +kernel
theorem dX8_rigsAt_53 : decode cX8_rigsAt 53 = .ok (.invokevirtual 70, 3) := by decide +kernel
theorem dX8_rigsAt_56 : decode cX8_rigsAt 56 = .ok (.iconst (-1), 1) := by decide +kernel
theorem dX8_rigsAt_57 : decode cX8_rigsAt 57 = .ok (.if_icmp .eq 5, 3) := by decide +kernel
theorem dX8_rigsAt_60 : decode cX8_rigsAt 60 = .ok (.iconst 2, 1) := by decide +kernel
theorem dX8_rigsAt_61 : decode cX8_rigsAt 61 = .ok (.ireturn, 1) := by decide +kernel
theorem dX8_rigsAt_62 : decode cX8_rigsAt 62 = .ok (.aload_n 0, 1) := by decide +kernel
theorem dX8_rigsAt_63 : decode cX8_rigsAt 63 = .ok (.aload_n 0, 1) := by decide +kernel
theorem dX8_rigsAt_64 : decode cX8_rigsAt 64 = .ok (.iload_n 1, 1) := by decide +kernel
theorem dX8_rigsAt_65 : decode cX8_rigsAt 65 = .ok (.iconst 5, 1) := by decide +kernel
theorem dX8_rigsAt_66 : decode cX8_rigsAt 66 = .ok (.invokevirtual 37, 3) := by decide +kernel
theorem dX8_rigsAt_69 : decode cX8_rigsAt 69 = .ok (.iload_n 2, 1) := by decide +kernel
theorem dX8_rigsAt_70 : decode cX8_rigsAt 70 = .ok (.invokevirtual 114, 3) := by decide +kernel
theorem dX8_rigsAt_73 : decode cX8_rigsAt 73 = .ok (.ifCond .eq 14, 3) := by decide +kernel
theorem dX8_rigsAt_76 : decode cX8_rigsAt 76 = .ok (.aload_n 0, 1) := by decide +kernel
theorem dX8_rigsAt_77 : decode cX8_rigsAt 77 = .ok (.iload_n 1, 1) := by decide +kernel
theorem dX8_rigsAt_78 : decode cX8_rigsAt 78 = .ok (.iload_n 2, 1) := by decide +kernel
theorem dX8_rigsAt_79 : decode cX8_rigsAt 79 = .ok (.bipush 10, 2) := by decide +kernel
theorem dX8_rigsAt_81 : decode cX8_rigsAt 81 = .ok (.invokevirtual 88, 3) := by decide +kernel
theorem dX8_rigsAt_84 : decode cX8_rigsAt 84 = .ok (.ifCond .ne 5, 3) := by decide +kernel
theorem dX8_rigsAt_87 : decode cX8_rigsAt 87 = .ok (.iconst 2, 1) := by decide +kernel
theorem dX8_rigsAt_88 : decode cX8_rigsAt 88 = .ok (.ireturn, 1) := by decide +kernel
theorem dX8_rigsAt_89 : decode cX8_rigsAt 89 = .ok (.aload_n 0, 1) := by decide +kernel
theorem dX8_rigsAt_90 : decode cX8_rigsAt 90 = .ok (.iload_n 1, 1) := by decide +kernel
theorem dX8_rigsAt_91 : decode cX8_rigsAt 91 = .ok (.iconst 2, 1) := by decide +kernel
theorem dX8_rigsAt_92 : decode cX8_rigsAt 92 = .ok (.iconst 2, 1) := by decide +kernel
theorem dX8_rigsAt_93 : decode cX8_rigsAt 93 = .ok (.invokevirtual 76, 3) := by decide +kernel
theorem dX8_rigsAt_96 : decode cX8_rigsAt 96 = .ok (.aload_n 0, 1) := by decide +kernel
theorem dX8_rigsAt_97 : decode cX8_rigsAt 97 = .ok (.iload_n 1, 1) := by decide +kernel
theorem dX8_rigsAt_98 : decode cX8_rigsAt 98 = .ok (.iconst 4, 1) := by decide +kernel
theorem dX8_rigsAt_99 : decode cX8_rigsAt 99 = .ok (.bipush 10, 2) := by decide +kernel
theorem dX8_rigsAt_101 : decode cX8_rigsAt 101 = .ok (.invokevirtual 76, 3) := by decide +kernel
theorem dX8_rigsAt_104 : decode cX8_rigsAt 104 = .ok (.aload_n 0, 1) := by decide +kernel
theorem dX8_rigsAt_105 : decode cX8_rigsAt 105 = .ok (.iload_n 2, 1) := by decide +kernel
theorem dX8_rigsAt_106 : decode cX8_rigsAt 106 = .ok (.putfield 105, 3) := by decide +kernel
theorem dX8_rigsAt_109 : decode cX8_rigsAt 109 = .ok (.iconst 0, 1) := by decide +kernel
theorem dX8_rigsAt_110 : decode cX8_rigsAt 110 = .ok (.ireturn, 1) := by decide +kernel
theorem dX8_canCarry_0 : decode cX8_canCarry 0 = .ok (.aload_n 0, 1) := by decide +kernel
theorem dX8_canCarry_1 : decode cX8_canCarry 1 = .ok (.getfield 7, 3) := by decide +kernel
theorem dX8_canCarry_4 : decode cX8_canCarry 4 = .ok (.iconst 4, 1) := by decide +kernel
theorem dX8_canCarry_5 : decode cX8_canCarry 5 = .ok (.iaload, 1) := by decide +kernel
theorem dX8_canCarry_6 : decode cX8_canCarry 6 = .ok (.istore_n 2, 1) := by decide +kernel
theorem dX8_canCarry_7 : decode cX8_canCarry 7 = .ok (.iconst 3, 1) := by decide +kernel
theorem dX8_canCarry_8 : decode cX8_canCarry 8 = .ok (.aload_n 0, 1) := by decide +kernel
theorem dX8_canCarry_9 : decode cX8_canCarry 9 = .ok (.getfield 7, 3) := by decide +kernel
theorem dX8_canCarry_12 : decode cX8_canCarry 12 = .ok (.bipush 20, 2) := by decide +kernel
theorem dX8_canCarry_14 : decode cX8_canCarry 14 = .ok (.iload_n 2, 1) := by decide +kernel
theorem dX8_canCarry_15 : decode cX8_canCarry 15 = .ok (.iadd, 1) := by decide +kernel
theorem dX8_canCarry_16 : decode cX8_canCarry 16 = .ok (.iconst 1, 1) := by decide +kernel
theorem dX8_canCarry_17 : decode cX8_canCarry 17 = .ok (.isub, 1) := by decide +kernel
theorem dX8_canCarry_18 : decode cX8_canCarry 18 = .ok (.iaload, 1) := by decide +kernel
theorem dX8_canCarry_19 : decode cX8_canCarry 19 = .ok (.imul, 1) := by decide +kernel
theorem dX8_canCarry_20 : decode cX8_canCarry 20 = .ok (.istore_n 3, 1) := by decide +kernel
theorem dX8_canCarry_21 : decode cX8_canCarry 21 = .ok (.aload_n 0, 1) := by decide +kernel
theorem dX8_canCarry_22 : decode cX8_canCarry 22 = .ok (.iload_n 1, 1) := by decide +kernel
theorem dX8_canCarry_23 : decode cX8_canCarry 23 = .ok (.invokevirtual 81, 3) := by decide +kernel
theorem dX8_canCarry_26 : decode cX8_canCarry 26 = .ok (.ifCond .eq 45, 3) := by decide +kernel
theorem dX8_canCarry_29 : decode cX8_canCarry 29 = .ok (.aload_n 0, 1) := by decide +kernel
theorem dX8_canCarry_30 : decode cX8_canCarry 30 = .ok (.iload_n 1, 1) := by decide +kernel
theorem dX8_canCarry_31 : decode cX8_canCarry 31 = .ok (.iconst 1, 1) := by decide +kernel
theorem dX8_canCarry_32 : decode cX8_canCarry 32 = .ok (.invokevirtual 37, 3) := by decide +kernel
theorem dX8_canCarry_35 : decode cX8_canCarry 35 = .ok (.iload_n 2, 1) := by decide +kernel
theorem dX8_canCarry_36 : decode cX8_canCarry 36 = .ok (.if_icmp .ne 35, 3) := by decide +kernel
theorem dX8_canCarry_39 : decode cX8_canCarry 39 = .ok (.aload_n 0, 1) := by decide +kernel
theorem dX8_canCarry_40 : decode cX8_canCarry 40 = .ok (.iload_n 1, 1) := by decide +kernel
theorem dX8_canCarry_41 : decode cX8_canCarry 41 = .ok (.bipush 6, 2) := by decide +kernel
theorem dX8_canCarry_43 : decode cX8_canCarry 43 = .ok (.invokevirtual 37, 3) := by decide +kernel
theorem dX8_canCarry_46 : decode cX8_canCarry 46 = .ok (.iconst 2, 1) := by decide +kernel
theorem dX8_canCarry_47 : decode cX8_canCarry 47 = .ok (.iload_n 3, 1) := by decide +kernel
theorem dX8_canCarry_48 : decode cX8_canCarry 48 = .ok (.imul, 1) := by decide +kernel
theorem dX8_canCarry_49 : decode cX8_canCarry 49 = .ok (.iadd, 1) := by decide +kernel
theorem dX8_canCarry_50 : decode cX8_canCarry 50 = .ok (.bipush 100, 2) := by decide +kernel
theorem dX8_canCarry_52 : decode cX8_canCarry 52 = .ok (.if_icmp .gt 19, 3) := by decide +kernel
theorem dX8_canCarry_55 : decode cX8_canCarry 55 = .ok (.aload_n 0, 1) := by decide +kernel
theorem dX8_canCarry_56 : decode cX8_canCarry 56 = .ok (.iload_n 1, 1) := by decide +kernel
theorem dX8_canCarry_57 : decode cX8_canCarry 57 = .ok (.iload_n 2, 1) := by decide +kernel
theorem dX8_canCarry_58 : decode cX8_canCarry 58 = .ok (.iconst 1, 1) := by decide +kernel
theorem dX8_canCarry_59 : decode cX8_canCarry 59 = .ok (.isub, 1) := by decide +kernel
theorem dX8_canCarry_60 : decode cX8_canCarry 60 = .ok (.iload_n 3, 1) := by decide +kernel
theorem dX8_canCarry_61 : decode cX8_canCarry 61 = .ok (.invokevirtual 88, 3) := by decide +kernel
theorem dX8_canCarry_64 : decode cX8_canCarry 64 = .ok (.ifCond .eq 7, 3) := by decide +kernel
theorem dX8_canCarry_67 : decode cX8_canCarry 67 = .ok (.iconst 1, 1) := by decide +kernel
theorem dX8_canCarry_68 : decode cX8_canCarry 68 = .ok (.goto 4, 3) := by decide +kernel
theorem dX8_canCarry_71 : decode cX8_canCarry 71 = .ok (.iconst 0, 1) := by decide +kernel
theorem dX8_canCarry_72 : decode cX8_canCarry 72 = .ok (.ireturn, 1) := by decide +kernel
theorem dX8_isCarryable_0 : decode cX8_isCarryable 0 = .ok (.aload_n 0, 1) := by decide +kernel
theorem dX8_isCarryable_1 : decode cX8_isCarryable 1 = .ok (.getfield 7, 3) := by decide +kernel
theorem dX8_isCarryable_4 : decode cX8_isCarryable 4 = .ok (.iconst 5, 1) := by decide +kernel
theorem dX8_isCarryable_5 : decode cX8_isCarryable 5 = .ok (.iaload, 1) := by decide +kernel
theorem dX8_isCarryable_6 : decode cX8_isCarryable 6 = .ok (.ifCond .ne 31, 3) := by decide +kernel
theorem dX8_isCarryable_9 : decode cX8_isCarryable 9 = .ok (.aload_n 0, 1) := by decide +kernel
theorem dX8_isCarryable_10 : decode cX8_isCarryable 10 = .ok (.getfield 7, 3) := by decide +kernel
theorem dX8_isCarryable_13 : decode cX8_isCarryable 13 = .ok (.iconst 4, 1) := by decide +kernel
theorem dX8_isCarryable_14 : decode cX8_isCarryable 14 = .ok (.iaload, 1) := by decide +kernel
theorem dX8_isCarryable_15 : decode cX8_isCarryable 15 = .ok (.ifCond .le 22, 3) := by decide +kernel
theorem dX8_isCarryable_18 : decode cX8_isCarryable 18 = .ok (.aload_n 0, 1) := by decide +kernel
theorem dX8_isCarryable_19 : decode cX8_isCarryable 19 = .ok (.aload_n 0, 1) := by decide +kernel
theorem dX8_isCarryable_20 : decode cX8_isCarryable 20 = .ok (.getfield 7, 3) := by decide +kernel
theorem dX8_isCarryable_23 : decode cX8_isCarryable 23 = .ok (.iconst 4, 1) := by decide +kernel
theorem dX8_isCarryable_24 : decode cX8_isCarryable 24 = .ok (.iaload, 1) := by decide +kernel
theorem dX8_isCarryable_25 : decode cX8_isCarryable 25 = .ok (.iconst 1, 1) := by decide +kernel
theorem dX8_isCarryable_26 : decode cX8_isCarryable 26 = .ok (.isub, 1) := by decide +kernel
theorem dX8_isCarryable_27 : decode cX8_isCarryable 27 = .ok (.invokevirtual 44, 3) := by decide +kernel
theorem dX8_isCarryable_30 : decode cX8_isCarryable 30 = .ok (.ifCond .ne 7, 3) := by decide +kernel
theorem dX8_isCarryable_33 : decode cX8_isCarryable 33 = .ok (.iconst 1, 1) := by decide +kernel
theorem dX8_isCarryable_34 : decode cX8_isCarryable 34 = .ok (.goto 4, 3) := by decide +kernel
theorem dX8_isCarryable_37 : decode cX8_isCarryable 37 = .ok (.iconst 0, 1) := by decide +kernel
theorem dX8_isCarryable_38 : decode cX8_isCarryable 38 = .ok (.ireturn, 1) := by decide +kernel
theorem dX8_ones_0 : decode cX8_ones 0 = .ok (.iconst 0, 1) := by decide +kernel
theorem dX8_ones_1 : decode cX8_ones 1 = .ok (.istore_n 1, 1) := by decide +kernel
theorem dX8_ones_2 : decode cX8_ones 2 = .ok (.iconst 0, 1) := by decide +kernel
theorem dX8_ones_3 : decode cX8_ones 3 = .ok (.istore_n 2, 1) := by decide +kernel
theorem dX8_ones_4 : decode cX8_ones 4 = .ok (.iload_n 2, 1) := by decide +kernel
theorem dX8_ones_5 : decode cX8_ones 5 = .ok (.bipush 6, 2) := by decide +kernel
theorem dX8_ones_7 : decode cX8_ones 7 = .ok (.if_icmp .ge 17, 3) := by decide +kernel
theorem dX8_ones_10 : decode cX8_ones 10 = .ok (.iload_n 1, 1) := by decide +kernel
theorem dX8_ones_11 : decode cX8_ones 11 = .ok (.iload_n 0, 1) := by decide +kernel
theorem dX8_ones_12 : decode cX8_ones 12 = .ok (.iload_n 2, 1) := by decide +kernel
theorem dX8_ones_13 : decode cX8_ones 13 = .ok (.ishr, 1) := by decide +kernel
theorem dX8_ones_14 : decode cX8_ones 14 = .ok (.iconst 1, 1) := by decide +kernel
theorem dX8_ones_15 : decode cX8_ones 15 = .ok (.iand, 1) := by decide +kernel
theorem dX8_ones_16 : decode cX8_ones 16 = .ok (.iadd, 1) := by decide +kernel
theorem dX8_ones_17 : decode cX8_ones 17 = .ok (.istore_n 1, 1) := by decide +kernel
theorem dX8_ones_18 : decode cX8_ones 18 = .ok (.iinc 2 1, 3) := by decide +kernel
theorem dX8_ones_21 : decode cX8_ones 21 = .ok (.goto (-17), 3) := by decide +kernel
theorem dX8_ones_24 : decode cX8_ones 24 = .ok (.iload_n 1, 1) := by decide +kernel
theorem dX8_ones_25 : decode cX8_ones 25 = .ok (.ireturn, 1) := by decide +kernel
theorem dX8_carries_0 : decode cX8_carries 0 = .ok (.iload_n 1, 1) := by decide +kernel
theorem dX8_carries_1 : decode cX8_carries 1 = .ok (.iconst 0, 1) := by decide +kernel
theorem dX8_carries_2 : decode cX8_carries 2 = .ok (.iconst 1, 1) := by decide +kernel
theorem dX8_carries_3 : decode cX8_carries 3 = .ok (.aload_n 0, 1) := by decide +kernel
theorem dX8_carries_4 : decode cX8_carries 4 = .ok (.getfield 7, 3) := by decide +kernel
theorem dX8_carries_7 : decode cX8_carries 7 = .ok (.iconst 2, 1) := by decide +kernel
theorem dX8_carries_8 : decode cX8_carries 8 = .ok (.iaload, 1) := by decide +kernel
theorem dX8_carries_9 : decode cX8_carries 9 = .ok (.ishl, 1) := by decide +kernel
theorem dX8_carries_10 : decode cX8_carries 10 = .ok (.iconst 1, 1) := by decide +kernel
theorem dX8_carries_11 : decode cX8_carries 11 = .ok (.isub, 1) := by decide +kernel
theorem dX8_carries_12 : decode cX8_carries 12 = .ok (.invokestatic 54, 3) := by decide +kernel
theorem dX8_carries_15 : decode cX8_carries 15 = .ok (.ifCond .eq 11, 3) := by decide +kernel
theorem dX8_carries_18 : decode cX8_carries 18 = .ok (.iload_n 1, 1) := by decide +kernel
theorem dX8_carries_19 : decode cX8_carries 19 = .ok (.invokestatic 118, 3) := by decide +kernel
theorem dX8_carries_22 : decode cX8_carries 22 = .ok (.iconst 3, 1) := by decide +kernel
theorem dX8_carries_23 : decode cX8_carries 23 = .ok (.if_icmp .ge 5, 3) := by decide +kernel
theorem dX8_carries_26 : decode cX8_carries 26 = .ok (.iconst 1, 1) := by decide +kernel
theorem dX8_carries_27 : decode cX8_carries 27 = .ok (.ireturn, 1) := by decide +kernel
theorem dX8_carries_28 : decode cX8_carries 28 = .ok (.aload_n 0, 1) := by decide +kernel
theorem dX8_carries_29 : decode cX8_carries 29 = .ok (.invokevirtual 121, 3) := by decide +kernel
theorem dX8_carries_32 : decode cX8_carries 32 = .ok (.istore_n 2, 1) := by decide +kernel
theorem dX8_carries_33 : decode cX8_carries 33 = .ok (.iconst 0, 1) := by decide +kernel
theorem dX8_carries_34 : decode cX8_carries 34 = .ok (.istore_n 3, 1) := by decide +kernel
theorem dX8_carries_35 : decode cX8_carries 35 = .ok (.iload_n 3, 1) := by decide +kernel
theorem dX8_carries_36 : decode cX8_carries 36 = .ok (.aload_n 0, 1) := by decide +kernel
theorem dX8_carries_37 : decode cX8_carries 37 = .ok (.getfield 7, 3) := by decide +kernel
theorem dX8_carries_40 : decode cX8_carries 40 = .ok (.iconst 2, 1) := by decide +kernel
theorem dX8_carries_41 : decode cX8_carries 41 = .ok (.iaload, 1) := by decide +kernel
theorem dX8_carries_42 : decode cX8_carries 42 = .ok (.if_icmp .ge 35, 3) := by decide +kernel
theorem dX8_carries_45 : decode cX8_carries 45 = .ok (.iload_n 2, 1) := by decide +kernel
theorem dX8_carries_46 : decode cX8_carries 46 = .ok (.ifCond .eq 31, 3) := by decide +kernel
theorem dX8_carries_49 : decode cX8_carries 49 = .ok (.iload_n 1, 1) := by decide +kernel
theorem dX8_carries_50 : decode cX8_carries 50 = .ok (.iload_n 3, 1) := by decide +kernel
theorem dX8_carries_51 : decode cX8_carries 51 = .ok (.ishr, 1) := by decide +kernel
theorem dX8_carries_52 : decode cX8_carries 52 = .ok (.iconst 1, 1) := by decide +kernel
theorem dX8_carries_53 : decode cX8_carries 53 = .ok (.iand, 1) := by decide +kernel
theorem dX8_carries_54 : decode cX8_carries 54 = .ok (.ifCond .eq 11, 3) := by decide +kernel
theorem dX8_carries_57 : decode cX8_carries 57 = .ok (.aload_n 0, 1) := by decide +kernel
theorem dX8_carries_58 : decode cX8_carries 58 = .ok (.iload_n 3, 1) := by decide +kernel
theorem dX8_carries_59 : decode cX8_carries 59 = .ok (.invokevirtual 125, 3) := by decide +kernel
theorem dX8_carries_62 : decode cX8_carries 62 = .ok (.ifCond .eq 7, 3) := by decide +kernel
theorem dX8_carries_65 : decode cX8_carries 65 = .ok (.iconst 1, 1) := by decide +kernel
theorem dX8_carries_66 : decode cX8_carries 66 = .ok (.goto 4, 3) := by decide +kernel
theorem dX8_carries_69 : decode cX8_carries 69 = .ok (.iconst 0, 1) := by decide +kernel
theorem dX8_carries_70 : decode cX8_carries 70 = .ok (.istore_n 2, 1) := by decide +kernel
theorem dX8_carries_71 : decode cX8_carries 71 = .ok (.iinc 3 1, 3) := by decide +kernel
theorem dX8_carries_74 : decode cX8_carries 74 = .ok (.goto (-39), 3) := by decide +kernel
theorem dX8_carries_77 : decode cX8_carries 77 = .ok (.iload_n 2, 1) := by decide +kernel
theorem dX8_carries_78 : decode cX8_carries 78 = .ok (.ifCond .ne 5, 3) := by decide +kernel
theorem dX8_carries_81 : decode cX8_carries 81 = .ok (.iconst 2, 1) := by decide +kernel
theorem dX8_carries_82 : decode cX8_carries 82 = .ok (.ireturn, 1) := by decide +kernel
theorem dX8_carries_83 : decode cX8_carries 83 = .ok (.iconst 3, 1) := by decide +kernel
theorem dX8_carries_84 : decode cX8_carries 84 = .ok (.aload_n 0, 1) := by decide +kernel
theorem dX8_carries_85 : decode cX8_carries 85 = .ok (.getfield 7, 3) := by decide +kernel
theorem dX8_carries_88 : decode cX8_carries 88 = .ok (.bipush 20, 2) := by decide +kernel
theorem dX8_carries_90 : decode cX8_carries 90 = .ok (.aload_n 0, 1) := by decide +kernel
theorem dX8_carries_91 : decode cX8_carries 91 = .ok (.getfield 7, 3) := by decide +kernel
theorem dX8_carries_94 : decode cX8_carries 94 = .ok (.iconst 4, 1) := by decide +kernel
theorem dX8_carries_95 : decode cX8_carries 95 = .ok (.iaload, 1) := by decide +kernel
theorem dX8_carries_96 : decode cX8_carries 96 = .ok (.iadd, 1) := by decide +kernel
theorem dX8_carries_97 : decode cX8_carries 97 = .ok (.iconst 1, 1) := by decide +kernel
theorem dX8_carries_98 : decode cX8_carries 98 = .ok (.isub, 1) := by decide +kernel
theorem dX8_carries_99 : decode cX8_carries 99 = .ok (.iaload, 1) := by decide +kernel
theorem dX8_carries_100 : decode cX8_carries 100 = .ok (.imul, 1) := by decide +kernel
theorem dX8_carries_101 : decode cX8_carries 101 = .ok (.istore_n 3, 1) := by decide +kernel
theorem dX8_carries_102 : decode cX8_carries 102 = .ok (.iconst 0, 1) := by decide +kernel
theorem dX8_carries_103 : decode cX8_carries 103 = .ok (.istore 4, 2) := by decide +kernel
theorem dX8_carries_105 : decode cX8_carries 105 = .ok (.iload 4, 2) := by decide +kernel
theorem dX8_carries_107 : decode cX8_carries 107 = .ok (.aload_n 0, 1) := by decide +kernel
theorem dX8_carries_108 : decode cX8_carries 108 = .ok (.getfield 7, 3) := by decide +kernel
theorem dX8_carries_111 : decode cX8_carries 111 = .ok (.iconst 2, 1) := by decide +kernel
theorem dX8_carries_112 : decode cX8_carries 112 = .ok (.iaload, 1) := by decide +kernel
theorem dX8_carries_113 : decode cX8_carries 113 = .ok (.if_icmp .ge 35, 3) := by decide +kernel
theorem dX8_carries_116 : decode cX8_carries 116 = .ok (.iload_n 1, 1) := by decide +kernel
theorem dX8_carries_117 : decode cX8_carries 117 = .ok (.iload 4, 2) := by decide +kernel
theorem dX8_carries_119 : decode cX8_carries 119 = .ok (.ishr, 1) := by decide +kernel
theorem dX8_carries_120 : decode cX8_carries 120 = .ok (.iconst 1, 1) := by decide +kernel
theorem dX8_carries_121 : decode cX8_carries 121 = .ok (.iand, 1) := by decide +kernel
theorem dX8_carries_122 : decode cX8_carries 122 = .ok (.iconst 1, 1) := by decide +kernel
theorem dX8_carries_123 : decode cX8_carries 123 = .ok (.if_icmp .ne 19, 3) := by decide +kernel
theorem dX8_carries_126 : decode cX8_carries 126 = .ok (.aload_n 0, 1) := by decide +kernel
theorem dX8_carries_127 : decode cX8_carries 127 = .ok (.iload 4, 2) := by decide +kernel
theorem dX8_carries_129 : decode cX8_carries 129 = .ok (.aload_n 0, 1) := by decide +kernel
theorem dX8_carries_130 : decode cX8_carries 130 = .ok (.getfield 7, 3) := by decide +kernel
theorem dX8_carries_133 : decode cX8_carries 133 = .ok (.iconst 4, 1) := by decide +kernel
theorem dX8_carries_134 : decode cX8_carries 134 = .ok (.iaload, 1) := by decide +kernel
theorem dX8_carries_135 : decode cX8_carries 135 = .ok (.iconst 1, 1) := by decide +kernel
theorem dX8_carries_136 : decode cX8_carries 136 = .ok (.isub, 1) := by decide +kernel
theorem dX8_carries_137 : decode cX8_carries 137 = .ok (.iload_n 3, 1) := by decide +kernel
theorem dX8_carries_138 : decode cX8_carries 138 = .ok (.iconst 1, 1) := by decide +kernel
theorem dX8_carries_139 : decode cX8_carries 139 = .ok (.invokevirtual 91, 3) := by decide +kernel
theorem dX8_carries_142 : decode cX8_carries 142 = .ok (.iinc 4 1, 3) := by decide +kernel
theorem dX8_carries_145 : decode cX8_carries 145 = .ok (.goto (-40), 3) := by decide +kernel
theorem dX8_carries_148 : decode cX8_carries 148 = .ok (.sipush 177, 3) := by decide +kernel
theorem dX8_carries_151 : decode cX8_carries 151 = .ok (.istore 4, 2) := by decide +kernel
theorem dX8_carries_153 : decode cX8_carries 153 = .ok (.iload 4, 2) := by decide +kernel
theorem dX8_carries_155 : decode cX8_carries 155 = .ok (.sipush 145, 3) := by decide +kernel
theorem dX8_carries_158 : decode cX8_carries 158 = .ok (.if_icmp .lt 25, 3) := by decide +kernel
theorem dX8_carries_161 : decode cX8_carries 161 = .ok (.aload_n 0, 1) := by decide +kernel
theorem dX8_carries_162 : decode cX8_carries 162 = .ok (.getfield 7, 3) := by decide +kernel
theorem dX8_carries_165 : decode cX8_carries 165 = .ok (.iload 4, 2) := by decide +kernel
theorem dX8_carries_167 : decode cX8_carries 167 = .ok (.aload_n 0, 1) := by decide +kernel
theorem dX8_carries_168 : decode cX8_carries 168 = .ok (.getfield 7, 3) := by decide +kernel
theorem dX8_carries_171 : decode cX8_carries 171 = .ok (.iload 4, 2) := by decide +kernel
theorem dX8_carries_173 : decode cX8_carries 173 = .ok (.iconst 3, 1) := by decide +kernel
theorem dX8_carries_174 : decode cX8_carries 174 = .ok (.isub, 1) := by decide +kernel
theorem dX8_carries_175 : decode cX8_carries 175 = .ok (.iaload, 1) := by decide +kernel
theorem dX8_carries_176 : decode cX8_carries 176 = .ok (.iastore, 1) := by decide +kernel
theorem dX8_carries_177 : decode cX8_carries 177 = .ok (.iinc 4 (-1), 3) := by decide +kernel
theorem dX8_carries_180 : decode cX8_carries 180 = .ok (.goto (-27), 3) := by decide +kernel
theorem dX8_carries_183 : decode cX8_carries 183 = .ok (.aload_n 0, 1) := by decide +kernel
theorem dX8_carries_184 : decode cX8_carries 184 = .ok (.getfield 7, 3) := by decide +kernel
theorem dX8_carries_187 : decode cX8_carries 187 = .ok (.sipush 142, 3) := by decide +kernel
theorem dX8_carries_190 : decode cX8_carries 190 = .ok (.aload_n 0, 1) := by decide +kernel
theorem dX8_carries_191 : decode cX8_carries 191 = .ok (.getfield 7, 3) := by decide +kernel
theorem dX8_carries_194 : decode cX8_carries 194 = .ok (.iconst 3, 1) := by decide +kernel
theorem dX8_carries_195 : decode cX8_carries 195 = .ok (.iaload, 1) := by decide +kernel
theorem dX8_carries_196 : decode cX8_carries 196 = .ok (.iastore, 1) := by decide +kernel
theorem dX8_carries_197 : decode cX8_carries 197 = .ok (.aload_n 0, 1) := by decide +kernel
theorem dX8_carries_198 : decode cX8_carries 198 = .ok (.getfield 7, 3) := by decide +kernel
theorem dX8_carries_201 : decode cX8_carries 201 = .ok (.sipush 143, 3) := by decide +kernel
theorem dX8_carries_204 : decode cX8_carries 204 = .ok (.aload_n 0, 1) := by decide +kernel
theorem dX8_carries_205 : decode cX8_carries 205 = .ok (.getfield 7, 3) := by decide +kernel
theorem dX8_carries_208 : decode cX8_carries 208 = .ok (.iconst 4, 1) := by decide +kernel
theorem dX8_carries_209 : decode cX8_carries 209 = .ok (.iaload, 1) := by decide +kernel
theorem dX8_carries_210 : decode cX8_carries 210 = .ok (.iastore, 1) := by decide +kernel
theorem dX8_carries_211 : decode cX8_carries 211 = .ok (.aload_n 0, 1) := by decide +kernel
theorem dX8_carries_212 : decode cX8_carries 212 = .ok (.getfield 7, 3) := by decide +kernel
theorem dX8_carries_215 : decode cX8_carries 215 = .ok (.sipush 144, 3) := by decide +kernel
theorem dX8_carries_218 : decode cX8_carries 218 = .ok (.iload_n 1, 1) := by decide +kernel
theorem dX8_carries_219 : decode cX8_carries 219 = .ok (.iastore, 1) := by decide +kernel
theorem dX8_carries_220 : decode cX8_carries 220 = .ok (.aload_n 0, 1) := by decide +kernel
theorem dX8_carries_221 : decode cX8_carries 221 = .ok (.getfield 7, 3) := by decide +kernel
theorem dX8_carries_224 : decode cX8_carries 224 = .ok (.bipush 12, 2) := by decide +kernel
theorem dX8_carries_226 : decode cX8_carries 226 = .ok (.dup2, 1) := by decide +kernel
theorem dX8_carries_227 : decode cX8_carries 227 = .ok (.iaload, 1) := by decide +kernel
theorem dX8_carries_228 : decode cX8_carries 228 = .ok (.aload_n 0, 1) := by decide +kernel
theorem dX8_carries_229 : decode cX8_carries 229 = .ok (.getfield 7, 3) := by decide +kernel
theorem dX8_carries_232 : decode cX8_carries 232 = .ok (.bipush 12, 2) := by decide +kernel
theorem dX8_carries_234 : decode cX8_carries 234 = .ok (.iaload, 1) := by decide +kernel
theorem dX8_carries_235 : decode cX8_carries 235 = .ok (.bipush 12, 2) := by decide +kernel
theorem dX8_carries_237 : decode cX8_carries 237 = .ok (.if_icmp .ge 7, 3) := by decide +kernel
theorem dX8_carries_240 : decode cX8_carries 240 = .ok (.iconst 1, 1) := by decide +kernel
theorem dX8_carries_241 : decode cX8_carries 241 = .ok (.goto 4, 3) := by decide +kernel
theorem dX8_carries_244 : decode cX8_carries 244 = .ok (.iconst 0, 1) := by decide +kernel
theorem dX8_carries_245 : decode cX8_carries 245 = .ok (.iadd, 1) := by decide +kernel
theorem dX8_carries_246 : decode cX8_carries 246 = .ok (.iastore, 1) := by decide +kernel
theorem dX8_carries_247 : decode cX8_carries 247 = .ok (.aload_n 0, 1) := by decide +kernel
theorem dX8_carries_248 : decode cX8_carries 248 = .ok (.getfield 7, 3) := by decide +kernel
theorem dX8_carries_251 : decode cX8_carries 251 = .ok (.bipush 8, 2) := by decide +kernel
theorem dX8_carries_253 : decode cX8_carries 253 = .ok (.dup2, 1) := by decide +kernel
theorem dX8_carries_254 : decode cX8_carries 254 = .ok (.iaload, 1) := by decide +kernel
theorem dX8_carries_255 : decode cX8_carries 255 = .ok (.iconst 1, 1) := by decide +kernel
theorem dX8_carries_256 : decode cX8_carries 256 = .ok (.iadd, 1) := by decide +kernel
theorem dX8_carries_257 : decode cX8_carries 257 = .ok (.iastore, 1) := by decide +kernel
theorem dX8_carries_258 : decode cX8_carries 258 = .ok (.aload_n 0, 1) := by decide +kernel
theorem dX8_carries_259 : decode cX8_carries 259 = .ok (.getfield 7, 3) := by decide +kernel
theorem dX8_carries_262 : decode cX8_carries 262 = .ok (.iconst 5, 1) := by decide +kernel
theorem dX8_carries_263 : decode cX8_carries 263 = .ok (.iconst 1, 1) := by decide +kernel
theorem dX8_carries_264 : decode cX8_carries 264 = .ok (.iastore, 1) := by decide +kernel
theorem dX8_carries_265 : decode cX8_carries 265 = .ok (.aload_n 0, 1) := by decide +kernel
theorem dX8_carries_266 : decode cX8_carries 266 = .ok (.iload_n 3, 1) := by decide +kernel
theorem dX8_carries_267 : decode cX8_carries 267 = .ok (.putfield 105, 3) := by decide +kernel
theorem dX8_carries_270 : decode cX8_carries 270 = .ok (.iconst 0, 1) := by decide +kernel
theorem dX8_carries_271 : decode cX8_carries 271 = .ok (.ireturn, 1) := by decide +kernel
theorem dX8_sends_0 : decode cX8_sends 0 = .ok (.aload_n 0, 1) := by decide +kernel
theorem dX8_sends_1 : decode cX8_sends 1 = .ok (.iload_n 1, 1) := by decide +kernel
theorem dX8_sends_2 : decode cX8_sends 2 = .ok (.invokevirtual 95, 3) := by decide +kernel
theorem dX8_sends_5 : decode cX8_sends 5 = .ok (.ifCond .ne 5, 3) := by decide +kernel
theorem dX8_sends_8 : decode cX8_sends 8 = .ok (.iconst 1, 1) := by decide +kernel
theorem dX8_sends_9 : decode cX8_sends 9 = .ok (.ireturn, 1) := by decide +kernel
theorem dX8_sends_10 : decode cX8_sends 10 = .ok (.aload_n 0, 1) := by decide +kernel
theorem dX8_sends_11 : decode cX8_sends 11 = .ok (.iload_n 1, 1) := by decide +kernel
theorem dX8_sends_12 : decode cX8_sends 12 = .ok (.iconst 1, 1) := by decide +kernel
theorem dX8_sends_13 : decode cX8_sends 13 = .ok (.invokevirtual 37, 3) := by decide +kernel
theorem dX8_sends_16 : decode cX8_sends 16 = .ok (.istore_n 2, 1) := by decide +kernel
theorem dX8_sends_17 : decode cX8_sends 17 = .ok (.aload_n 0, 1) := by decide +kernel
theorem dX8_sends_18 : decode cX8_sends 18 = .ok (.iload_n 1, 1) := by decide +kernel
theorem dX8_sends_19 : decode cX8_sends 19 = .ok (.invokevirtual 81, 3) := by decide +kernel
theorem dX8_sends_22 : decode cX8_sends 22 = .ok (.ifCond .eq 19, 3) := by decide +kernel
theorem dX8_sends_25 : decode cX8_sends 25 = .ok (.iload_n 2, 1) := by decide +kernel
theorem dX8_sends_26 : decode cX8_sends 26 = .ok (.ifCond .le 17, 3) := by decide +kernel
theorem dX8_sends_29 : decode cX8_sends 29 = .ok (.aload_n 0, 1) := by decide +kernel
theorem dX8_sends_30 : decode cX8_sends 30 = .ok (.getfield 7, 3) := by decide +kernel
theorem dX8_sends_33 : decode cX8_sends 33 = .ok (.bipush 6, 2) := by decide +kernel
theorem dX8_sends_35 : decode cX8_sends 35 = .ok (.iaload, 1) := by decide +kernel
theorem dX8_sends_36 : decode cX8_sends 36 = .ok (.bipush 10, 2) := by decide +kernel
theorem dX8_sends_38 : decode cX8_sends 38 = .ok (.if_icmp .ne 5, 3) := by decide +kernel
theorem dX8_sends_41 : decode cX8_sends 41 = .ok (.iconst 2, 1) := by decide +kernel
theorem dX8_sends_42 : decode cX8_sends 42 = .ok (.ireturn, 1) := by decide +kernel
theorem dX8_sends_43 : decode cX8_sends 43 = .ok (.iload_n 2, 1) := by decide +kernel
theorem dX8_sends_44 : decode cX8_sends 44 = .ok (.ifCond .ne 17, 3) := by decide +kernel
theorem dX8_sends_47 : decode cX8_sends 47 = .ok (.aload_n 0, 1) := by decide +kernel
theorem dX8_sends_48 : decode cX8_sends 48 = .ok (.getfield 7, 3) := by decide +kernel
theorem dX8_sends_51 : decode cX8_sends 51 = .ok (.bipush 7, 2) := by decide +kernel
theorem dX8_sends_53 : decode cX8_sends 53 = .ok (.dup2, 1) := by decide +kernel
theorem dX8_sends_54 : decode cX8_sends 54 = .ok (.iaload, 1) := by decide +kernel
theorem dX8_sends_55 : decode cX8_sends 55 = .ok (.iconst 1, 1) := by decide +kernel
theorem dX8_sends_56 : decode cX8_sends 56 = .ok (.iadd, 1) := by decide +kernel
theorem dX8_sends_57 : decode cX8_sends 57 = .ok (.iastore, 1) := by decide +kernel
theorem dX8_sends_58 : decode cX8_sends 58 = .ok (.goto 57, 3) := by decide +kernel
theorem dX8_sends_61 : decode cX8_sends 61 = .ok (.bipush 112, 2) := by decide +kernel
theorem dX8_sends_63 : decode cX8_sends 63 = .ok (.iconst 3, 1) := by decide +kernel
theorem dX8_sends_64 : decode cX8_sends 64 = .ok (.aload_n 0, 1) := by decide +kernel
theorem dX8_sends_65 : decode cX8_sends 65 = .ok (.getfield 7, 3) := by decide +kernel
theorem dX8_sends_68 : decode cX8_sends 68 = .ok (.bipush 6, 2) := by decide +kernel
theorem dX8_sends_70 : decode cX8_sends 70 = .ok (.iaload, 1) := by decide +kernel
theorem dX8_sends_71 : decode cX8_sends 71 = .ok (.imul, 1) := by decide +kernel
theorem dX8_sends_72 : decode cX8_sends 72 = .ok (.iadd, 1) := by decide +kernel
theorem dX8_sends_73 : decode cX8_sends 73 = .ok (.istore_n 3, 1) := by decide +kernel
theorem dX8_sends_74 : decode cX8_sends 74 = .ok (.aload_n 0, 1) := by decide +kernel
theorem dX8_sends_75 : decode cX8_sends 75 = .ok (.getfield 7, 3) := by decide +kernel
theorem dX8_sends_78 : decode cX8_sends 78 = .ok (.iload_n 3, 1) := by decide +kernel
theorem dX8_sends_79 : decode cX8_sends 79 = .ok (.iload_n 1, 1) := by decide +kernel
theorem dX8_sends_80 : decode cX8_sends 80 = .ok (.iastore, 1) := by decide +kernel
theorem dX8_sends_81 : decode cX8_sends 81 = .ok (.aload_n 0, 1) := by decide +kernel
theorem dX8_sends_82 : decode cX8_sends 82 = .ok (.getfield 7, 3) := by decide +kernel
theorem dX8_sends_85 : decode cX8_sends 85 = .ok (.iload_n 3, 1) := by decide +kernel
theorem dX8_sends_86 : decode cX8_sends 86 = .ok (.iconst 1, 1) := by decide +kernel
theorem dX8_sends_87 : decode cX8_sends 87 = .ok (.iadd, 1) := by decide +kernel
theorem dX8_sends_88 : decode cX8_sends 88 = .ok (.aload_n 0, 1) := by decide +kernel
theorem dX8_sends_89 : decode cX8_sends 89 = .ok (.getfield 7, 3) := by decide +kernel
theorem dX8_sends_92 : decode cX8_sends 92 = .ok (.iconst 3, 1) := by decide +kernel
theorem dX8_sends_93 : decode cX8_sends 93 = .ok (.iaload, 1) := by decide +kernel
theorem dX8_sends_94 : decode cX8_sends 94 = .ok (.iastore, 1) := by decide +kernel
theorem dX8_sends_95 : decode cX8_sends 95 = .ok (.aload_n 0, 1) := by decide +kernel
theorem dX8_sends_96 : decode cX8_sends 96 = .ok (.getfield 7, 3) := by decide +kernel
theorem dX8_sends_99 : decode cX8_sends 99 = .ok (.iload_n 3, 1) := by decide +kernel
theorem dX8_sends_100 : decode cX8_sends 100 = .ok (.iconst 2, 1) := by decide +kernel
theorem dX8_sends_101 : decode cX8_sends 101 = .ok (.iadd, 1) := by decide +kernel
theorem dX8_sends_102 : decode cX8_sends 102 = .ok (.iload_n 2, 1) := by decide +kernel
theorem dX8_sends_103 : decode cX8_sends 103 = .ok (.iastore, 1) := by decide +kernel
theorem dX8_sends_104 : decode cX8_sends 104 = .ok (.aload_n 0, 1) := by decide +kernel
theorem dX8_sends_105 : decode cX8_sends 105 = .ok (.getfield 7, 3) := by decide +kernel
theorem dX8_sends_108 : decode cX8_sends 108 = .ok (.bipush 6, 2) := by decide +kernel
theorem dX8_sends_110 : decode cX8_sends 110 = .ok (.dup2, 1) := by decide +kernel
theorem dX8_sends_111 : decode cX8_sends 111 = .ok (.iaload, 1) := by decide +kernel
theorem dX8_sends_112 : decode cX8_sends 112 = .ok (.iconst 1, 1) := by decide +kernel
theorem dX8_sends_113 : decode cX8_sends 113 = .ok (.iadd, 1) := by decide +kernel
theorem dX8_sends_114 : decode cX8_sends 114 = .ok (.iastore, 1) := by decide +kernel
theorem dX8_sends_115 : decode cX8_sends 115 = .ok (.aload_n 0, 1) := by decide +kernel
theorem dX8_sends_116 : decode cX8_sends 116 = .ok (.aload_n 0, 1) := by decide +kernel
theorem dX8_sends_117 : decode cX8_sends 117 = .ok (.getfield 7, 3) := by decide +kernel
theorem dX8_sends_120 : decode cX8_sends 120 = .ok (.bipush 6, 2) := by decide +kernel
theorem dX8_sends_122 : decode cX8_sends 122 = .ok (.iaload, 1) := by decide +kernel
theorem dX8_sends_123 : decode cX8_sends 123 = .ok (.putfield 105, 3) := by decide +kernel
theorem dX8_sends_126 : decode cX8_sends 126 = .ok (.iconst 0, 1) := by decide +kernel
theorem dX8_sends_127 : decode cX8_sends 127 = .ok (.ireturn, 1) := by decide +kernel
theorem dX8_arrives_0 : decode cX8_arrives 0 = .ok (.aload_n 0, 1) := by decide +kernel
theorem dX8_arrives_1 : decode cX8_arrives 1 = .ok (.iload_n 1, 1) := by decide +kernel
theorem dX8_arrives_2 : decode cX8_arrives 2 = .ok (.iconst 3, 1) := by decide +kernel
theorem dX8_arrives_3 : decode cX8_arrives 3 = .ok (.invokevirtual 37, 3) := by decide +kernel
theorem dX8_arrives_6 : decode cX8_arrives 6 = .ok (.istore_n 2, 1) := by decide +kernel
theorem dX8_arrives_7 : decode cX8_arrives 7 = .ok (.aload_n 0, 1) := by decide +kernel
theorem dX8_arrives_8 : decode cX8_arrives 8 = .ok (.iload_n 1, 1) := by decide +kernel
theorem dX8_arrives_9 : decode cX8_arrives 9 = .ok (.bipush 8, 2) := by decide +kernel
theorem dX8_arrives_11 : decode cX8_arrives 11 = .ok (.invokevirtual 37, 3) := by decide +kernel
theorem dX8_arrives_14 : decode cX8_arrives 14 = .ok (.iconst 1, 1) := by decide +kernel
theorem dX8_arrives_15 : decode cX8_arrives 15 = .ok (.if_icmp .ne 17, 3) := by decide +kernel
theorem dX8_arrives_18 : decode cX8_arrives 18 = .ok (.aload_n 0, 1) := by decide +kernel
theorem dX8_arrives_19 : decode cX8_arrives 19 = .ok (.getfield 7, 3) := by decide +kernel
theorem dX8_arrives_22 : decode cX8_arrives 22 = .ok (.iconst 4, 1) := by decide +kernel
theorem dX8_arrives_23 : decode cX8_arrives 23 = .ok (.iload_n 2, 1) := by decide +kernel
theorem dX8_arrives_24 : decode cX8_arrives 24 = .ok (.iastore, 1) := by decide +kernel
theorem dX8_arrives_25 : decode cX8_arrives 25 = .ok (.aload_n 0, 1) := by decide +kernel
theorem dX8_arrives_26 : decode cX8_arrives 26 = .ok (.getfield 7, 3) := by decide +kernel
theorem dX8_arrives_29 : decode cX8_arrives 29 = .ok (.iconst 5, 1) := by decide +kernel
theorem dX8_arrives_30 : decode cX8_arrives 30 = .ok (.iconst 0, 1) := by decide +kernel
theorem dX8_arrives_31 : decode cX8_arrives 31 = .ok (.iastore, 1) := by decide +kernel
theorem dX8_arrives_32 : decode cX8_arrives 32 = .ok (.aload_n 0, 1) := by decide +kernel
theorem dX8_arrives_33 : decode cX8_arrives 33 = .ok (.iload_n 1, 1) := by decide +kernel
theorem dX8_arrives_34 : decode cX8_arrives 34 = .ok (.iconst 1, 1) := by decide +kernel
theorem dX8_arrives_35 : decode cX8_arrives 35 = .ok (.iload_n 2, 1) := by decide +kernel
theorem dX8_arrives_36 : decode cX8_arrives 36 = .ok (.invokevirtual 76, 3) := by decide +kernel
theorem dX8_arrives_39 : decode cX8_arrives 39 = .ok (.aload_n 0, 1) := by decide +kernel
theorem dX8_arrives_40 : decode cX8_arrives 40 = .ok (.iload_n 1, 1) := by decide +kernel
theorem dX8_arrives_41 : decode cX8_arrives 41 = .ok (.iconst 3, 1) := by decide +kernel
theorem dX8_arrives_42 : decode cX8_arrives 42 = .ok (.iconst (-1), 1) := by decide +kernel
theorem dX8_arrives_43 : decode cX8_arrives 43 = .ok (.invokevirtual 76, 3) := by decide +kernel
theorem dX8_arrives_46 : decode cX8_arrives 46 = .ok (.aload_n 0, 1) := by decide +kernel
theorem dX8_arrives_47 : decode cX8_arrives 47 = .ok (.iload_n 1, 1) := by decide +kernel
theorem dX8_arrives_48 : decode cX8_arrives 48 = .ok (.bipush 8, 2) := by decide +kernel
theorem dX8_arrives_50 : decode cX8_arrives 50 = .ok (.iconst 0, 1) := by decide +kernel
theorem dX8_arrives_51 : decode cX8_arrives 51 = .ok (.invokevirtual 76, 3) := by decide +kernel
theorem dX8_arrives_54 : decode cX8_arrives 54 = .ok (.aload_n 0, 1) := by decide +kernel
theorem dX8_arrives_55 : decode cX8_arrives 55 = .ok (.iload_n 1, 1) := by decide +kernel
theorem dX8_arrives_56 : decode cX8_arrives 56 = .ok (.iconst 2, 1) := by decide +kernel
theorem dX8_arrives_57 : decode cX8_arrives 57 = .ok (.iconst 0, 1) := by decide +kernel
theorem dX8_arrives_58 : decode cX8_arrives 58 = .ok (.invokevirtual 76, 3) := by decide +kernel
theorem dX8_arrives_61 : decode cX8_arrives 61 = .ok (.return_, 1) := by decide +kernel
theorem dX8_hasRigged_0 : decode cX8_hasRigged 0 = .ok (.aload_n 0, 1) := by decide +kernel
theorem dX8_hasRigged_1 : decode cX8_hasRigged 1 = .ok (.iload_n 1, 1) := by decide +kernel
theorem dX8_hasRigged_2 : decode cX8_hasRigged 2 = .ok (.iconst 1, 1) := by decide +kernel
theorem dX8_hasRigged_3 : decode cX8_hasRigged 3 = .ok (.invokevirtual 37, 3) := by decide +kernel
theorem dX8_hasRigged_6 : decode cX8_hasRigged 6 = .ok (.istore_n 2, 1) := by decide +kernel
theorem dX8_hasRigged_7 : decode cX8_hasRigged 7 = .ok (.aload_n 0, 1) := by decide +kernel
theorem dX8_hasRigged_8 : decode cX8_hasRigged 8 = .ok (.getfield 7, 3) := by decide +kernel
theorem dX8_hasRigged_11 : decode cX8_hasRigged 11 = .ok (.bipush 27, 2) := by decide +kernel
theorem dX8_hasRigged_13 : decode cX8_hasRigged 13 = .ok (.iload_n 2, 1) := by decide +kernel
theorem dX8_hasRigged_14 : decode cX8_hasRigged 14 = .ok (.iadd, 1) := by decide +kernel
theorem dX8_hasRigged_15 : decode cX8_hasRigged 15 = .ok (.aload_n 0, 1) := by decide +kernel
theorem dX8_hasRigged_16 : decode cX8_hasRigged 16 = .ok (.iload_n 1, 1) := by decide +kernel
theorem dX8_hasRigged_17 : decode cX8_hasRigged 17 = .ok (.iconst 5, 1) := by decide +kernel
theorem dX8_hasRigged_18 : decode cX8_hasRigged 18 = .ok (.invokevirtual 37, 3) := by decide +kernel
theorem dX8_hasRigged_21 : decode cX8_hasRigged 21 = .ok (.iastore, 1) := by decide +kernel
theorem dX8_hasRigged_22 : decode cX8_hasRigged 22 = .ok (.aload_n 0, 1) := by decide +kernel
theorem dX8_hasRigged_23 : decode cX8_hasRigged 23 = .ok (.iload_n 1, 1) := by decide +kernel
theorem dX8_hasRigged_24 : decode cX8_hasRigged 24 = .ok (.iconst 2, 1) := by decide +kernel
theorem dX8_hasRigged_25 : decode cX8_hasRigged 25 = .ok (.iload_n 2, 1) := by decide +kernel
theorem dX8_hasRigged_26 : decode cX8_hasRigged 26 = .ok (.invokevirtual 128, 3) := by decide +kernel
theorem dX8_hasRigged_29 : decode cX8_hasRigged 29 = .ok (.aload_n 0, 1) := by decide +kernel
theorem dX8_hasRigged_30 : decode cX8_hasRigged 30 = .ok (.iload_n 1, 1) := by decide +kernel
theorem dX8_hasRigged_31 : decode cX8_hasRigged 31 = .ok (.iconst 2, 1) := by decide +kernel
theorem dX8_hasRigged_32 : decode cX8_hasRigged 32 = .ok (.iconst 0, 1) := by decide +kernel
theorem dX8_hasRigged_33 : decode cX8_hasRigged 33 = .ok (.invokevirtual 76, 3) := by decide +kernel
theorem dX8_hasRigged_36 : decode cX8_hasRigged 36 = .ok (.return_, 1) := by decide +kernel
theorem dX8_minuteOf_0 : decode cX8_minuteOf 0 = .ok (.aload_n 0, 1) := by decide +kernel
theorem dX8_minuteOf_1 : decode cX8_minuteOf 1 = .ok (.iload_n 1, 1) := by decide +kernel
theorem dX8_minuteOf_2 : decode cX8_minuteOf 2 = .ok (.iconst 1, 1) := by decide +kernel
theorem dX8_minuteOf_3 : decode cX8_minuteOf 3 = .ok (.invokevirtual 37, 3) := by decide +kernel
theorem dX8_minuteOf_6 : decode cX8_minuteOf 6 = .ok (.istore_n 2, 1) := by decide +kernel
theorem dX8_minuteOf_7 : decode cX8_minuteOf 7 = .ok (.aload_n 0, 1) := by decide +kernel
theorem dX8_minuteOf_8 : decode cX8_minuteOf 8 = .ok (.iload_n 1, 1) := by decide +kernel
theorem dX8_minuteOf_9 : decode cX8_minuteOf 9 = .ok (.invokevirtual 81, 3) := by decide +kernel
theorem dX8_minuteOf_12 : decode cX8_minuteOf 12 = .ok (.ifCond .eq 11, 3) := by decide +kernel
theorem dX8_minuteOf_15 : decode cX8_minuteOf 15 = .ok (.iload_n 2, 1) := by decide +kernel
theorem dX8_minuteOf_16 : decode cX8_minuteOf 16 = .ok (.ifCond .ne 7, 3) := by decide +kernel
theorem dX8_minuteOf_19 : decode cX8_minuteOf 19 = .ok (.iconst 1, 1) := by decide +kernel
theorem dX8_minuteOf_20 : decode cX8_minuteOf 20 = .ok (.goto 4, 3) := by decide +kernel
theorem dX8_minuteOf_23 : decode cX8_minuteOf 23 = .ok (.iconst 0, 1) := by decide +kernel
theorem dX8_minuteOf_24 : decode cX8_minuteOf 24 = .ok (.istore_n 3, 1) := by decide +kernel
theorem dX8_minuteOf_25 : decode cX8_minuteOf 25 = .ok (.aload_n 0, 1) := by decide +kernel
theorem dX8_minuteOf_26 : decode cX8_minuteOf 26 = .ok (.iload_n 1, 1) := by decide +kernel
theorem dX8_minuteOf_27 : decode cX8_minuteOf 27 = .ok (.invokevirtual 81, 3) := by decide +kernel
theorem dX8_minuteOf_30 : decode cX8_minuteOf 30 = .ok (.ifCond .eq 36, 3) := by decide +kernel
theorem dX8_minuteOf_33 : decode cX8_minuteOf 33 = .ok (.iload_n 2, 1) := by decide +kernel
theorem dX8_minuteOf_34 : decode cX8_minuteOf 34 = .ok (.ifCond .le 32, 3) := by decide +kernel
theorem dX8_minuteOf_37 : decode cX8_minuteOf 37 = .ok (.aload_n 0, 1) := by decide +kernel
theorem dX8_minuteOf_38 : decode cX8_minuteOf 38 = .ok (.iload_n 1, 1) := by decide +kernel
theorem dX8_minuteOf_39 : decode cX8_minuteOf 39 = .ok (.iload_n 2, 1) := by decide +kernel
theorem dX8_minuteOf_40 : decode cX8_minuteOf 40 = .ok (.iconst 1, 1) := by decide +kernel
theorem dX8_minuteOf_41 : decode cX8_minuteOf 41 = .ok (.invokevirtual 88, 3) := by decide +kernel
theorem dX8_minuteOf_44 : decode cX8_minuteOf 44 = .ok (.ifCond .ne 22, 3) := by decide +kernel
theorem dX8_minuteOf_47 : decode cX8_minuteOf 47 = .ok (.aload_n 0, 1) := by decide +kernel
theorem dX8_minuteOf_48 : decode cX8_minuteOf 48 = .ok (.iload_n 1, 1) := by decide +kernel
theorem dX8_minuteOf_49 : decode cX8_minuteOf 49 = .ok (.iload_n 2, 1) := by decide +kernel
theorem dX8_minuteOf_50 : decode cX8_minuteOf 50 = .ok (.iconst 1, 1) := by decide +kernel
theorem dX8_minuteOf_51 : decode cX8_minuteOf 51 = .ok (.isub, 1) := by decide +kernel
theorem dX8_minuteOf_52 : decode cX8_minuteOf 52 = .ok (.invokevirtual 98, 3) := by decide +kernel
theorem dX8_minuteOf_55 : decode cX8_minuteOf 55 = .ok (.ifCond .ne 11, 3) := by decide +kernel
theorem dX8_minuteOf_58 : decode cX8_minuteOf 58 = .ok (.aload_n 0, 1) := by decide +kernel
theorem dX8_minuteOf_59 : decode cX8_minuteOf 59 = .ok (.iload_n 1, 1) := by decide +kernel
theorem dX8_minuteOf_60 : decode cX8_minuteOf 60 = .ok (.iload_n 2, 1) := by decide +kernel
theorem dX8_minuteOf_61 : decode cX8_minuteOf 61 = .ok (.iconst 1, 1) := by decide +kernel
theorem dX8_minuteOf_62 : decode cX8_minuteOf 62 = .ok (.isub, 1) := by decide +kernel
theorem dX8_minuteOf_63 : decode cX8_minuteOf 63 = .ok (.invokevirtual 101, 3) := by decide +kernel
theorem dX8_minuteOf_66 : decode cX8_minuteOf 66 = .ok (.aload_n 0, 1) := by decide +kernel
theorem dX8_minuteOf_67 : decode cX8_minuteOf 67 = .ok (.iload_n 1, 1) := by decide +kernel
theorem dX8_minuteOf_68 : decode cX8_minuteOf 68 = .ok (.iconst 2, 1) := by decide +kernel
theorem dX8_minuteOf_69 : decode cX8_minuteOf 69 = .ok (.invokevirtual 37, 3) := by decide +kernel
theorem dX8_minuteOf_72 : decode cX8_minuteOf 72 = .ok (.istore 4, 2) := by decide +kernel
theorem dX8_minuteOf_74 : decode cX8_minuteOf 74 = .ok (.iload 4, 2) := by decide +kernel
theorem dX8_minuteOf_76 : decode cX8_minuteOf 76 = .ok (.ifCond .eq 143, 3) := by decide +kernel
theorem dX8_minuteOf_79 : decode cX8_minuteOf 79 = .ok (.aload_n 0, 1) := by decide +kernel
theorem dX8_minuteOf_80 : decode cX8_minuteOf 80 = .ok (.iload_n 1, 1) := by decide +kernel
theorem dX8_minuteOf_81 : decode cX8_minuteOf 81 = .ok (.iconst 3, 1) := by decide +kernel
theorem dX8_minuteOf_82 : decode cX8_minuteOf 82 = .ok (.invokevirtual 37, 3) := by decide +kernel
theorem dX8_minuteOf_85 : decode cX8_minuteOf 85 = .ok (.iload_n 2, 1) := by decide +kernel
theorem dX8_minuteOf_86 : decode cX8_minuteOf 86 = .ok (.if_icmp .ge 7, 3) := by decide +kernel
theorem dX8_minuteOf_89 : decode cX8_minuteOf 89 = .ok (.iconst 1, 1) := by decide +kernel
theorem dX8_minuteOf_90 : decode cX8_minuteOf 90 = .ok (.goto 4, 3) := by decide +kernel
theorem dX8_minuteOf_93 : decode cX8_minuteOf 93 = .ok (.iconst 0, 1) := by decide +kernel
theorem dX8_minuteOf_94 : decode cX8_minuteOf 94 = .ok (.istore 5, 2) := by decide +kernel
theorem dX8_minuteOf_96 : decode cX8_minuteOf 96 = .ok (.aload_n 0, 1) := by decide +kernel
theorem dX8_minuteOf_97 : decode cX8_minuteOf 97 = .ok (.iload_n 1, 1) := by decide +kernel
theorem dX8_minuteOf_98 : decode cX8_minuteOf 98 = .ok (.bipush 8, 2) := by decide +kernel
theorem dX8_minuteOf_100 : decode cX8_minuteOf 100 = .ok (.invokevirtual 37, 3) := by decide +kernel
theorem dX8_minuteOf_103 : decode cX8_minuteOf 103 = .ok (.iconst 1, 1) := by decide +kernel
theorem dX8_minuteOf_104 : decode cX8_minuteOf 104 = .ok (.if_icmp .eq 22, 3) := by decide +kernel
theorem dX8_minuteOf_107 : decode cX8_minuteOf 107 = .ok (.iload 5, 2) := by decide +kernel
theorem dX8_minuteOf_109 : decode cX8_minuteOf 109 = .ok (.ifCond .eq 21, 3) := by decide +kernel
theorem dX8_minuteOf_112 : decode cX8_minuteOf 112 = .ok (.aload_n 0, 1) := by decide +kernel
theorem dX8_minuteOf_113 : decode cX8_minuteOf 113 = .ok (.getfield 7, 3) := by decide +kernel
theorem dX8_minuteOf_116 : decode cX8_minuteOf 116 = .ok (.bipush 13, 2) := by decide +kernel
theorem dX8_minuteOf_118 : decode cX8_minuteOf 118 = .ok (.iload_n 2, 1) := by decide +kernel
theorem dX8_minuteOf_119 : decode cX8_minuteOf 119 = .ok (.iadd, 1) := by decide +kernel
theorem dX8_minuteOf_120 : decode cX8_minuteOf 120 = .ok (.iconst 1, 1) := by decide +kernel
theorem dX8_minuteOf_121 : decode cX8_minuteOf 121 = .ok (.isub, 1) := by decide +kernel
theorem dX8_minuteOf_122 : decode cX8_minuteOf 122 = .ok (.iaload, 1) := by decide +kernel
theorem dX8_minuteOf_123 : decode cX8_minuteOf 123 = .ok (.ifCond .le 7, 3) := by decide +kernel
theorem dX8_minuteOf_126 : decode cX8_minuteOf 126 = .ok (.iconst 1, 1) := by decide +kernel
theorem dX8_minuteOf_127 : decode cX8_minuteOf 127 = .ok (.goto 4, 3) := by decide +kernel
theorem dX8_minuteOf_130 : decode cX8_minuteOf 130 = .ok (.iconst 0, 1) := by decide +kernel
theorem dX8_minuteOf_131 : decode cX8_minuteOf 131 = .ok (.istore 6, 2) := by decide +kernel
theorem dX8_minuteOf_133 : decode cX8_minuteOf 133 = .ok (.aload_n 0, 1) := by decide +kernel
theorem dX8_minuteOf_134 : decode cX8_minuteOf 134 = .ok (.iload_n 1, 1) := by decide +kernel
theorem dX8_minuteOf_135 : decode cX8_minuteOf 135 = .ok (.iconst 4, 1) := by decide +kernel
theorem dX8_minuteOf_136 : decode cX8_minuteOf 136 = .ok (.aload_n 0, 1) := by decide +kernel
theorem dX8_minuteOf_137 : decode cX8_minuteOf 137 = .ok (.iload_n 1, 1) := by decide +kernel
theorem dX8_minuteOf_138 : decode cX8_minuteOf 138 = .ok (.iconst 4, 1) := by decide +kernel
theorem dX8_minuteOf_139 : decode cX8_minuteOf 139 = .ok (.invokevirtual 37, 3) := by decide +kernel
theorem dX8_minuteOf_142 : decode cX8_minuteOf 142 = .ok (.iconst 1, 1) := by decide +kernel
theorem dX8_minuteOf_143 : decode cX8_minuteOf 143 = .ok (.isub, 1) := by decide +kernel
theorem dX8_minuteOf_144 : decode cX8_minuteOf 144 = .ok (.invokevirtual 76, 3) := by decide +kernel
theorem dX8_minuteOf_147 : decode cX8_minuteOf 147 = .ok (.aload_n 0, 1) := by decide +kernel
theorem dX8_minuteOf_148 : decode cX8_minuteOf 148 = .ok (.iload_n 1, 1) := by decide +kernel
theorem dX8_minuteOf_149 : decode cX8_minuteOf 149 = .ok (.bipush 6, 2) := by decide +kernel
theorem dX8_minuteOf_151 : decode cX8_minuteOf 151 = .ok (.aload_n 0, 1) := by decide +kernel
theorem dX8_minuteOf_152 : decode cX8_minuteOf 152 = .ok (.iload_n 1, 1) := by decide +kernel
theorem dX8_minuteOf_153 : decode cX8_minuteOf 153 = .ok (.bipush 6, 2) := by decide +kernel
theorem dX8_minuteOf_155 : decode cX8_minuteOf 155 = .ok (.invokevirtual 37, 3) := by decide +kernel
theorem dX8_minuteOf_158 : decode cX8_minuteOf 158 = .ok (.iload 4, 2) := by decide +kernel
theorem dX8_minuteOf_160 : decode cX8_minuteOf 160 = .ok (.iconst 2, 1) := by decide +kernel
theorem dX8_minuteOf_161 : decode cX8_minuteOf 161 = .ok (.if_icmp .ne 7, 3) := by decide +kernel
theorem dX8_minuteOf_164 : decode cX8_minuteOf 164 = .ok (.iconst 0, 1) := by decide +kernel
theorem dX8_minuteOf_165 : decode cX8_minuteOf 165 = .ok (.goto 13, 3) := by decide +kernel
theorem dX8_minuteOf_168 : decode cX8_minuteOf 168 = .ok (.iload 6, 2) := by decide +kernel
theorem dX8_minuteOf_170 : decode cX8_minuteOf 170 = .ok (.ifCond .eq 7, 3) := by decide +kernel
theorem dX8_minuteOf_173 : decode cX8_minuteOf 173 = .ok (.iconst 2, 1) := by decide +kernel
theorem dX8_minuteOf_174 : decode cX8_minuteOf 174 = .ok (.goto 4, 3) := by decide +kernel
theorem dX8_minuteOf_177 : decode cX8_minuteOf 177 = .ok (.iconst 1, 1) := by decide +kernel
theorem dX8_minuteOf_178 : decode cX8_minuteOf 178 = .ok (.iadd, 1) := by decide +kernel
theorem dX8_minuteOf_179 : decode cX8_minuteOf 179 = .ok (.invokevirtual 76, 3) := by decide +kernel
theorem dX8_minuteOf_182 : decode cX8_minuteOf 182 = .ok (.aload_n 0, 1) := by decide +kernel
theorem dX8_minuteOf_183 : decode cX8_minuteOf 183 = .ok (.iload_n 1, 1) := by decide +kernel
theorem dX8_minuteOf_184 : decode cX8_minuteOf 184 = .ok (.iconst 4, 1) := by decide +kernel
theorem dX8_minuteOf_185 : decode cX8_minuteOf 185 = .ok (.invokevirtual 37, 3) := by decide +kernel
theorem dX8_minuteOf_188 : decode cX8_minuteOf 188 = .ok (.ifCond .ne 17, 3) := by decide +kernel
theorem dX8_minuteOf_191 : decode cX8_minuteOf 191 = .ok (.iload 4, 2) := by decide +kernel
theorem dX8_minuteOf_193 : decode cX8_minuteOf 193 = .ok (.iconst 1, 1) := by decide +kernel
theorem dX8_minuteOf_194 : decode cX8_minuteOf 194 = .ok (.if_icmp .ne 11, 3) := by decide +kernel
theorem dX8_minuteOf_197 : decode cX8_minuteOf 197 = .ok (.aload_n 0, 1) := by decide +kernel
theorem dX8_minuteOf_198 : decode cX8_minuteOf 198 = .ok (.iload_n 1, 1) := by decide +kernel
theorem dX8_minuteOf_199 : decode cX8_minuteOf 199 = .ok (.invokevirtual 131, 3) := by decide +kernel
theorem dX8_minuteOf_202 : decode cX8_minuteOf 202 = .ok (.goto 17, 3) := by decide +kernel
theorem dX8_minuteOf_205 : decode cX8_minuteOf 205 = .ok (.aload_n 0, 1) := by decide +kernel
theorem dX8_minuteOf_206 : decode cX8_minuteOf 206 = .ok (.iload_n 1, 1) := by decide +kernel
theorem dX8_minuteOf_207 : decode cX8_minuteOf 207 = .ok (.iconst 4, 1) := by decide +kernel
theorem dX8_minuteOf_208 : decode cX8_minuteOf 208 = .ok (.invokevirtual 37, 3) := by decide +kernel
theorem dX8_minuteOf_211 : decode cX8_minuteOf 211 = .ok (.ifCond .ne 8, 3) := by decide +kernel
theorem dX8_minuteOf_214 : decode cX8_minuteOf 214 = .ok (.aload_n 0, 1) := by decide +kernel
theorem dX8_minuteOf_215 : decode cX8_minuteOf 215 = .ok (.iload_n 1, 1) := by decide +kernel
theorem dX8_minuteOf_216 : decode cX8_minuteOf 216 = .ok (.invokevirtual 134, 3) := by decide +kernel
theorem dX8_minuteOf_219 : decode cX8_minuteOf 219 = .ok (.iload_n 3, 1) := by decide +kernel
theorem dX8_minuteOf_220 : decode cX8_minuteOf 220 = .ok (.ifCond .eq 29, 3) := by decide +kernel
theorem dX8_minuteOf_223 : decode cX8_minuteOf 223 = .ok (.aload_n 0, 1) := by decide +kernel
theorem dX8_minuteOf_224 : decode cX8_minuteOf 224 = .ok (.iload_n 1, 1) := by decide +kernel
theorem dX8_minuteOf_225 : decode cX8_minuteOf 225 = .ok (.bipush 6, 2) := by decide +kernel
theorem dX8_minuteOf_227 : decode cX8_minuteOf 227 = .ok (.invokevirtual 37, 3) := by decide +kernel
theorem dX8_minuteOf_230 : decode cX8_minuteOf 230 = .ok (.ifCond .le 19, 3) := by decide +kernel
theorem dX8_minuteOf_233 : decode cX8_minuteOf 233 = .ok (.aload_n 0, 1) := by decide +kernel
theorem dX8_minuteOf_234 : decode cX8_minuteOf 234 = .ok (.iload_n 1, 1) := by decide +kernel
theorem dX8_minuteOf_235 : decode cX8_minuteOf 235 = .ok (.bipush 6, 2) := by decide +kernel
theorem dX8_minuteOf_237 : decode cX8_minuteOf 237 = .ok (.aload_n 0, 1) := by decide +kernel
theorem dX8_minuteOf_238 : decode cX8_minuteOf 238 = .ok (.iload_n 1, 1) := by decide +kernel
theorem dX8_minuteOf_239 : decode cX8_minuteOf 239 = .ok (.bipush 6, 2) := by decide +kernel
theorem dX8_minuteOf_241 : decode cX8_minuteOf 241 = .ok (.invokevirtual 37, 3) := by decide +kernel
theorem dX8_minuteOf_244 : decode cX8_minuteOf 244 = .ok (.iconst 1, 1) := by decide +kernel
theorem dX8_minuteOf_245 : decode cX8_minuteOf 245 = .ok (.isub, 1) := by decide +kernel
theorem dX8_minuteOf_246 : decode cX8_minuteOf 246 = .ok (.invokevirtual 76, 3) := by decide +kernel
theorem dX8_minuteOf_249 : decode cX8_minuteOf 249 = .ok (.aload_n 0, 1) := by decide +kernel
theorem dX8_minuteOf_250 : decode cX8_minuteOf 250 = .ok (.iload_n 1, 1) := by decide +kernel
theorem dX8_minuteOf_251 : decode cX8_minuteOf 251 = .ok (.bipush 7, 2) := by decide +kernel
theorem dX8_minuteOf_253 : decode cX8_minuteOf 253 = .ok (.aload_n 0, 1) := by decide +kernel
theorem dX8_minuteOf_254 : decode cX8_minuteOf 254 = .ok (.iload_n 1, 1) := by decide +kernel
theorem dX8_minuteOf_255 : decode cX8_minuteOf 255 = .ok (.invokevirtual 48, 3) := by decide +kernel
theorem dX8_minuteOf_258 : decode cX8_minuteOf 258 = .ok (.ifCond .eq 15, 3) := by decide +kernel
theorem dX8_minuteOf_261 : decode cX8_minuteOf 261 = .ok (.aload_n 0, 1) := by decide +kernel
theorem dX8_minuteOf_262 : decode cX8_minuteOf 262 = .ok (.iload_n 1, 1) := by decide +kernel
theorem dX8_minuteOf_263 : decode cX8_minuteOf 263 = .ok (.bipush 7, 2) := by decide +kernel
theorem dX8_minuteOf_265 : decode cX8_minuteOf 265 = .ok (.invokevirtual 37, 3) := by decide +kernel
theorem dX8_minuteOf_268 : decode cX8_minuteOf 268 = .ok (.iconst 1, 1) := by decide +kernel
theorem dX8_minuteOf_269 : decode cX8_minuteOf 269 = .ok (.iadd, 1) := by decide +kernel
theorem dX8_minuteOf_270 : decode cX8_minuteOf 270 = .ok (.goto 4, 3) := by decide +kernel
theorem dX8_minuteOf_273 : decode cX8_minuteOf 273 = .ok (.iconst 0, 1) := by decide +kernel
theorem dX8_minuteOf_274 : decode cX8_minuteOf 274 = .ok (.invokevirtual 76, 3) := by decide +kernel
theorem dX8_minuteOf_277 : decode cX8_minuteOf 277 = .ok (.aload_n 0, 1) := by decide +kernel
theorem dX8_minuteOf_278 : decode cX8_minuteOf 278 = .ok (.getfield 7, 3) := by decide +kernel
theorem dX8_minuteOf_281 : decode cX8_minuteOf 281 = .ok (.bipush 11, 2) := by decide +kernel
theorem dX8_minuteOf_283 : decode cX8_minuteOf 283 = .ok (.dup2, 1) := by decide +kernel
theorem dX8_minuteOf_284 : decode cX8_minuteOf 284 = .ok (.iaload, 1) := by decide +kernel
theorem dX8_minuteOf_285 : decode cX8_minuteOf 285 = .ok (.aload_n 0, 1) := by decide +kernel
theorem dX8_minuteOf_286 : decode cX8_minuteOf 286 = .ok (.iload_n 1, 1) := by decide +kernel
theorem dX8_minuteOf_287 : decode cX8_minuteOf 287 = .ok (.bipush 7, 2) := by decide +kernel
theorem dX8_minuteOf_289 : decode cX8_minuteOf 289 = .ok (.invokevirtual 37, 3) := by decide +kernel
theorem dX8_minuteOf_292 : decode cX8_minuteOf 292 = .ok (.aload_n 0, 1) := by decide +kernel
theorem dX8_minuteOf_293 : decode cX8_minuteOf 293 = .ok (.iload_n 1, 1) := by decide +kernel
theorem dX8_minuteOf_294 : decode cX8_minuteOf 294 = .ok (.iconst 0, 1) := by decide +kernel
theorem dX8_minuteOf_295 : decode cX8_minuteOf 295 = .ok (.invokevirtual 37, 3) := by decide +kernel
theorem dX8_minuteOf_298 : decode cX8_minuteOf 298 = .ok (.if_icmp .le 7, 3) := by decide +kernel
theorem dX8_minuteOf_301 : decode cX8_minuteOf 301 = .ok (.iconst 1, 1) := by decide +kernel
theorem dX8_minuteOf_302 : decode cX8_minuteOf 302 = .ok (.goto 4, 3) := by decide +kernel
theorem dX8_minuteOf_305 : decode cX8_minuteOf 305 = .ok (.iconst 0, 1) := by decide +kernel
theorem dX8_minuteOf_306 : decode cX8_minuteOf 306 = .ok (.iadd, 1) := by decide +kernel
theorem dX8_minuteOf_307 : decode cX8_minuteOf 307 = .ok (.iastore, 1) := by decide +kernel
theorem dX8_minuteOf_308 : decode cX8_minuteOf 308 = .ok (.return_, 1) := by decide +kernel
theorem dX8_minute_0 : decode cX8_minute 0 = .ok (.iconst 0, 1) := by decide +kernel
theorem dX8_minute_1 : decode cX8_minute 1 = .ok (.istore_n 1, 1) := by decide +kernel
theorem dX8_minute_2 : decode cX8_minute 2 = .ok (.iload_n 1, 1) := by decide +kernel
theorem dX8_minute_3 : decode cX8_minute 3 = .ok (.aload_n 0, 1) := by decide +kernel
theorem dX8_minute_4 : decode cX8_minute 4 = .ok (.getfield 7, 3) := by decide +kernel
theorem dX8_minute_7 : decode cX8_minute 7 = .ok (.iconst 2, 1) := by decide +kernel
theorem dX8_minute_8 : decode cX8_minute 8 = .ok (.iaload, 1) := by decide +kernel
theorem dX8_minute_9 : decode cX8_minute 9 = .ok (.if_icmp .ge 14, 3) := by decide +kernel
theorem dX8_minute_12 : decode cX8_minute 12 = .ok (.aload_n 0, 1) := by decide +kernel
theorem dX8_minute_13 : decode cX8_minute 13 = .ok (.iload_n 1, 1) := by decide +kernel
theorem dX8_minute_14 : decode cX8_minute 14 = .ok (.invokevirtual 137, 3) := by decide +kernel
theorem dX8_minute_17 : decode cX8_minute 17 = .ok (.iinc 1 1, 3) := by decide +kernel
theorem dX8_minute_20 : decode cX8_minute 20 = .ok (.goto (-18), 3) := by decide +kernel
theorem dX8_minute_23 : decode cX8_minute 23 = .ok (.iconst 0, 1) := by decide +kernel
theorem dX8_minute_24 : decode cX8_minute 24 = .ok (.istore_n 1, 1) := by decide +kernel
theorem dX8_minute_25 : decode cX8_minute 25 = .ok (.aload_n 0, 1) := by decide +kernel
theorem dX8_minute_26 : decode cX8_minute 26 = .ok (.getfield 7, 3) := by decide +kernel
theorem dX8_minute_29 : decode cX8_minute 29 = .ok (.iconst 3, 1) := by decide +kernel
theorem dX8_minute_30 : decode cX8_minute 30 = .ok (.iaload, 1) := by decide +kernel
theorem dX8_minute_31 : decode cX8_minute 31 = .ok (.aload_n 0, 1) := by decide +kernel
theorem dX8_minute_32 : decode cX8_minute 32 = .ok (.getfield 7, 3) := by decide +kernel
theorem dX8_minute_35 : decode cX8_minute 35 = .ok (.bipush 9, 2) := by decide +kernel
theorem dX8_minute_37 : decode cX8_minute 37 = .ok (.iaload, 1) := by decide +kernel
theorem dX8_minute_38 : decode cX8_minute 38 = .ok (.aload_n 0, 1) := by decide +kernel
theorem dX8_minute_39 : decode cX8_minute 39 = .ok (.getfield 7, 3) := by decide +kernel
theorem dX8_minute_42 : decode cX8_minute 42 = .ok (.bipush 10, 2) := by decide +kernel
theorem dX8_minute_44 : decode cX8_minute 44 = .ok (.iaload, 1) := by decide +kernel
theorem dX8_minute_45 : decode cX8_minute 45 = .ok (.iconst 1, 1) := by decide +kernel
theorem dX8_minute_46 : decode cX8_minute 46 = .ok (.isub, 1) := by decide +kernel
theorem dX8_minute_47 : decode cX8_minute 47 = .ok (.invokestatic 54, 3) := by decide +kernel
theorem dX8_minute_50 : decode cX8_minute 50 = .ok (.istore_n 2, 1) := by decide +kernel
theorem dX8_minute_51 : decode cX8_minute 51 = .ok (.aload_n 0, 1) := by decide +kernel
theorem dX8_minute_52 : decode cX8_minute 52 = .ok (.getfield 7, 3) := by decide +kernel
theorem dX8_minute_55 : decode cX8_minute 55 = .ok (.bipush 6, 2) := by decide +kernel
theorem dX8_minute_57 : decode cX8_minute 57 = .ok (.iaload, 1) := by decide +kernel
theorem dX8_minute_58 : decode cX8_minute 58 = .ok (.istore_n 3, 1) := by decide +kernel
theorem dX8_minute_59 : decode cX8_minute 59 = .ok (.iconst 0, 1) := by decide +kernel
theorem dX8_minute_60 : decode cX8_minute 60 = .ok (.istore 4, 2) := by decide +kernel
theorem dX8_minute_62 : decode cX8_minute 62 = .ok (.iconst 0, 1) := by decide +kernel
theorem dX8_minute_63 : decode cX8_minute 63 = .ok (.istore 5, 2) := by decide +kernel
theorem dX8_minute_65 : decode cX8_minute 65 = .ok (.iload 5, 2) := by decide +kernel
theorem dX8_minute_67 : decode cX8_minute 67 = .ok (.iload_n 3, 1) := by decide +kernel
theorem dX8_minute_68 : decode cX8_minute 68 = .ok (.if_icmp .ge 96, 3) := by decide +kernel
theorem dX8_minute_71 : decode cX8_minute 71 = .ok (.iload_n 2, 1) := by decide +kernel
theorem dX8_minute_72 : decode cX8_minute 72 = .ok (.ifCond .ne 92, 3) := by decide +kernel
theorem dX8_minute_75 : decode cX8_minute 75 = .ok (.bipush 112, 2) := by decide +kernel
theorem dX8_minute_77 : decode cX8_minute 77 = .ok (.iconst 3, 1) := by decide +kernel
theorem dX8_minute_78 : decode cX8_minute 78 = .ok (.iload 5, 2) := by decide +kernel
theorem dX8_minute_80 : decode cX8_minute 80 = .ok (.imul, 1) := by decide +kernel
theorem dX8_minute_81 : decode cX8_minute 81 = .ok (.iadd, 1) := by decide +kernel
theorem dX8_minute_82 : decode cX8_minute 82 = .ok (.istore 6, 2) := by decide +kernel
theorem dX8_minute_84 : decode cX8_minute 84 = .ok (.aload_n 0, 1) := by decide +kernel
theorem dX8_minute_85 : decode cX8_minute 85 = .ok (.getfield 7, 3) := by decide +kernel
theorem dX8_minute_88 : decode cX8_minute 88 = .ok (.iload 6, 2) := by decide +kernel
theorem dX8_minute_90 : decode cX8_minute 90 = .ok (.iconst 2, 1) := by decide +kernel
theorem dX8_minute_91 : decode cX8_minute 91 = .ok (.iadd, 1) := by decide +kernel
theorem dX8_minute_92 : decode cX8_minute 92 = .ok (.dup2, 1) := by decide +kernel
theorem dX8_minute_93 : decode cX8_minute 93 = .ok (.iaload, 1) := by decide +kernel
theorem dX8_minute_94 : decode cX8_minute 94 = .ok (.iconst 1, 1) := by decide +kernel
theorem dX8_minute_95 : decode cX8_minute 95 = .ok (.isub, 1) := by decide +kernel
theorem dX8_minute_96 : decode cX8_minute 96 = .ok (.iastore, 1) := by decide +kernel
theorem dX8_minute_97 : decode cX8_minute 97 = .ok (.aload_n 0, 1) := by decide +kernel
theorem dX8_minute_98 : decode cX8_minute 98 = .ok (.getfield 7, 3) := by decide +kernel
theorem dX8_minute_101 : decode cX8_minute 101 = .ok (.iload 6, 2) := by decide +kernel
theorem dX8_minute_103 : decode cX8_minute 103 = .ok (.iconst 2, 1) := by decide +kernel
theorem dX8_minute_104 : decode cX8_minute 104 = .ok (.iadd, 1) := by decide +kernel
theorem dX8_minute_105 : decode cX8_minute 105 = .ok (.iaload, 1) := by decide +kernel
theorem dX8_minute_106 : decode cX8_minute 106 = .ok (.ifCond .ne 9, 3) := by decide +kernel
theorem dX8_minute_109 : decode cX8_minute 109 = .ok (.iinc 1 1, 3) := by decide +kernel
theorem dX8_minute_112 : decode cX8_minute 112 = .ok (.goto 46, 3) := by decide +kernel
theorem dX8_minute_115 : decode cX8_minute 115 = .ok (.iconst 0, 1) := by decide +kernel
theorem dX8_minute_116 : decode cX8_minute 116 = .ok (.istore 7, 2) := by decide +kernel
theorem dX8_minute_118 : decode cX8_minute 118 = .ok (.iload 7, 2) := by decide +kernel
theorem dX8_minute_120 : decode cX8_minute 120 = .ok (.iconst 3, 1) := by decide +kernel
theorem dX8_minute_121 : decode cX8_minute 121 = .ok (.if_icmp .ge 34, 3) := by decide +kernel
theorem dX8_minute_124 : decode cX8_minute 124 = .ok (.aload_n 0, 1) := by decide +kernel
theorem dX8_minute_125 : decode cX8_minute 125 = .ok (.getfield 7, 3) := by decide +kernel
theorem dX8_minute_128 : decode cX8_minute 128 = .ok (.bipush 112, 2) := by decide +kernel
theorem dX8_minute_130 : decode cX8_minute 130 = .ok (.iconst 3, 1) := by decide +kernel
theorem dX8_minute_131 : decode cX8_minute 131 = .ok (.iload 4, 2) := by decide +kernel
theorem dX8_minute_133 : decode cX8_minute 133 = .ok (.imul, 1) := by decide +kernel
theorem dX8_minute_134 : decode cX8_minute 134 = .ok (.iadd, 1) := by decide +kernel
theorem dX8_minute_135 : decode cX8_minute 135 = .ok (.iload 7, 2) := by decide +kernel
theorem dX8_minute_137 : decode cX8_minute 137 = .ok (.iadd, 1) := by decide +kernel
theorem dX8_minute_138 : decode cX8_minute 138 = .ok (.aload_n 0, 1) := by decide +kernel
theorem dX8_minute_139 : decode cX8_minute 139 = .ok (.getfield 7, 3) := by decide +kernel
theorem dX8_minute_142 : decode cX8_minute 142 = .ok (.iload 6, 2) := by decide +kernel
theorem dX8_minute_144 : decode cX8_minute 144 = .ok (.iload 7, 2) := by decide +kernel
theorem dX8_minute_146 : decode cX8_minute 146 = .ok (.iadd, 1) := by decide +kernel
theorem dX8_minute_147 : decode cX8_minute 147 = .ok (.iaload, 1) := by decide +kernel
theorem dX8_minute_148 : decode cX8_minute 148 = .ok (.iastore, 1) := by decide +kernel
theorem dX8_minute_149 : decode cX8_minute 149 = .ok (.iinc 7 1, 3) := by decide +kernel
theorem dX8_minute_152 : decode cX8_minute 152 = .ok (.goto (-34), 3) := by decide +kernel
theorem dX8_minute_155 : decode cX8_minute 155 = .ok (.iinc 4 1, 3) := by decide +kernel
theorem dX8_minute_158 : decode cX8_minute 158 = .ok (.iinc 5 1, 3) := by decide +kernel
theorem dX8_minute_161 : decode cX8_minute 161 = .ok (.goto (-96), 3) := by decide +kernel
theorem dX8_minute_164 : decode cX8_minute 164 = .ok (.aload_n 0, 1) := by decide +kernel
theorem dX8_minute_165 : decode cX8_minute 165 = .ok (.getfield 7, 3) := by decide +kernel
theorem dX8_minute_168 : decode cX8_minute 168 = .ok (.bipush 6, 2) := by decide +kernel
theorem dX8_minute_170 : decode cX8_minute 170 = .ok (.iload_n 2, 1) := by decide +kernel
theorem dX8_minute_171 : decode cX8_minute 171 = .ok (.ifCond .eq 7, 3) := by decide +kernel
theorem dX8_minute_174 : decode cX8_minute 174 = .ok (.iload_n 3, 1) := by decide +kernel
theorem dX8_minute_175 : decode cX8_minute 175 = .ok (.goto 5, 3) := by decide +kernel
theorem dX8_minute_178 : decode cX8_minute 178 = .ok (.iload 4, 2) := by decide +kernel
theorem dX8_minute_180 : decode cX8_minute 180 = .ok (.iastore, 1) := by decide +kernel
theorem dX8_minute_181 : decode cX8_minute 181 = .ok (.aload_n 0, 1) := by decide +kernel
theorem dX8_minute_182 : decode cX8_minute 182 = .ok (.getfield 7, 3) := by decide +kernel
theorem dX8_minute_185 : decode cX8_minute 185 = .ok (.bipush 7, 2) := by decide +kernel
theorem dX8_minute_187 : decode cX8_minute 187 = .ok (.dup2, 1) := by decide +kernel
theorem dX8_minute_188 : decode cX8_minute 188 = .ok (.iaload, 1) := by decide +kernel
theorem dX8_minute_189 : decode cX8_minute 189 = .ok (.iload_n 1, 1) := by decide +kernel
theorem dX8_minute_190 : decode cX8_minute 190 = .ok (.iadd, 1) := by decide +kernel
theorem dX8_minute_191 : decode cX8_minute 191 = .ok (.iastore, 1) := by decide +kernel
theorem dX8_minute_192 : decode cX8_minute 192 = .ok (.aload_n 0, 1) := by decide +kernel
theorem dX8_minute_193 : decode cX8_minute 193 = .ok (.getfield 7, 3) := by decide +kernel
theorem dX8_minute_196 : decode cX8_minute 196 = .ok (.iconst 3, 1) := by decide +kernel
theorem dX8_minute_197 : decode cX8_minute 197 = .ok (.dup2, 1) := by decide +kernel
theorem dX8_minute_198 : decode cX8_minute 198 = .ok (.iaload, 1) := by decide +kernel
theorem dX8_minute_199 : decode cX8_minute 199 = .ok (.iconst 1, 1) := by decide +kernel
theorem dX8_minute_200 : decode cX8_minute 200 = .ok (.iadd, 1) := by decide +kernel
theorem dX8_minute_201 : decode cX8_minute 201 = .ok (.iastore, 1) := by decide +kernel
theorem dX8_minute_202 : decode cX8_minute 202 = .ok (.iload_n 1, 1) := by decide +kernel
theorem dX8_minute_203 : decode cX8_minute 203 = .ok (.ireturn, 1) := by decide +kernel
theorem dX8_passes_0 : decode cX8_passes 0 = .ok (.iload_n 1, 1) := by decide +kernel
theorem dX8_passes_1 : decode cX8_passes 1 = .ok (.iconst 1, 1) := by decide +kernel
theorem dX8_passes_2 : decode cX8_passes 2 = .ok (.sipush 600, 3) := by decide +kernel
theorem dX8_passes_5 : decode cX8_passes 5 = .ok (.invokestatic 54, 3) := by decide +kernel
theorem dX8_passes_8 : decode cX8_passes 8 = .ok (.ifCond .ne 5, 3) := by decide +kernel
theorem dX8_passes_11 : decode cX8_passes 11 = .ok (.iconst 1, 1) := by decide +kernel
theorem dX8_passes_12 : decode cX8_passes 12 = .ok (.ireturn, 1) := by decide +kernel
theorem dX8_passes_13 : decode cX8_passes 13 = .ok (.aload_n 0, 1) := by decide +kernel
theorem dX8_passes_14 : decode cX8_passes 14 = .ok (.getfield 7, 3) := by decide +kernel
theorem dX8_passes_17 : decode cX8_passes 17 = .ok (.iconst 3, 1) := by decide +kernel
theorem dX8_passes_18 : decode cX8_passes 18 = .ok (.iaload, 1) := by decide +kernel
theorem dX8_passes_19 : decode cX8_passes 19 = .ok (.iload_n 1, 1) := by decide +kernel
theorem dX8_passes_20 : decode cX8_passes 20 = .ok (.iadd, 1) := by decide +kernel
theorem dX8_passes_21 : decode cX8_passes 21 = .ok (.ldc 80, 2) := by decide +kernel
theorem dX8_passes_23 : decode cX8_passes 23 = .ok (.if_icmp .le 5, 3) := by decide +kernel
theorem dX8_passes_26 : decode cX8_passes 26 = .ok (.iconst 2, 1) := by decide +kernel
theorem dX8_passes_27 : decode cX8_passes 27 = .ok (.ireturn, 1) := by decide +kernel
theorem dX8_passes_28 : decode cX8_passes 28 = .ok (.aload_n 0, 1) := by decide +kernel
theorem dX8_passes_29 : decode cX8_passes 29 = .ok (.iconst 0, 1) := by decide +kernel
theorem dX8_passes_30 : decode cX8_passes 30 = .ok (.putfield 105, 3) := by decide +kernel
theorem dX8_passes_33 : decode cX8_passes 33 = .ok (.iconst 0, 1) := by decide +kernel
theorem dX8_passes_34 : decode cX8_passes 34 = .ok (.istore_n 2, 1) := by decide +kernel
theorem dX8_passes_35 : decode cX8_passes 35 = .ok (.iload_n 2, 1) := by decide +kernel
theorem dX8_passes_36 : decode cX8_passes 36 = .ok (.iload_n 1, 1) := by decide +kernel
theorem dX8_passes_37 : decode cX8_passes 37 = .ok (.if_icmp .ge 22, 3) := by decide +kernel
theorem dX8_passes_40 : decode cX8_passes 40 = .ok (.aload_n 0, 1) := by decide +kernel
theorem dX8_passes_41 : decode cX8_passes 41 = .ok (.dup, 1) := by decide +kernel
theorem dX8_passes_42 : decode cX8_passes 42 = .ok (.getfield 105, 3) := by decide +kernel
theorem dX8_passes_45 : decode cX8_passes 45 = .ok (.aload_n 0, 1) := by decide +kernel
theorem dX8_passes_46 : decode cX8_passes 46 = .ok (.invokevirtual 140, 3) := by decide +kernel
theorem dX8_passes_49 : decode cX8_passes 49 = .ok (.iadd, 1) := by decide +kernel
theorem dX8_passes_50 : decode cX8_passes 50 = .ok (.putfield 105, 3) := by decide +kernel
theorem dX8_passes_53 : decode cX8_passes 53 = .ok (.iinc 2 1, 3) := by decide +kernel
theorem dX8_passes_56 : decode cX8_passes 56 = .ok (.goto (-21), 3) := by decide +kernel
theorem dX8_passes_59 : decode cX8_passes 59 = .ok (.iconst 0, 1) := by decide +kernel
theorem dX8_passes_60 : decode cX8_passes 60 = .ok (.ireturn, 1) := by decide +kernel
theorem dX8_done_0 : decode cX8_done 0 = .ok (.iload_n 1, 1) := by decide +kernel
theorem dX8_done_1 : decode cX8_done 1 = .ok (.ifCond .le 11, 3) := by decide +kernel
theorem dX8_done_4 : decode cX8_done 4 = .ok (.aload_n 0, 1) := by decide +kernel
theorem dX8_done_5 : decode cX8_done 5 = .ok (.iload_n 1, 1) := by decide +kernel
theorem dX8_done_6 : decode cX8_done 6 = .ok (.invokevirtual 58, 3) := by decide +kernel
theorem dX8_done_9 : decode cX8_done 9 = .ok (.goto 11, 3) := by decide +kernel
theorem dX8_done_12 : decode cX8_done 12 = .ok (.aload_n 0, 1) := by decide +kernel
theorem dX8_done_13 : decode cX8_done 13 = .ok (.aload_n 0, 1) := by decide +kernel
theorem dX8_done_14 : decode cX8_done 14 = .ok (.getfield 105, 3) := by decide +kernel
theorem dX8_done_17 : decode cX8_done 17 = .ok (.invokevirtual 64, 3) := by decide +kernel
theorem dX8_done_20 : decode cX8_done 20 = .ok (.ireturn, 1) := by decide +kernel
theorem dX8_go_0 : decode cX8_go 0 = .ok (.aload_n 0, 1) := by decide +kernel
theorem dX8_go_1 : decode cX8_go 1 = .ok (.invokevirtual 61, 3) := by decide +kernel
theorem dX8_go_4 : decode cX8_go 4 = .ok (.aload_n 0, 1) := by decide +kernel
theorem dX8_go_5 : decode cX8_go 5 = .ok (.aload_n 0, 1) := by decide +kernel
theorem dX8_go_6 : decode cX8_go 6 = .ok (.iload_n 1, 1) := by decide +kernel
theorem dX8_go_7 : decode cX8_go 7 = .ok (.iload_n 2, 1) := by decide +kernel
theorem dX8_go_8 : decode cX8_go 8 = .ok (.invokevirtual 144, 3) := by decide +kernel
theorem dX8_go_11 : decode cX8_go 11 = .ok (.invokevirtual 147, 3) := by decide +kernel
theorem dX8_go_14 : decode cX8_go 14 = .ok (.ireturn, 1) := by decide +kernel
theorem dX8_take_0 : decode cX8_take 0 = .ok (.aload_n 0, 1) := by decide +kernel
theorem dX8_take_1 : decode cX8_take 1 = .ok (.invokevirtual 61, 3) := by decide +kernel
theorem dX8_take_4 : decode cX8_take 4 = .ok (.aload_n 0, 1) := by decide +kernel
theorem dX8_take_5 : decode cX8_take 5 = .ok (.aload_n 0, 1) := by decide +kernel
theorem dX8_take_6 : decode cX8_take 6 = .ok (.iload_n 1, 1) := by decide +kernel
theorem dX8_take_7 : decode cX8_take 7 = .ok (.iload_n 2, 1) := by decide +kernel
theorem dX8_take_8 : decode cX8_take 8 = .ok (.invokevirtual 150, 3) := by decide +kernel
theorem dX8_take_11 : decode cX8_take 11 = .ok (.invokevirtual 147, 3) := by decide +kernel
theorem dX8_take_14 : decode cX8_take 14 = .ok (.ireturn, 1) := by decide +kernel
theorem dX8_lay_0 : decode cX8_lay 0 = .ok (.aload_n 0, 1) := by decide +kernel
theorem dX8_lay_1 : decode cX8_lay 1 = .ok (.iload_n 1, 1) := by decide +kernel
theorem dX8_lay_2 : decode cX8_lay 2 = .ok (.invokevirtual 95, 3) := by decide +kernel
theorem dX8_lay_5 : decode cX8_lay 5 = .ok (.ifCond .ne 9, 3) := by decide +kernel
theorem dX8_lay_8 : decode cX8_lay 8 = .ok (.aload_n 0, 1) := by decide +kernel
theorem dX8_lay_9 : decode cX8_lay 9 = .ok (.iconst 1, 1) := by decide +kernel
theorem dX8_lay_10 : decode cX8_lay 10 = .ok (.invokevirtual 58, 3) := by decide +kernel
theorem dX8_lay_13 : decode cX8_lay 13 = .ok (.ireturn, 1) := by decide +kernel
theorem dX8_lay_14 : decode cX8_lay 14 = .ok (.aload_n 0, 1) := by decide +kernel
theorem dX8_lay_15 : decode cX8_lay 15 = .ok (.iload_n 1, 1) := by decide +kernel
theorem dX8_lay_16 : decode cX8_lay 16 = .ok (.iconst 5, 1) := by decide +kernel
theorem dX8_lay_17 : decode cX8_lay 17 = .ok (.invokevirtual 37, 3) := by decide +kernel
theorem dX8_lay_20 : decode cX8_lay 20 = .ok (.istore_n 2, 1) := by decide +kernel
theorem dX8_lay_21 : decode cX8_lay 21 = .ok (.aload_n 0, 1) := by decide +kernel
theorem dX8_lay_22 : decode cX8_lay 22 = .ok (.iload_n 1, 1) := by decide +kernel
theorem dX8_lay_23 : decode cX8_lay 23 = .ok (.invokevirtual 81, 3) := by decide +kernel
theorem dX8_lay_26 : decode cX8_lay 26 = .ok (.ifCond .eq 8, 3) := by decide +kernel
theorem dX8_lay_29 : decode cX8_lay 29 = .ok (.iload_n 2, 1) := by decide +kernel
theorem dX8_lay_30 : decode cX8_lay 30 = .ok (.iconst (-1), 1) := by decide +kernel
theorem dX8_lay_31 : decode cX8_lay 31 = .ok (.if_icmp .ne 9, 3) := by decide +kernel
theorem dX8_lay_34 : decode cX8_lay 34 = .ok (.aload_n 0, 1) := by decide +kernel
theorem dX8_lay_35 : decode cX8_lay 35 = .ok (.iconst 2, 1) := by decide +kernel
theorem dX8_lay_36 : decode cX8_lay 36 = .ok (.invokevirtual 58, 3) := by decide +kernel
theorem dX8_lay_39 : decode cX8_lay 39 = .ok (.ireturn, 1) := by decide +kernel
theorem dX8_lay_40 : decode cX8_lay 40 = .ok (.aload_n 0, 1) := by decide +kernel
theorem dX8_lay_41 : decode cX8_lay 41 = .ok (.invokevirtual 61, 3) := by decide +kernel
theorem dX8_lay_44 : decode cX8_lay 44 = .ok (.aload_n 0, 1) := by decide +kernel
theorem dX8_lay_45 : decode cX8_lay 45 = .ok (.iload_n 1, 1) := by decide +kernel
theorem dX8_lay_46 : decode cX8_lay 46 = .ok (.iconst 0, 1) := by decide +kernel
theorem dX8_lay_47 : decode cX8_lay 47 = .ok (.aload_n 0, 1) := by decide +kernel
theorem dX8_lay_48 : decode cX8_lay 48 = .ok (.iload_n 1, 1) := by decide +kernel
theorem dX8_lay_49 : decode cX8_lay 49 = .ok (.iconst 1, 1) := by decide +kernel
theorem dX8_lay_50 : decode cX8_lay 50 = .ok (.invokevirtual 37, 3) := by decide +kernel
theorem dX8_lay_53 : decode cX8_lay 53 = .ok (.invokevirtual 128, 3) := by decide +kernel
theorem dX8_lay_56 : decode cX8_lay 56 = .ok (.aload_n 0, 1) := by decide +kernel
theorem dX8_lay_57 : decode cX8_lay 57 = .ok (.iload_n 2, 1) := by decide +kernel
theorem dX8_lay_58 : decode cX8_lay 58 = .ok (.invokevirtual 64, 3) := by decide +kernel
theorem dX8_lay_61 : decode cX8_lay 61 = .ok (.ireturn, 1) := by decide +kernel
theorem dX8_rig_0 : decode cX8_rig 0 = .ok (.aload_n 0, 1) := by decide +kernel
theorem dX8_rig_1 : decode cX8_rig 1 = .ok (.invokevirtual 61, 3) := by decide +kernel
theorem dX8_rig_4 : decode cX8_rig 4 = .ok (.aload_n 0, 1) := by decide +kernel
theorem dX8_rig_5 : decode cX8_rig 5 = .ok (.aload_n 0, 1) := by decide +kernel
theorem dX8_rig_6 : decode cX8_rig 6 = .ok (.iload_n 1, 1) := by decide +kernel
theorem dX8_rig_7 : decode cX8_rig 7 = .ok (.invokevirtual 153, 3) := by decide +kernel
theorem dX8_rig_10 : decode cX8_rig 10 = .ok (.invokevirtual 147, 3) := by decide +kernel
theorem dX8_rig_13 : decode cX8_rig 13 = .ok (.ireturn, 1) := by decide +kernel
theorem dX8_takeOff_0 : decode cX8_takeOff 0 = .ok (.aload_n 0, 1) := by decide +kernel
theorem dX8_takeOff_1 : decode cX8_takeOff 1 = .ok (.iload_n 1, 1) := by decide +kernel
theorem dX8_takeOff_2 : decode cX8_takeOff 2 = .ok (.invokevirtual 95, 3) := by decide +kernel
theorem dX8_takeOff_5 : decode cX8_takeOff 5 = .ok (.ifCond .ne 9, 3) := by decide +kernel
theorem dX8_takeOff_8 : decode cX8_takeOff 8 = .ok (.aload_n 0, 1) := by decide +kernel
theorem dX8_takeOff_9 : decode cX8_takeOff 9 = .ok (.iconst 1, 1) := by decide +kernel
theorem dX8_takeOff_10 : decode cX8_takeOff 10 = .ok (.invokevirtual 58, 3) := by decide +kernel
theorem dX8_takeOff_13 : decode cX8_takeOff 13 = .ok (.ireturn, 1) := by decide +kernel
theorem dX8_takeOff_14 : decode cX8_takeOff 14 = .ok (.aload_n 0, 1) := by decide +kernel
theorem dX8_takeOff_15 : decode cX8_takeOff 15 = .ok (.iload_n 1, 1) := by decide +kernel
theorem dX8_takeOff_16 : decode cX8_takeOff 16 = .ok (.iconst 1, 1) := by decide +kernel
theorem dX8_takeOff_17 : decode cX8_takeOff 17 = .ok (.invokevirtual 37, 3) := by decide +kernel
theorem dX8_takeOff_20 : decode cX8_takeOff 20 = .ok (.istore_n 2, 1) := by decide +kernel
theorem dX8_takeOff_21 : decode cX8_takeOff 21 = .ok (.aload_n 0, 1) := by decide +kernel
theorem dX8_takeOff_22 : decode cX8_takeOff 22 = .ok (.iload_n 1, 1) := by decide +kernel
theorem dX8_takeOff_23 : decode cX8_takeOff 23 = .ok (.invokevirtual 81, 3) := by decide +kernel
theorem dX8_takeOff_26 : decode cX8_takeOff 26 = .ok (.ifCond .eq 42, 3) := by decide +kernel
theorem dX8_takeOff_29 : decode cX8_takeOff 29 = .ok (.aload_n 0, 1) := by decide +kernel
theorem dX8_takeOff_30 : decode cX8_takeOff 30 = .ok (.iload_n 1, 1) := by decide +kernel
theorem dX8_takeOff_31 : decode cX8_takeOff 31 = .ok (.iconst 5, 1) := by decide +kernel
theorem dX8_takeOff_32 : decode cX8_takeOff 32 = .ok (.invokevirtual 37, 3) := by decide +kernel
theorem dX8_takeOff_35 : decode cX8_takeOff 35 = .ok (.iconst (-1), 1) := by decide +kernel
theorem dX8_takeOff_36 : decode cX8_takeOff 36 = .ok (.if_icmp .ne 32, 3) := by decide +kernel
theorem dX8_takeOff_39 : decode cX8_takeOff 39 = .ok (.aload_n 0, 1) := by decide +kernel
theorem dX8_takeOff_40 : decode cX8_takeOff 40 = .ok (.iload_n 2, 1) := by decide +kernel
theorem dX8_takeOff_41 : decode cX8_takeOff 41 = .ok (.invokevirtual 67, 3) := by decide +kernel
theorem dX8_takeOff_44 : decode cX8_takeOff 44 = .ok (.ifCond .eq 24, 3) := by decide +kernel
theorem dX8_takeOff_47 : decode cX8_takeOff 47 = .ok (.aload_n 0, 1) := by decide +kernel
theorem dX8_takeOff_48 : decode cX8_takeOff 48 = .ok (.getfield 7, 3) := by decide +kernel
theorem dX8_takeOff_51 : decode cX8_takeOff 51 = .ok (.bipush 27, 2) := by decide +kernel
theorem dX8_takeOff_53 : decode cX8_takeOff 53 = .ok (.iload_n 2, 1) := by decide +kernel
theorem dX8_takeOff_54 : decode cX8_takeOff 54 = .ok (.iadd, 1) := by decide +kernel
theorem dX8_takeOff_55 : decode cX8_takeOff 55 = .ok (.iaload, 1) := by decide +kernel
theorem dX8_takeOff_56 : decode cX8_takeOff 56 = .ok (.iconst (-1), 1) := by decide +kernel
theorem dX8_takeOff_57 : decode cX8_takeOff 57 = .ok (.if_icmp .eq 11, 3) := by decide +kernel
theorem dX8_takeOff_60 : decode cX8_takeOff 60 = .ok (.aload_n 0, 1) := by decide +kernel
theorem dX8_takeOff_61 : decode cX8_takeOff 61 = .ok (.iload_n 2, 1) := by decide +kernel
theorem dX8_takeOff_62 : decode cX8_takeOff 62 = .ok (.invokevirtual 73, 3) := by decide +kernel
theorem dX8_takeOff_65 : decode cX8_takeOff 65 = .ok (.ifCond .le 9, 3) := by decide +kernel
theorem dX8_takeOff_68 : decode cX8_takeOff 68 = .ok (.aload_n 0, 1) := by decide +kernel
theorem dX8_takeOff_69 : decode cX8_takeOff 69 = .ok (.iconst 2, 1) := by decide +kernel
theorem dX8_takeOff_70 : decode cX8_takeOff 70 = .ok (.invokevirtual 58, 3) := by decide +kernel
theorem dX8_takeOff_73 : decode cX8_takeOff 73 = .ok (.ireturn, 1) := by decide +kernel
theorem dX8_takeOff_74 : decode cX8_takeOff 74 = .ok (.aload_n 0, 1) := by decide +kernel
theorem dX8_takeOff_75 : decode cX8_takeOff 75 = .ok (.invokevirtual 61, 3) := by decide +kernel
theorem dX8_takeOff_78 : decode cX8_takeOff 78 = .ok (.aload_n 0, 1) := by decide +kernel
theorem dX8_takeOff_79 : decode cX8_takeOff 79 = .ok (.getfield 7, 3) := by decide +kernel
theorem dX8_takeOff_82 : decode cX8_takeOff 82 = .ok (.bipush 27, 2) := by decide +kernel
theorem dX8_takeOff_84 : decode cX8_takeOff 84 = .ok (.iload_n 2, 1) := by decide +kernel
theorem dX8_takeOff_85 : decode cX8_takeOff 85 = .ok (.iadd, 1) := by decide +kernel
theorem dX8_takeOff_86 : decode cX8_takeOff 86 = .ok (.iaload, 1) := by decide +kernel
theorem dX8_takeOff_87 : decode cX8_takeOff 87 = .ok (.istore_n 3, 1) := by decide +kernel
theorem dX8_takeOff_88 : decode cX8_takeOff 88 = .ok (.aload_n 0, 1) := by decide +kernel
theorem dX8_takeOff_89 : decode cX8_takeOff 89 = .ok (.getfield 7, 3) := by decide +kernel
theorem dX8_takeOff_92 : decode cX8_takeOff 92 = .ok (.bipush 27, 2) := by decide +kernel
theorem dX8_takeOff_94 : decode cX8_takeOff 94 = .ok (.iload_n 2, 1) := by decide +kernel
theorem dX8_takeOff_95 : decode cX8_takeOff 95 = .ok (.iadd, 1) := by decide +kernel
theorem dX8_takeOff_96 : decode cX8_takeOff 96 = .ok (.iconst (-1), 1) := by decide +kernel
theorem dX8_takeOff_97 : decode cX8_takeOff 97 = .ok (.iastore, 1) := by decide +kernel
theorem dX8_takeOff_98 : decode cX8_takeOff 98 = .ok (.aload_n 0, 1) := by decide +kernel
theorem dX8_takeOff_99 : decode cX8_takeOff 99 = .ok (.iload_n 3, 1) := by decide +kernel
theorem dX8_takeOff_100 : decode cX8_takeOff 100 = .ok (.iload_n 1, 1) := by decide +kernel
theorem dX8_takeOff_101 : decode cX8_takeOff 101 = .ok (.invokevirtual 111, 3) := by decide +kernel
theorem dX8_takeOff_104 : decode cX8_takeOff 104 = .ok (.aload_n 0, 1) := by decide +kernel
theorem dX8_takeOff_105 : decode cX8_takeOff 105 = .ok (.iload_n 3, 1) := by decide +kernel
theorem dX8_takeOff_106 : decode cX8_takeOff 106 = .ok (.invokevirtual 64, 3) := by decide +kernel
theorem dX8_takeOff_109 : decode cX8_takeOff 109 = .ok (.ireturn, 1) := by decide +kernel
theorem dX8_carry_0 : decode cX8_carry 0 = .ok (.aload_n 0, 1) := by decide +kernel
theorem dX8_carry_1 : decode cX8_carry 1 = .ok (.invokevirtual 61, 3) := by decide +kernel
theorem dX8_carry_4 : decode cX8_carry 4 = .ok (.aload_n 0, 1) := by decide +kernel
theorem dX8_carry_5 : decode cX8_carry 5 = .ok (.aload_n 0, 1) := by decide +kernel
theorem dX8_carry_6 : decode cX8_carry 6 = .ok (.iload_n 1, 1) := by decide +kernel
theorem dX8_carry_7 : decode cX8_carry 7 = .ok (.invokevirtual 156, 3) := by decide +kernel
theorem dX8_carry_10 : decode cX8_carry 10 = .ok (.invokevirtual 147, 3) := by decide +kernel
theorem dX8_carry_13 : decode cX8_carry 13 = .ok (.ireturn, 1) := by decide +kernel
theorem dX8_send_0 : decode cX8_send 0 = .ok (.aload_n 0, 1) := by decide +kernel
theorem dX8_send_1 : decode cX8_send 1 = .ok (.invokevirtual 61, 3) := by decide +kernel
theorem dX8_send_4 : decode cX8_send 4 = .ok (.aload_n 0, 1) := by decide +kernel
theorem dX8_send_5 : decode cX8_send 5 = .ok (.aload_n 0, 1) := by decide +kernel
theorem dX8_send_6 : decode cX8_send 6 = .ok (.iload_n 1, 1) := by decide +kernel
theorem dX8_send_7 : decode cX8_send 7 = .ok (.invokevirtual 159, 3) := by decide +kernel
theorem dX8_send_10 : decode cX8_send 10 = .ok (.invokevirtual 147, 3) := by decide +kernel
theorem dX8_send_13 : decode cX8_send 13 = .ok (.ireturn, 1) := by decide +kernel
theorem dX8_pass_0 : decode cX8_pass 0 = .ok (.aload_n 0, 1) := by decide +kernel
theorem dX8_pass_1 : decode cX8_pass 1 = .ok (.invokevirtual 61, 3) := by decide +kernel
theorem dX8_pass_4 : decode cX8_pass 4 = .ok (.aload_n 0, 1) := by decide +kernel
theorem dX8_pass_5 : decode cX8_pass 5 = .ok (.aload_n 0, 1) := by decide +kernel
theorem dX8_pass_6 : decode cX8_pass 6 = .ok (.iload_n 1, 1) := by decide +kernel
theorem dX8_pass_7 : decode cX8_pass 7 = .ok (.invokevirtual 162, 3) := by decide +kernel
theorem dX8_pass_10 : decode cX8_pass 10 = .ok (.invokevirtual 147, 3) := by decide +kernel
theorem dX8_pass_13 : decode cX8_pass 13 = .ok (.ireturn, 1) := by decide +kernel
theorem dX8_passageFact_0 : decode cX8_passageFact 0 = .ok (.iload_n 2, 1) := by decide +kernel
theorem dX8_passageFact_1 : decode cX8_passageFact 1 = .ok (.tableswitch 67 0 3 #[31, 41, 51, 61], 31) := by decide +kernel
theorem dX8_passageFact_32 : decode cX8_passageFact 32 = .ok (.aload_n 0, 1) := by decide +kernel
theorem dX8_passageFact_33 : decode cX8_passageFact 33 = .ok (.getfield 7, 3) := by decide +kernel
theorem dX8_passageFact_36 : decode cX8_passageFact 36 = .ok (.bipush 13, 2) := by decide +kernel
theorem dX8_passageFact_38 : decode cX8_passageFact 38 = .ok (.iload_n 1, 1) := by decide +kernel
theorem dX8_passageFact_39 : decode cX8_passageFact 39 = .ok (.iadd, 1) := by decide +kernel
theorem dX8_passageFact_40 : decode cX8_passageFact 40 = .ok (.iaload, 1) := by decide +kernel
theorem dX8_passageFact_41 : decode cX8_passageFact 41 = .ok (.ireturn, 1) := by decide +kernel
theorem dX8_passageFact_42 : decode cX8_passageFact 42 = .ok (.aload_n 0, 1) := by decide +kernel
theorem dX8_passageFact_43 : decode cX8_passageFact 43 = .ok (.getfield 7, 3) := by decide +kernel
theorem dX8_passageFact_46 : decode cX8_passageFact 46 = .ok (.bipush 20, 2) := by decide +kernel
theorem dX8_passageFact_48 : decode cX8_passageFact 48 = .ok (.iload_n 1, 1) := by decide +kernel
theorem dX8_passageFact_49 : decode cX8_passageFact 49 = .ok (.iadd, 1) := by decide +kernel
theorem dX8_passageFact_50 : decode cX8_passageFact 50 = .ok (.iaload, 1) := by decide +kernel
theorem dX8_passageFact_51 : decode cX8_passageFact 51 = .ok (.ireturn, 1) := by decide +kernel
theorem dX8_passageFact_52 : decode cX8_passageFact 52 = .ok (.aload_n 0, 1) := by decide +kernel
theorem dX8_passageFact_53 : decode cX8_passageFact 53 = .ok (.getfield 7, 3) := by decide +kernel
theorem dX8_passageFact_56 : decode cX8_passageFact 56 = .ok (.bipush 27, 2) := by decide +kernel
theorem dX8_passageFact_58 : decode cX8_passageFact 58 = .ok (.iload_n 1, 1) := by decide +kernel
theorem dX8_passageFact_59 : decode cX8_passageFact 59 = .ok (.iadd, 1) := by decide +kernel
theorem dX8_passageFact_60 : decode cX8_passageFact 60 = .ok (.iaload, 1) := by decide +kernel
theorem dX8_passageFact_61 : decode cX8_passageFact 61 = .ok (.ireturn, 1) := by decide +kernel
theorem dX8_passageFact_62 : decode cX8_passageFact 62 = .ok (.aload_n 0, 1) := by decide +kernel
theorem dX8_passageFact_63 : decode cX8_passageFact 63 = .ok (.iload_n 1, 1) := by decide +kernel
theorem dX8_passageFact_64 : decode cX8_passageFact 64 = .ok (.invokevirtual 73, 3) := by decide +kernel
theorem dX8_passageFact_67 : decode cX8_passageFact 67 = .ok (.ireturn, 1) := by decide +kernel
theorem dX8_passageFact_68 : decode cX8_passageFact 68 = .ok (.aload_n 0, 1) := by decide +kernel
theorem dX8_passageFact_69 : decode cX8_passageFact 69 = .ok (.iload_n 1, 1) := by decide +kernel
theorem dX8_passageFact_70 : decode cX8_passageFact 70 = .ok (.invokevirtual 70, 3) := by decide +kernel
theorem dX8_passageFact_73 : decode cX8_passageFact 73 = .ok (.ireturn, 1) := by decide +kernel
theorem dX8_passage_0 : decode cX8_passage 0 = .ok (.aload_n 0, 1) := by decide +kernel
theorem dX8_passage_1 : decode cX8_passage 1 = .ok (.iload_n 1, 1) := by decide +kernel
theorem dX8_passage_2 : decode cX8_passage 2 = .ok (.invokevirtual 67, 3) := by decide +kernel
theorem dX8_passage_5 : decode cX8_passage 5 = .ok (.ifCond .ne 9, 3) := by decide +kernel
theorem dX8_passage_8 : decode cX8_passage 8 = .ok (.aload_n 0, 1) := by decide +kernel
theorem dX8_passage_9 : decode cX8_passage 9 = .ok (.iconst 1, 1) := by decide +kernel
theorem dX8_passage_10 : decode cX8_passage 10 = .ok (.invokevirtual 58, 3) := by decide +kernel
theorem dX8_passage_13 : decode cX8_passage 13 = .ok (.ireturn, 1) := by decide +kernel
theorem dX8_passage_14 : decode cX8_passage 14 = .ok (.iload_n 2, 1) := by decide +kernel
theorem dX8_passage_15 : decode cX8_passage 15 = .ok (.iconst 0, 1) := by decide +kernel
theorem dX8_passage_16 : decode cX8_passage 16 = .ok (.iconst 4, 1) := by decide +kernel
theorem dX8_passage_17 : decode cX8_passage 17 = .ok (.invokestatic 54, 3) := by decide +kernel
theorem dX8_passage_20 : decode cX8_passage 20 = .ok (.ifCond .eq 16, 3) := by decide +kernel
theorem dX8_passage_23 : decode cX8_passage 23 = .ok (.aload_n 0, 1) := by decide +kernel
theorem dX8_passage_24 : decode cX8_passage 24 = .ok (.aload_n 0, 1) := by decide +kernel
theorem dX8_passage_25 : decode cX8_passage 25 = .ok (.iload_n 1, 1) := by decide +kernel
theorem dX8_passage_26 : decode cX8_passage 26 = .ok (.iload_n 2, 1) := by decide +kernel
theorem dX8_passage_27 : decode cX8_passage 27 = .ok (.invokevirtual 165, 3) := by decide +kernel
theorem dX8_passage_30 : decode cX8_passage 30 = .ok (.invokevirtual 33, 3) := by decide +kernel
theorem dX8_passage_33 : decode cX8_passage 33 = .ok (.goto 8, 3) := by decide +kernel
theorem dX8_passage_36 : decode cX8_passage 36 = .ok (.aload_n 0, 1) := by decide +kernel
theorem dX8_passage_37 : decode cX8_passage 37 = .ok (.iconst 2, 1) := by decide +kernel
theorem dX8_passage_38 : decode cX8_passage 38 = .ok (.invokevirtual 58, 3) := by decide +kernel
theorem dX8_passage_41 : decode cX8_passage 41 = .ok (.ireturn, 1) := by decide +kernel
theorem dX8_rope_0 : decode cX8_rope 0 = .ok (.aload_n 0, 1) := by decide +kernel
theorem dX8_rope_1 : decode cX8_rope 1 = .ok (.iload_n 1, 1) := by decide +kernel
theorem dX8_rope_2 : decode cX8_rope 2 = .ok (.invokevirtual 108, 3) := by decide +kernel
theorem dX8_rope_5 : decode cX8_rope 5 = .ok (.ifCond .ne 9, 3) := by decide +kernel
theorem dX8_rope_8 : decode cX8_rope 8 = .ok (.aload_n 0, 1) := by decide +kernel
theorem dX8_rope_9 : decode cX8_rope 9 = .ok (.iconst 1, 1) := by decide +kernel
theorem dX8_rope_10 : decode cX8_rope 10 = .ok (.invokevirtual 58, 3) := by decide +kernel
theorem dX8_rope_13 : decode cX8_rope 13 = .ok (.ireturn, 1) := by decide +kernel
theorem dX8_rope_14 : decode cX8_rope 14 = .ok (.iload_n 2, 1) := by decide +kernel
theorem dX8_rope_15 : decode cX8_rope 15 = .ok (.iconst 0, 1) := by decide +kernel
theorem dX8_rope_16 : decode cX8_rope 16 = .ok (.iconst 2, 1) := by decide +kernel
theorem dX8_rope_17 : decode cX8_rope 17 = .ok (.invokestatic 54, 3) := by decide +kernel
theorem dX8_rope_20 : decode cX8_rope 20 = .ok (.ifCond .eq 23, 3) := by decide +kernel
theorem dX8_rope_23 : decode cX8_rope 23 = .ok (.aload_n 0, 1) := by decide +kernel
theorem dX8_rope_24 : decode cX8_rope 24 = .ok (.aload_n 0, 1) := by decide +kernel
theorem dX8_rope_25 : decode cX8_rope 25 = .ok (.getfield 7, 3) := by decide +kernel
theorem dX8_rope_28 : decode cX8_rope 28 = .ok (.bipush 34, 2) := by decide +kernel
theorem dX8_rope_30 : decode cX8_rope 30 = .ok (.iconst 3, 1) := by decide +kernel
theorem dX8_rope_31 : decode cX8_rope 31 = .ok (.iload_n 1, 1) := by decide +kernel
theorem dX8_rope_32 : decode cX8_rope 32 = .ok (.imul, 1) := by decide +kernel
theorem dX8_rope_33 : decode cX8_rope 33 = .ok (.iadd, 1) := by decide +kernel
theorem dX8_rope_34 : decode cX8_rope 34 = .ok (.iload_n 2, 1) := by decide +kernel
theorem dX8_rope_35 : decode cX8_rope 35 = .ok (.iadd, 1) := by decide +kernel
theorem dX8_rope_36 : decode cX8_rope 36 = .ok (.iaload, 1) := by decide +kernel
theorem dX8_rope_37 : decode cX8_rope 37 = .ok (.invokevirtual 33, 3) := by decide +kernel
theorem dX8_rope_40 : decode cX8_rope 40 = .ok (.goto 8, 3) := by decide +kernel
theorem dX8_rope_43 : decode cX8_rope 43 = .ok (.aload_n 0, 1) := by decide +kernel
theorem dX8_rope_44 : decode cX8_rope 44 = .ok (.iconst 2, 1) := by decide +kernel
theorem dX8_rope_45 : decode cX8_rope 45 = .ok (.invokevirtual 58, 3) := by decide +kernel
theorem dX8_rope_48 : decode cX8_rope 48 = .ok (.ireturn, 1) := by decide +kernel
theorem dX8_helper_0 : decode cX8_helper 0 = .ok (.aload_n 0, 1) := by decide +kernel
theorem dX8_helper_1 : decode cX8_helper 1 = .ok (.iload_n 1, 1) := by decide +kernel
theorem dX8_helper_2 : decode cX8_helper 2 = .ok (.invokevirtual 95, 3) := by decide +kernel
theorem dX8_helper_5 : decode cX8_helper 5 = .ok (.ifCond .ne 9, 3) := by decide +kernel
theorem dX8_helper_8 : decode cX8_helper 8 = .ok (.aload_n 0, 1) := by decide +kernel
theorem dX8_helper_9 : decode cX8_helper 9 = .ok (.iconst 1, 1) := by decide +kernel
theorem dX8_helper_10 : decode cX8_helper 10 = .ok (.invokevirtual 58, 3) := by decide +kernel
theorem dX8_helper_13 : decode cX8_helper 13 = .ok (.ireturn, 1) := by decide +kernel
theorem dX8_helper_14 : decode cX8_helper 14 = .ok (.iload_n 2, 1) := by decide +kernel
theorem dX8_helper_15 : decode cX8_helper 15 = .ok (.iconst 0, 1) := by decide +kernel
theorem dX8_helper_16 : decode cX8_helper 16 = .ok (.bipush 8, 2) := by decide +kernel
theorem dX8_helper_18 : decode cX8_helper 18 = .ok (.invokestatic 54, 3) := by decide +kernel
theorem dX8_helper_21 : decode cX8_helper 21 = .ok (.ifCond .eq 16, 3) := by decide +kernel
theorem dX8_helper_24 : decode cX8_helper 24 = .ok (.aload_n 0, 1) := by decide +kernel
theorem dX8_helper_25 : decode cX8_helper 25 = .ok (.aload_n 0, 1) := by decide +kernel
theorem dX8_helper_26 : decode cX8_helper 26 = .ok (.iload_n 1, 1) := by decide +kernel
theorem dX8_helper_27 : decode cX8_helper 27 = .ok (.iload_n 2, 1) := by decide +kernel
theorem dX8_helper_28 : decode cX8_helper 28 = .ok (.invokevirtual 37, 3) := by decide +kernel
theorem dX8_helper_31 : decode cX8_helper 31 = .ok (.invokevirtual 33, 3) := by decide +kernel
theorem dX8_helper_34 : decode cX8_helper 34 = .ok (.goto 8, 3) := by decide +kernel
theorem dX8_helper_37 : decode cX8_helper 37 = .ok (.aload_n 0, 1) := by decide +kernel
theorem dX8_helper_38 : decode cX8_helper 38 = .ok (.iconst 2, 1) := by decide +kernel
theorem dX8_helper_39 : decode cX8_helper 39 = .ok (.invokevirtual 58, 3) := by decide +kernel
theorem dX8_helper_42 : decode cX8_helper 42 = .ok (.ireturn, 1) := by decide +kernel
theorem dX8_below_0 : decode cX8_below 0 = .ok (.iconst 0, 1) := by decide +kernel
theorem dX8_below_1 : decode cX8_below 1 = .ok (.istore_n 1, 1) := by decide +kernel
theorem dX8_below_2 : decode cX8_below 2 = .ok (.iconst 0, 1) := by decide +kernel
theorem dX8_below_3 : decode cX8_below 3 = .ok (.istore_n 2, 1) := by decide +kernel
theorem dX8_below_4 : decode cX8_below 4 = .ok (.iload_n 2, 1) := by decide +kernel
theorem dX8_below_5 : decode cX8_below 5 = .ok (.aload_n 0, 1) := by decide +kernel
theorem dX8_below_6 : decode cX8_below 6 = .ok (.getfield 7, 3) := by decide +kernel
theorem dX8_below_9 : decode cX8_below 9 = .ok (.iconst 2, 1) := by decide +kernel
theorem dX8_below_10 : decode cX8_below 10 = .ok (.iaload, 1) := by decide +kernel
theorem dX8_below_11 : decode cX8_below 11 = .ok (.if_icmp .ge 25, 3) := by decide +kernel
theorem dX8_below_14 : decode cX8_below 14 = .ok (.iload_n 1, 1) := by decide +kernel
theorem dX8_below_15 : decode cX8_below 15 = .ok (.aload_n 0, 1) := by decide +kernel
theorem dX8_below_16 : decode cX8_below 16 = .ok (.iload_n 2, 1) := by decide +kernel
theorem dX8_below_17 : decode cX8_below 17 = .ok (.invokevirtual 48, 3) := by decide +kernel
theorem dX8_below_20 : decode cX8_below 20 = .ok (.ifCond .eq 7, 3) := by decide +kernel
theorem dX8_below_23 : decode cX8_below 23 = .ok (.iconst 1, 1) := by decide +kernel
theorem dX8_below_24 : decode cX8_below 24 = .ok (.goto 4, 3) := by decide +kernel
theorem dX8_below_27 : decode cX8_below 27 = .ok (.iconst 0, 1) := by decide +kernel
theorem dX8_below_28 : decode cX8_below 28 = .ok (.iadd, 1) := by decide +kernel
theorem dX8_below_29 : decode cX8_below 29 = .ok (.istore_n 1, 1) := by decide +kernel
theorem dX8_below_30 : decode cX8_below 30 = .ok (.iinc 2 1, 3) := by decide +kernel
theorem dX8_below_33 : decode cX8_below 33 = .ok (.goto (-29), 3) := by decide +kernel
theorem dX8_below_36 : decode cX8_below 36 = .ok (.iload_n 1, 1) := by decide +kernel
theorem dX8_below_37 : decode cX8_below 37 = .ok (.ireturn, 1) := by decide +kernel
theorem dX8_shut_0 : decode cX8_shut 0 = .ok (.iconst 0, 1) := by decide +kernel
theorem dX8_shut_1 : decode cX8_shut 1 = .ok (.istore_n 1, 1) := by decide +kernel
theorem dX8_shut_2 : decode cX8_shut 2 = .ok (.iconst 0, 1) := by decide +kernel
theorem dX8_shut_3 : decode cX8_shut 3 = .ok (.istore_n 2, 1) := by decide +kernel
theorem dX8_shut_4 : decode cX8_shut 4 = .ok (.iload_n 2, 1) := by decide +kernel
theorem dX8_shut_5 : decode cX8_shut 5 = .ok (.aload_n 0, 1) := by decide +kernel
theorem dX8_shut_6 : decode cX8_shut 6 = .ok (.getfield 7, 3) := by decide +kernel
theorem dX8_shut_9 : decode cX8_shut 9 = .ok (.iconst 0, 1) := by decide +kernel
theorem dX8_shut_10 : decode cX8_shut 10 = .ok (.iaload, 1) := by decide +kernel
theorem dX8_shut_11 : decode cX8_shut 11 = .ok (.if_icmp .ge 25, 3) := by decide +kernel
theorem dX8_shut_14 : decode cX8_shut 14 = .ok (.iload_n 1, 1) := by decide +kernel
theorem dX8_shut_15 : decode cX8_shut 15 = .ok (.aload_n 0, 1) := by decide +kernel
theorem dX8_shut_16 : decode cX8_shut 16 = .ok (.iload_n 2, 1) := by decide +kernel
theorem dX8_shut_17 : decode cX8_shut 17 = .ok (.invokevirtual 44, 3) := by decide +kernel
theorem dX8_shut_20 : decode cX8_shut 20 = .ok (.ifCond .eq 7, 3) := by decide +kernel
theorem dX8_shut_23 : decode cX8_shut 23 = .ok (.iconst 1, 1) := by decide +kernel
theorem dX8_shut_24 : decode cX8_shut 24 = .ok (.goto 4, 3) := by decide +kernel
theorem dX8_shut_27 : decode cX8_shut 27 = .ok (.iconst 0, 1) := by decide +kernel
theorem dX8_shut_28 : decode cX8_shut 28 = .ok (.iadd, 1) := by decide +kernel
theorem dX8_shut_29 : decode cX8_shut 29 = .ok (.istore_n 1, 1) := by decide +kernel
theorem dX8_shut_30 : decode cX8_shut 30 = .ok (.iinc 2 1, 3) := by decide +kernel
theorem dX8_shut_33 : decode cX8_shut 33 = .ok (.goto (-29), 3) := by decide +kernel
theorem dX8_shut_36 : decode cX8_shut 36 = .ok (.iload_n 1, 1) := by decide +kernel
theorem dX8_shut_37 : decode cX8_shut 37 = .ok (.ireturn, 1) := by decide +kernel
theorem dX8_valueOf_0 : decode cX8_valueOf 0 = .ok (.iload_n 1, 1) := by decide +kernel
theorem dX8_valueOf_1 : decode cX8_valueOf 1 = .ok (.bipush 6, 2) := by decide +kernel
theorem dX8_valueOf_3 : decode cX8_valueOf 3 = .ok (.if_icmp .ge 12, 3) := by decide +kernel
theorem dX8_valueOf_6 : decode cX8_valueOf 6 = .ok (.aload_n 0, 1) := by decide +kernel
theorem dX8_valueOf_7 : decode cX8_valueOf 7 = .ok (.getfield 7, 3) := by decide +kernel
theorem dX8_valueOf_10 : decode cX8_valueOf 10 = .ok (.iload_n 1, 1) := by decide +kernel
theorem dX8_valueOf_11 : decode cX8_valueOf 11 = .ok (.iaload, 1) := by decide +kernel
theorem dX8_valueOf_12 : decode cX8_valueOf 12 = .ok (.goto 54, 3) := by decide +kernel
theorem dX8_valueOf_15 : decode cX8_valueOf 15 = .ok (.iload_n 1, 1) := by decide +kernel
theorem dX8_valueOf_16 : decode cX8_valueOf 16 = .ok (.bipush 6, 2) := by decide +kernel
theorem dX8_valueOf_18 : decode cX8_valueOf 18 = .ok (.if_icmp .ne 10, 3) := by decide +kernel
theorem dX8_valueOf_21 : decode cX8_valueOf 21 = .ok (.aload_n 0, 1) := by decide +kernel
theorem dX8_valueOf_22 : decode cX8_valueOf 22 = .ok (.invokevirtual 168, 3) := by decide +kernel
theorem dX8_valueOf_25 : decode cX8_valueOf 25 = .ok (.goto 41, 3) := by decide +kernel
theorem dX8_valueOf_28 : decode cX8_valueOf 28 = .ok (.iload_n 1, 1) := by decide +kernel
theorem dX8_valueOf_29 : decode cX8_valueOf 29 = .ok (.bipush 10, 2) := by decide +kernel
theorem dX8_valueOf_31 : decode cX8_valueOf 31 = .ok (.if_icmp .ge 14, 3) := by decide +kernel
theorem dX8_valueOf_34 : decode cX8_valueOf 34 = .ok (.aload_n 0, 1) := by decide +kernel
theorem dX8_valueOf_35 : decode cX8_valueOf 35 = .ok (.getfield 7, 3) := by decide +kernel
theorem dX8_valueOf_38 : decode cX8_valueOf 38 = .ok (.iload_n 1, 1) := by decide +kernel
theorem dX8_valueOf_39 : decode cX8_valueOf 39 = .ok (.iconst 1, 1) := by decide +kernel
theorem dX8_valueOf_40 : decode cX8_valueOf 40 = .ok (.isub, 1) := by decide +kernel
theorem dX8_valueOf_41 : decode cX8_valueOf 41 = .ok (.iaload, 1) := by decide +kernel
theorem dX8_valueOf_42 : decode cX8_valueOf 42 = .ok (.goto 24, 3) := by decide +kernel
theorem dX8_valueOf_45 : decode cX8_valueOf 45 = .ok (.iload_n 1, 1) := by decide +kernel
theorem dX8_valueOf_46 : decode cX8_valueOf 46 = .ok (.bipush 10, 2) := by decide +kernel
theorem dX8_valueOf_48 : decode cX8_valueOf 48 = .ok (.if_icmp .ne 10, 3) := by decide +kernel
theorem dX8_valueOf_51 : decode cX8_valueOf 51 = .ok (.aload_n 0, 1) := by decide +kernel
theorem dX8_valueOf_52 : decode cX8_valueOf 52 = .ok (.invokevirtual 171, 3) := by decide +kernel
theorem dX8_valueOf_55 : decode cX8_valueOf 55 = .ok (.goto 11, 3) := by decide +kernel
theorem dX8_valueOf_58 : decode cX8_valueOf 58 = .ok (.aload_n 0, 1) := by decide +kernel
theorem dX8_valueOf_59 : decode cX8_valueOf 59 = .ok (.getfield 7, 3) := by decide +kernel
theorem dX8_valueOf_62 : decode cX8_valueOf 62 = .ok (.iload_n 1, 1) := by decide +kernel
theorem dX8_valueOf_63 : decode cX8_valueOf 63 = .ok (.iconst 2, 1) := by decide +kernel
theorem dX8_valueOf_64 : decode cX8_valueOf 64 = .ok (.isub, 1) := by decide +kernel
theorem dX8_valueOf_65 : decode cX8_valueOf 65 = .ok (.iaload, 1) := by decide +kernel
theorem dX8_valueOf_66 : decode cX8_valueOf 66 = .ok (.ireturn, 1) := by decide +kernel
theorem dX8_value_0 : decode cX8_value 0 = .ok (.iload_n 1, 1) := by decide +kernel
theorem dX8_value_1 : decode cX8_value 1 = .ok (.iconst 0, 1) := by decide +kernel
theorem dX8_value_2 : decode cX8_value 2 = .ok (.bipush 13, 2) := by decide +kernel
theorem dX8_value_4 : decode cX8_value 4 = .ok (.invokestatic 54, 3) := by decide +kernel
theorem dX8_value_7 : decode cX8_value 7 = .ok (.ifCond .eq 15, 3) := by decide +kernel
theorem dX8_value_10 : decode cX8_value 10 = .ok (.aload_n 0, 1) := by decide +kernel
theorem dX8_value_11 : decode cX8_value 11 = .ok (.aload_n 0, 1) := by decide +kernel
theorem dX8_value_12 : decode cX8_value 12 = .ok (.iload_n 1, 1) := by decide +kernel
theorem dX8_value_13 : decode cX8_value 13 = .ok (.invokevirtual 174, 3) := by decide +kernel
theorem dX8_value_16 : decode cX8_value 16 = .ok (.invokevirtual 33, 3) := by decide +kernel
theorem dX8_value_19 : decode cX8_value 19 = .ok (.goto 8, 3) := by decide +kernel
theorem dX8_value_22 : decode cX8_value 22 = .ok (.aload_n 0, 1) := by decide +kernel
theorem dX8_value_23 : decode cX8_value 23 = .ok (.iconst 1, 1) := by decide +kernel
theorem dX8_value_24 : decode cX8_value 24 = .ok (.invokevirtual 58, 3) := by decide +kernel
theorem dX8_value_27 : decode cX8_value 27 = .ok (.ireturn, 1) := by decide +kernel
theorem dX8_message_0 : decode cX8_message 0 = .ok (.iload_n 1, 1) := by decide +kernel
theorem dX8_message_1 : decode cX8_message 1 = .ok (.iconst 0, 1) := by decide +kernel
theorem dX8_message_2 : decode cX8_message 2 = .ok (.aload_n 0, 1) := by decide +kernel
theorem dX8_message_3 : decode cX8_message 3 = .ok (.getfield 7, 3) := by decide +kernel
theorem dX8_message_6 : decode cX8_message 6 = .ok (.bipush 6, 2) := by decide +kernel
theorem dX8_message_8 : decode cX8_message 8 = .ok (.iaload, 1) := by decide +kernel
theorem dX8_message_9 : decode cX8_message 9 = .ok (.iconst 1, 1) := by decide +kernel
theorem dX8_message_10 : decode cX8_message 10 = .ok (.isub, 1) := by decide +kernel
theorem dX8_message_11 : decode cX8_message 11 = .ok (.invokestatic 54, 3) := by decide +kernel
theorem dX8_message_14 : decode cX8_message 14 = .ok (.ifCond .ne 9, 3) := by decide +kernel
theorem dX8_message_17 : decode cX8_message 17 = .ok (.aload_n 0, 1) := by decide +kernel
theorem dX8_message_18 : decode cX8_message 18 = .ok (.iconst 1, 1) := by decide +kernel
theorem dX8_message_19 : decode cX8_message 19 = .ok (.invokevirtual 58, 3) := by decide +kernel
theorem dX8_message_22 : decode cX8_message 22 = .ok (.ireturn, 1) := by decide +kernel
theorem dX8_message_23 : decode cX8_message 23 = .ok (.iload_n 2, 1) := by decide +kernel
theorem dX8_message_24 : decode cX8_message 24 = .ok (.iconst 0, 1) := by decide +kernel
theorem dX8_message_25 : decode cX8_message 25 = .ok (.iconst 2, 1) := by decide +kernel
theorem dX8_message_26 : decode cX8_message 26 = .ok (.invokestatic 54, 3) := by decide +kernel
theorem dX8_message_29 : decode cX8_message 29 = .ok (.ifCond .eq 23, 3) := by decide +kernel
theorem dX8_message_32 : decode cX8_message 32 = .ok (.aload_n 0, 1) := by decide +kernel
theorem dX8_message_33 : decode cX8_message 33 = .ok (.aload_n 0, 1) := by decide +kernel
theorem dX8_message_34 : decode cX8_message 34 = .ok (.getfield 7, 3) := by decide +kernel
theorem dX8_message_37 : decode cX8_message 37 = .ok (.bipush 112, 2) := by decide +kernel
theorem dX8_message_39 : decode cX8_message 39 = .ok (.iconst 3, 1) := by decide +kernel
theorem dX8_message_40 : decode cX8_message 40 = .ok (.iload_n 1, 1) := by decide +kernel
theorem dX8_message_41 : decode cX8_message 41 = .ok (.imul, 1) := by decide +kernel
theorem dX8_message_42 : decode cX8_message 42 = .ok (.iadd, 1) := by decide +kernel
theorem dX8_message_43 : decode cX8_message 43 = .ok (.iload_n 2, 1) := by decide +kernel
theorem dX8_message_44 : decode cX8_message 44 = .ok (.iadd, 1) := by decide +kernel
theorem dX8_message_45 : decode cX8_message 45 = .ok (.iaload, 1) := by decide +kernel
theorem dX8_message_46 : decode cX8_message 46 = .ok (.invokevirtual 33, 3) := by decide +kernel
theorem dX8_message_49 : decode cX8_message 49 = .ok (.goto 8, 3) := by decide +kernel
theorem dX8_message_52 : decode cX8_message 52 = .ok (.aload_n 0, 1) := by decide +kernel
theorem dX8_message_53 : decode cX8_message 53 = .ok (.iconst 2, 1) := by decide +kernel
theorem dX8_message_54 : decode cX8_message 54 = .ok (.invokevirtual 58, 3) := by decide +kernel
theorem dX8_message_57 : decode cX8_message 57 = .ok (.ireturn, 1) := by decide +kernel
theorem dX8_carried_0 : decode cX8_carried 0 = .ok (.iload_n 1, 1) := by decide +kernel
theorem dX8_carried_1 : decode cX8_carried 1 = .ok (.iconst 0, 1) := by decide +kernel
theorem dX8_carried_2 : decode cX8_carried 2 = .ok (.aload_n 0, 1) := by decide +kernel
theorem dX8_carried_3 : decode cX8_carried 3 = .ok (.getfield 7, 3) := by decide +kernel
theorem dX8_carried_6 : decode cX8_carried 6 = .ok (.bipush 12, 2) := by decide +kernel
theorem dX8_carried_8 : decode cX8_carried 8 = .ok (.iaload, 1) := by decide +kernel
theorem dX8_carried_9 : decode cX8_carried 9 = .ok (.iconst 1, 1) := by decide +kernel
theorem dX8_carried_10 : decode cX8_carried 10 = .ok (.isub, 1) := by decide +kernel
theorem dX8_carried_11 : decode cX8_carried 11 = .ok (.invokestatic 54, 3) := by decide +kernel
theorem dX8_carried_14 : decode cX8_carried 14 = .ok (.ifCond .ne 9, 3) := by decide +kernel
theorem dX8_carried_17 : decode cX8_carried 17 = .ok (.aload_n 0, 1) := by decide +kernel
theorem dX8_carried_18 : decode cX8_carried 18 = .ok (.iconst 1, 1) := by decide +kernel
theorem dX8_carried_19 : decode cX8_carried 19 = .ok (.invokevirtual 58, 3) := by decide +kernel
theorem dX8_carried_22 : decode cX8_carried 22 = .ok (.ireturn, 1) := by decide +kernel
theorem dX8_carried_23 : decode cX8_carried 23 = .ok (.iload_n 2, 1) := by decide +kernel
theorem dX8_carried_24 : decode cX8_carried 24 = .ok (.iconst 0, 1) := by decide +kernel
theorem dX8_carried_25 : decode cX8_carried 25 = .ok (.iconst 2, 1) := by decide +kernel
theorem dX8_carried_26 : decode cX8_carried 26 = .ok (.invokestatic 54, 3) := by decide +kernel
theorem dX8_carried_29 : decode cX8_carried 29 = .ok (.ifCond .eq 24, 3) := by decide +kernel
theorem dX8_carried_32 : decode cX8_carried 32 = .ok (.aload_n 0, 1) := by decide +kernel
theorem dX8_carried_33 : decode cX8_carried 33 = .ok (.aload_n 0, 1) := by decide +kernel
theorem dX8_carried_34 : decode cX8_carried 34 = .ok (.getfield 7, 3) := by decide +kernel
theorem dX8_carried_37 : decode cX8_carried 37 = .ok (.sipush 142, 3) := by decide +kernel
theorem dX8_carried_40 : decode cX8_carried 40 = .ok (.iconst 3, 1) := by decide +kernel
theorem dX8_carried_41 : decode cX8_carried 41 = .ok (.iload_n 1, 1) := by decide +kernel
theorem dX8_carried_42 : decode cX8_carried 42 = .ok (.imul, 1) := by decide +kernel
theorem dX8_carried_43 : decode cX8_carried 43 = .ok (.iadd, 1) := by decide +kernel
theorem dX8_carried_44 : decode cX8_carried 44 = .ok (.iload_n 2, 1) := by decide +kernel
theorem dX8_carried_45 : decode cX8_carried 45 = .ok (.iadd, 1) := by decide +kernel
theorem dX8_carried_46 : decode cX8_carried 46 = .ok (.iaload, 1) := by decide +kernel
theorem dX8_carried_47 : decode cX8_carried 47 = .ok (.invokevirtual 33, 3) := by decide +kernel
theorem dX8_carried_50 : decode cX8_carried 50 = .ok (.goto 8, 3) := by decide +kernel
theorem dX8_carried_53 : decode cX8_carried 53 = .ok (.aload_n 0, 1) := by decide +kernel
theorem dX8_carried_54 : decode cX8_carried 54 = .ok (.iconst 2, 1) := by decide +kernel
theorem dX8_carried_55 : decode cX8_carried 55 = .ok (.invokevirtual 58, 3) := by decide +kernel
theorem dX8_carried_58 : decode cX8_carried 58 = .ok (.ireturn, 1) := by decide +kernel
theorem dX8_why_0 : decode cX8_why 0 = .ok (.aload_n 0, 1) := by decide +kernel
theorem dX8_why_1 : decode cX8_why 1 = .ok (.iload_n 1, 1) := by decide +kernel
theorem dX8_why_2 : decode cX8_why 2 = .ok (.invokevirtual 95, 3) := by decide +kernel
theorem dX8_why_5 : decode cX8_why 5 = .ok (.ifCond .eq 16, 3) := by decide +kernel
theorem dX8_why_8 : decode cX8_why 8 = .ok (.aload_n 0, 1) := by decide +kernel
theorem dX8_why_9 : decode cX8_why 9 = .ok (.aload_n 0, 1) := by decide +kernel
theorem dX8_why_10 : decode cX8_why 10 = .ok (.iload_n 1, 1) := by decide +kernel
theorem dX8_why_11 : decode cX8_why 11 = .ok (.iload_n 2, 1) := by decide +kernel
theorem dX8_why_12 : decode cX8_why 12 = .ok (.invokevirtual 98, 3) := by decide +kernel
theorem dX8_why_15 : decode cX8_why 15 = .ok (.invokevirtual 33, 3) := by decide +kernel
theorem dX8_why_18 : decode cX8_why 18 = .ok (.goto 8, 3) := by decide +kernel
theorem dX8_why_21 : decode cX8_why 21 = .ok (.aload_n 0, 1) := by decide +kernel
theorem dX8_why_22 : decode cX8_why 22 = .ok (.iconst 1, 1) := by decide +kernel
theorem dX8_why_23 : decode cX8_why 23 = .ok (.invokevirtual 58, 3) := by decide +kernel
theorem dX8_why_26 : decode cX8_why 26 = .ok (.ireturn, 1) := by decide +kernel
theorem dX8_timeUp_0 : decode cX8_timeUp 0 = .ok (.aload_n 0, 1) := by decide +kernel
theorem dX8_timeUp_1 : decode cX8_timeUp 1 = .ok (.iload_n 1, 1) := by decide +kernel
theorem dX8_timeUp_2 : decode cX8_timeUp 2 = .ok (.invokevirtual 81, 3) := by decide +kernel
theorem dX8_timeUp_5 : decode cX8_timeUp 5 = .ok (.ifCond .eq 16, 3) := by decide +kernel
theorem dX8_timeUp_8 : decode cX8_timeUp 8 = .ok (.aload_n 0, 1) := by decide +kernel
theorem dX8_timeUp_9 : decode cX8_timeUp 9 = .ok (.aload_n 0, 1) := by decide +kernel
theorem dX8_timeUp_10 : decode cX8_timeUp 10 = .ok (.iload_n 1, 1) := by decide +kernel
theorem dX8_timeUp_11 : decode cX8_timeUp 11 = .ok (.iconst 1, 1) := by decide +kernel
theorem dX8_timeUp_12 : decode cX8_timeUp 12 = .ok (.invokevirtual 37, 3) := by decide +kernel
theorem dX8_timeUp_15 : decode cX8_timeUp 15 = .ok (.invokevirtual 177, 3) := by decide +kernel
theorem dX8_timeUp_18 : decode cX8_timeUp 18 = .ok (.ifCond .eq 7, 3) := by decide +kernel
theorem dX8_timeUp_21 : decode cX8_timeUp 21 = .ok (.iconst (-1), 1) := by decide +kernel
theorem dX8_timeUp_22 : decode cX8_timeUp 22 = .ok (.goto 13, 3) := by decide +kernel
theorem dX8_timeUp_25 : decode cX8_timeUp 25 = .ok (.aload_n 0, 1) := by decide +kernel
theorem dX8_timeUp_26 : decode cX8_timeUp 26 = .ok (.aload_n 0, 1) := by decide +kernel
theorem dX8_timeUp_27 : decode cX8_timeUp 27 = .ok (.iload_n 1, 1) := by decide +kernel
theorem dX8_timeUp_28 : decode cX8_timeUp 28 = .ok (.iconst 1, 1) := by decide +kernel
theorem dX8_timeUp_29 : decode cX8_timeUp 29 = .ok (.invokevirtual 37, 3) := by decide +kernel
theorem dX8_timeUp_32 : decode cX8_timeUp 32 = .ok (.invokevirtual 51, 3) := by decide +kernel
theorem dX8_timeUp_35 : decode cX8_timeUp 35 = .ok (.ireturn, 1) := by decide +kernel
theorem dX8_minutesUp_0 : decode cX8_minutesUp 0 = .ok (.aload_n 0, 1) := by decide +kernel
theorem dX8_minutesUp_1 : decode cX8_minutesUp 1 = .ok (.iload_n 1, 1) := by decide +kernel
theorem dX8_minutesUp_2 : decode cX8_minutesUp 2 = .ok (.invokevirtual 95, 3) := by decide +kernel
theorem dX8_minutesUp_5 : decode cX8_minutesUp 5 = .ok (.ifCond .eq 15, 3) := by decide +kernel
theorem dX8_minutesUp_8 : decode cX8_minutesUp 8 = .ok (.aload_n 0, 1) := by decide +kernel
theorem dX8_minutesUp_9 : decode cX8_minutesUp 9 = .ok (.aload_n 0, 1) := by decide +kernel
theorem dX8_minutesUp_10 : decode cX8_minutesUp 10 = .ok (.iload_n 1, 1) := by decide +kernel
theorem dX8_minutesUp_11 : decode cX8_minutesUp 11 = .ok (.invokevirtual 180, 3) := by decide +kernel
theorem dX8_minutesUp_14 : decode cX8_minutesUp 14 = .ok (.invokevirtual 33, 3) := by decide +kernel
theorem dX8_minutesUp_17 : decode cX8_minutesUp 17 = .ok (.goto 8, 3) := by decide +kernel
theorem dX8_minutesUp_20 : decode cX8_minutesUp 20 = .ok (.aload_n 0, 1) := by decide +kernel
theorem dX8_minutesUp_21 : decode cX8_minutesUp 21 = .ok (.iconst 1, 1) := by decide +kernel
theorem dX8_minutesUp_22 : decode cX8_minutesUp 22 = .ok (.invokevirtual 58, 3) := by decide +kernel
theorem dX8_minutesUp_25 : decode cX8_minutesUp 25 = .ok (.ireturn, 1) := by decide +kernel
theorem dX8_spare_0 : decode cX8_spare 0 = .ok (.aload_n 0, 1) := by decide +kernel
theorem dX8_spare_1 : decode cX8_spare 1 = .ok (.iload_n 1, 1) := by decide +kernel
theorem dX8_spare_2 : decode cX8_spare 2 = .ok (.invokevirtual 95, 3) := by decide +kernel
theorem dX8_spare_5 : decode cX8_spare 5 = .ok (.ifCond .ne 9, 3) := by decide +kernel
theorem dX8_spare_8 : decode cX8_spare 8 = .ok (.aload_n 0, 1) := by decide +kernel
theorem dX8_spare_9 : decode cX8_spare 9 = .ok (.iconst 1, 1) := by decide +kernel
theorem dX8_spare_10 : decode cX8_spare 10 = .ok (.invokevirtual 58, 3) := by decide +kernel
theorem dX8_spare_13 : decode cX8_spare 13 = .ok (.ireturn, 1) := by decide +kernel
theorem dX8_spare_14 : decode cX8_spare 14 = .ok (.aload_n 0, 1) := by decide +kernel
theorem dX8_spare_15 : decode cX8_spare 15 = .ok (.iload_n 1, 1) := by decide +kernel
theorem dX8_spare_16 : decode cX8_spare 16 = .ok (.invokevirtual 180, 3) := by decide +kernel
theorem dX8_spare_19 : decode cX8_spare 19 = .ok (.istore_n 2, 1) := by decide +kernel
theorem dX8_spare_20 : decode cX8_spare 20 = .ok (.aload_n 0, 1) := by decide +kernel
theorem dX8_spare_21 : decode cX8_spare 21 = .ok (.iload_n 1, 1) := by decide +kernel
theorem dX8_spare_22 : decode cX8_spare 22 = .ok (.iconst 0, 1) := by decide +kernel
theorem dX8_spare_23 : decode cX8_spare 23 = .ok (.invokevirtual 37, 3) := by decide +kernel
theorem dX8_spare_26 : decode cX8_spare 26 = .ok (.aload_n 0, 1) := by decide +kernel
theorem dX8_spare_27 : decode cX8_spare 27 = .ok (.iload_n 1, 1) := by decide +kernel
theorem dX8_spare_28 : decode cX8_spare 28 = .ok (.bipush 7, 2) := by decide +kernel
theorem dX8_spare_30 : decode cX8_spare 30 = .ok (.invokevirtual 37, 3) := by decide +kernel
theorem dX8_spare_33 : decode cX8_spare 33 = .ok (.isub, 1) := by decide +kernel
theorem dX8_spare_34 : decode cX8_spare 34 = .ok (.iload_n 2, 1) := by decide +kernel
theorem dX8_spare_35 : decode cX8_spare 35 = .ok (.isub, 1) := by decide +kernel
theorem dX8_spare_36 : decode cX8_spare 36 = .ok (.istore_n 3, 1) := by decide +kernel
theorem dX8_spare_37 : decode cX8_spare 37 = .ok (.aload_n 0, 1) := by decide +kernel
theorem dX8_spare_38 : decode cX8_spare 38 = .ok (.iload_n 2, 1) := by decide +kernel
theorem dX8_spare_39 : decode cX8_spare 39 = .ok (.iconst (-1), 1) := by decide +kernel
theorem dX8_spare_40 : decode cX8_spare 40 = .ok (.if_icmp .eq 12, 3) := by decide +kernel
theorem dX8_spare_43 : decode cX8_spare 43 = .ok (.aload_n 0, 1) := by decide +kernel
theorem dX8_spare_44 : decode cX8_spare 44 = .ok (.iload_n 1, 1) := by decide +kernel
theorem dX8_spare_45 : decode cX8_spare 45 = .ok (.iconst 1, 1) := by decide +kernel
theorem dX8_spare_46 : decode cX8_spare 46 = .ok (.invokevirtual 37, 3) := by decide +kernel
theorem dX8_spare_49 : decode cX8_spare 49 = .ok (.ifCond .ne 7, 3) := by decide +kernel
theorem dX8_spare_52 : decode cX8_spare 52 = .ok (.iconst (-1), 1) := by decide +kernel
theorem dX8_spare_53 : decode cX8_spare 53 = .ok (.goto 12, 3) := by decide +kernel
theorem dX8_spare_56 : decode cX8_spare 56 = .ok (.iload_n 3, 1) := by decide +kernel
theorem dX8_spare_57 : decode cX8_spare 57 = .ok (.ifCond .ge 7, 3) := by decide +kernel
theorem dX8_spare_60 : decode cX8_spare 60 = .ok (.iconst 0, 1) := by decide +kernel
theorem dX8_spare_61 : decode cX8_spare 61 = .ok (.goto 4, 3) := by decide +kernel
theorem dX8_spare_64 : decode cX8_spare 64 = .ok (.iload_n 3, 1) := by decide +kernel
theorem dX8_spare_65 : decode cX8_spare 65 = .ok (.invokevirtual 33, 3) := by decide +kernel
theorem dX8_spare_68 : decode cX8_spare 68 = .ok (.ireturn, 1) := by decide +kernel
theorem dX8_bestRope_0 : decode cX8_bestRope 0 = .ok (.aload_n 0, 1) := by decide +kernel
theorem dX8_bestRope_1 : decode cX8_bestRope 1 = .ok (.iload_n 1, 1) := by decide +kernel
theorem dX8_bestRope_2 : decode cX8_bestRope 2 = .ok (.invokevirtual 67, 3) := by decide +kernel
theorem dX8_bestRope_5 : decode cX8_bestRope 5 = .ok (.ifCond .ne 9, 3) := by decide +kernel
theorem dX8_bestRope_8 : decode cX8_bestRope 8 = .ok (.aload_n 0, 1) := by decide +kernel
theorem dX8_bestRope_9 : decode cX8_bestRope 9 = .ok (.iconst 1, 1) := by decide +kernel
theorem dX8_bestRope_10 : decode cX8_bestRope 10 = .ok (.invokevirtual 58, 3) := by decide +kernel
theorem dX8_bestRope_13 : decode cX8_bestRope 13 = .ok (.ireturn, 1) := by decide +kernel
theorem dX8_bestRope_14 : decode cX8_bestRope 14 = .ok (.iconst (-1), 1) := by decide +kernel
theorem dX8_bestRope_15 : decode cX8_bestRope 15 = .ok (.istore_n 2, 1) := by decide +kernel
theorem dX8_bestRope_16 : decode cX8_bestRope 16 = .ok (.iconst 0, 1) := by decide +kernel
theorem dX8_bestRope_17 : decode cX8_bestRope 17 = .ok (.istore_n 3, 1) := by decide +kernel
theorem dX8_bestRope_18 : decode cX8_bestRope 18 = .ok (.iload_n 3, 1) := by decide +kernel
theorem dX8_bestRope_19 : decode cX8_bestRope 19 = .ok (.aload_n 0, 1) := by decide +kernel
theorem dX8_bestRope_20 : decode cX8_bestRope 20 = .ok (.getfield 7, 3) := by decide +kernel
theorem dX8_bestRope_23 : decode cX8_bestRope 23 = .ok (.iconst 1, 1) := by decide +kernel
theorem dX8_bestRope_24 : decode cX8_bestRope 24 = .ok (.iaload, 1) := by decide +kernel
theorem dX8_bestRope_25 : decode cX8_bestRope 25 = .ok (.if_icmp .ge 95, 3) := by decide +kernel
theorem dX8_bestRope_28 : decode cX8_bestRope 28 = .ok (.aload_n 0, 1) := by decide +kernel
theorem dX8_bestRope_29 : decode cX8_bestRope 29 = .ok (.getfield 7, 3) := by decide +kernel
theorem dX8_bestRope_32 : decode cX8_bestRope 32 = .ok (.bipush 13, 2) := by decide +kernel
theorem dX8_bestRope_34 : decode cX8_bestRope 34 = .ok (.iload_n 1, 1) := by decide +kernel
theorem dX8_bestRope_35 : decode cX8_bestRope 35 = .ok (.iadd, 1) := by decide +kernel
theorem dX8_bestRope_36 : decode cX8_bestRope 36 = .ok (.iaload, 1) := by decide +kernel
theorem dX8_bestRope_37 : decode cX8_bestRope 37 = .ok (.ifCond .le 83, 3) := by decide +kernel
theorem dX8_bestRope_40 : decode cX8_bestRope 40 = .ok (.aload_n 0, 1) := by decide +kernel
theorem dX8_bestRope_41 : decode cX8_bestRope 41 = .ok (.getfield 7, 3) := by decide +kernel
theorem dX8_bestRope_44 : decode cX8_bestRope 44 = .ok (.bipush 34, 2) := by decide +kernel
theorem dX8_bestRope_46 : decode cX8_bestRope 46 = .ok (.iconst 3, 1) := by decide +kernel
theorem dX8_bestRope_47 : decode cX8_bestRope 47 = .ok (.iload_n 3, 1) := by decide +kernel
theorem dX8_bestRope_48 : decode cX8_bestRope 48 = .ok (.imul, 1) := by decide +kernel
theorem dX8_bestRope_49 : decode cX8_bestRope 49 = .ok (.iadd, 1) := by decide +kernel
theorem dX8_bestRope_50 : decode cX8_bestRope 50 = .ok (.iconst 1, 1) := by decide +kernel
theorem dX8_bestRope_51 : decode cX8_bestRope 51 = .ok (.iadd, 1) := by decide +kernel
theorem dX8_bestRope_52 : decode cX8_bestRope 52 = .ok (.iaload, 1) := by decide +kernel
theorem dX8_bestRope_53 : decode cX8_bestRope 53 = .ok (.iconst 2, 1) := by decide +kernel
theorem dX8_bestRope_54 : decode cX8_bestRope 54 = .ok (.if_icmp .eq 16, 3) := by decide +kernel
theorem dX8_bestRope_57 : decode cX8_bestRope 57 = .ok (.aload_n 0, 1) := by decide +kernel
theorem dX8_bestRope_58 : decode cX8_bestRope 58 = .ok (.iload_n 3, 1) := by decide +kernel
theorem dX8_bestRope_59 : decode cX8_bestRope 59 = .ok (.iload_n 1, 1) := by decide +kernel
theorem dX8_bestRope_60 : decode cX8_bestRope 60 = .ok (.invokevirtual 114, 3) := by decide +kernel
theorem dX8_bestRope_63 : decode cX8_bestRope 63 = .ok (.ifCond .eq 7, 3) := by decide +kernel
theorem dX8_bestRope_66 : decode cX8_bestRope 66 = .ok (.iconst 1, 1) := by decide +kernel
theorem dX8_bestRope_67 : decode cX8_bestRope 67 = .ok (.goto 4, 3) := by decide +kernel
theorem dX8_bestRope_70 : decode cX8_bestRope 70 = .ok (.iconst 0, 1) := by decide +kernel
theorem dX8_bestRope_71 : decode cX8_bestRope 71 = .ok (.istore 4, 2) := by decide +kernel
theorem dX8_bestRope_73 : decode cX8_bestRope 73 = .ok (.iload 4, 2) := by decide +kernel
theorem dX8_bestRope_75 : decode cX8_bestRope 75 = .ok (.ifCond .eq 37, 3) := by decide +kernel
theorem dX8_bestRope_78 : decode cX8_bestRope 78 = .ok (.iload_n 2, 1) := by decide +kernel
theorem dX8_bestRope_79 : decode cX8_bestRope 79 = .ok (.iconst (-1), 1) := by decide +kernel
theorem dX8_bestRope_80 : decode cX8_bestRope 80 = .ok (.if_icmp .eq 28, 3) := by decide +kernel
theorem dX8_bestRope_83 : decode cX8_bestRope 83 = .ok (.aload_n 0, 1) := by decide +kernel
theorem dX8_bestRope_84 : decode cX8_bestRope 84 = .ok (.getfield 7, 3) := by decide +kernel
theorem dX8_bestRope_87 : decode cX8_bestRope 87 = .ok (.bipush 34, 2) := by decide +kernel
theorem dX8_bestRope_89 : decode cX8_bestRope 89 = .ok (.iconst 3, 1) := by decide +kernel
theorem dX8_bestRope_90 : decode cX8_bestRope 90 = .ok (.iload_n 3, 1) := by decide +kernel
theorem dX8_bestRope_91 : decode cX8_bestRope 91 = .ok (.imul, 1) := by decide +kernel
theorem dX8_bestRope_92 : decode cX8_bestRope 92 = .ok (.iadd, 1) := by decide +kernel
theorem dX8_bestRope_93 : decode cX8_bestRope 93 = .ok (.iaload, 1) := by decide +kernel
theorem dX8_bestRope_94 : decode cX8_bestRope 94 = .ok (.aload_n 0, 1) := by decide +kernel
theorem dX8_bestRope_95 : decode cX8_bestRope 95 = .ok (.getfield 7, 3) := by decide +kernel
theorem dX8_bestRope_98 : decode cX8_bestRope 98 = .ok (.bipush 34, 2) := by decide +kernel
theorem dX8_bestRope_100 : decode cX8_bestRope 100 = .ok (.iconst 3, 1) := by decide +kernel
theorem dX8_bestRope_101 : decode cX8_bestRope 101 = .ok (.iload_n 2, 1) := by decide +kernel
theorem dX8_bestRope_102 : decode cX8_bestRope 102 = .ok (.imul, 1) := by decide +kernel
theorem dX8_bestRope_103 : decode cX8_bestRope 103 = .ok (.iadd, 1) := by decide +kernel
theorem dX8_bestRope_104 : decode cX8_bestRope 104 = .ok (.iaload, 1) := by decide +kernel
theorem dX8_bestRope_105 : decode cX8_bestRope 105 = .ok (.if_icmp .ge 7, 3) := by decide +kernel
theorem dX8_bestRope_108 : decode cX8_bestRope 108 = .ok (.iload_n 3, 1) := by decide +kernel
theorem dX8_bestRope_109 : decode cX8_bestRope 109 = .ok (.goto 4, 3) := by decide +kernel
theorem dX8_bestRope_112 : decode cX8_bestRope 112 = .ok (.iload_n 2, 1) := by decide +kernel
theorem dX8_bestRope_113 : decode cX8_bestRope 113 = .ok (.istore_n 2, 1) := by decide +kernel
theorem dX8_bestRope_114 : decode cX8_bestRope 114 = .ok (.iinc 3 1, 3) := by decide +kernel
theorem dX8_bestRope_117 : decode cX8_bestRope 117 = .ok (.goto (-99), 3) := by decide +kernel
theorem dX8_bestRope_120 : decode cX8_bestRope 120 = .ok (.aload_n 0, 1) := by decide +kernel
theorem dX8_bestRope_121 : decode cX8_bestRope 121 = .ok (.iload_n 2, 1) := by decide +kernel
theorem dX8_bestRope_122 : decode cX8_bestRope 122 = .ok (.invokevirtual 33, 3) := by decide +kernel
theorem dX8_bestRope_125 : decode cX8_bestRope 125 = .ok (.ireturn, 1) := by decide +kernel
theorem dX8_carryMinutes_0 : decode cX8_carryMinutes 0 = .ok (.aload_n 0, 1) := by decide +kernel
theorem dX8_carryMinutes_1 : decode cX8_carryMinutes 1 = .ok (.aload_n 0, 1) := by decide +kernel
theorem dX8_carryMinutes_2 : decode cX8_carryMinutes 2 = .ok (.getfield 7, 3) := by decide +kernel
theorem dX8_carryMinutes_5 : decode cX8_carryMinutes 5 = .ok (.iconst 5, 1) := by decide +kernel
theorem dX8_carryMinutes_6 : decode cX8_carryMinutes 6 = .ok (.iaload, 1) := by decide +kernel
theorem dX8_carryMinutes_7 : decode cX8_carryMinutes 7 = .ok (.iconst 1, 1) := by decide +kernel
theorem dX8_carryMinutes_8 : decode cX8_carryMinutes 8 = .ok (.if_icmp .eq 16, 3) := by decide +kernel
theorem dX8_carryMinutes_11 : decode cX8_carryMinutes 11 = .ok (.aload_n 0, 1) := by decide +kernel
theorem dX8_carryMinutes_12 : decode cX8_carryMinutes 12 = .ok (.aload_n 0, 1) := by decide +kernel
theorem dX8_carryMinutes_13 : decode cX8_carryMinutes 13 = .ok (.getfield 7, 3) := by decide +kernel
theorem dX8_carryMinutes_16 : decode cX8_carryMinutes 16 = .ok (.iconst 4, 1) := by decide +kernel
theorem dX8_carryMinutes_17 : decode cX8_carryMinutes 17 = .ok (.iaload, 1) := by decide +kernel
theorem dX8_carryMinutes_18 : decode cX8_carryMinutes 18 = .ok (.invokevirtual 177, 3) := by decide +kernel
theorem dX8_carryMinutes_21 : decode cX8_carryMinutes 21 = .ok (.ifCond .eq 7, 3) := by decide +kernel
theorem dX8_carryMinutes_24 : decode cX8_carryMinutes 24 = .ok (.iconst (-1), 1) := by decide +kernel
theorem dX8_carryMinutes_25 : decode cX8_carryMinutes 25 = .ok (.goto 15, 3) := by decide +kernel
theorem dX8_carryMinutes_28 : decode cX8_carryMinutes 28 = .ok (.iconst 3, 1) := by decide +kernel
theorem dX8_carryMinutes_29 : decode cX8_carryMinutes 29 = .ok (.aload_n 0, 1) := by decide +kernel
theorem dX8_carryMinutes_30 : decode cX8_carryMinutes 30 = .ok (.aload_n 0, 1) := by decide +kernel
theorem dX8_carryMinutes_31 : decode cX8_carryMinutes 31 = .ok (.getfield 7, 3) := by decide +kernel
theorem dX8_carryMinutes_34 : decode cX8_carryMinutes 34 = .ok (.iconst 4, 1) := by decide +kernel
theorem dX8_carryMinutes_35 : decode cX8_carryMinutes 35 = .ok (.iaload, 1) := by decide +kernel
theorem dX8_carryMinutes_36 : decode cX8_carryMinutes 36 = .ok (.invokevirtual 51, 3) := by decide +kernel
theorem dX8_carryMinutes_39 : decode cX8_carryMinutes 39 = .ok (.imul, 1) := by decide +kernel
theorem dX8_carryMinutes_40 : decode cX8_carryMinutes 40 = .ok (.invokevirtual 33, 3) := by decide +kernel
theorem dX8_carryMinutes_43 : decode cX8_carryMinutes 43 = .ok (.ireturn, 1) := by decide +kernel
theorem dX8_team_0 : decode cX8_team 0 = .ok (.iconst 0, 1) := by decide +kernel
theorem dX8_team_1 : decode cX8_team 1 = .ok (.istore_n 1, 1) := by decide +kernel
theorem dX8_team_2 : decode cX8_team 2 = .ok (.iconst 0, 1) := by decide +kernel
theorem dX8_team_3 : decode cX8_team 3 = .ok (.istore_n 2, 1) := by decide +kernel
theorem dX8_team_4 : decode cX8_team 4 = .ok (.iload_n 2, 1) := by decide +kernel
theorem dX8_team_5 : decode cX8_team 5 = .ok (.aload_n 0, 1) := by decide +kernel
theorem dX8_team_6 : decode cX8_team 6 = .ok (.getfield 7, 3) := by decide +kernel
theorem dX8_team_9 : decode cX8_team 9 = .ok (.iconst 2, 1) := by decide +kernel
theorem dX8_team_10 : decode cX8_team 10 = .ok (.iaload, 1) := by decide +kernel
theorem dX8_team_11 : decode cX8_team 11 = .ok (.if_icmp .ge 34, 3) := by decide +kernel
theorem dX8_team_14 : decode cX8_team 14 = .ok (.aload_n 0, 1) := by decide +kernel
theorem dX8_team_15 : decode cX8_team 15 = .ok (.invokevirtual 121, 3) := by decide +kernel
theorem dX8_team_18 : decode cX8_team 18 = .ok (.ifCond .eq 27, 3) := by decide +kernel
theorem dX8_team_21 : decode cX8_team 21 = .ok (.iload_n 1, 1) := by decide +kernel
theorem dX8_team_22 : decode cX8_team 22 = .ok (.aload_n 0, 1) := by decide +kernel
theorem dX8_team_23 : decode cX8_team 23 = .ok (.iload_n 2, 1) := by decide +kernel
theorem dX8_team_24 : decode cX8_team 24 = .ok (.invokevirtual 125, 3) := by decide +kernel
theorem dX8_team_27 : decode cX8_team 27 = .ok (.ifCond .eq 9, 3) := by decide +kernel
theorem dX8_team_30 : decode cX8_team 30 = .ok (.iconst 1, 1) := by decide +kernel
theorem dX8_team_31 : decode cX8_team 31 = .ok (.iload_n 2, 1) := by decide +kernel
theorem dX8_team_32 : decode cX8_team 32 = .ok (.ishl, 1) := by decide +kernel
theorem dX8_team_33 : decode cX8_team 33 = .ok (.goto 4, 3) := by decide +kernel
theorem dX8_team_36 : decode cX8_team 36 = .ok (.iconst 0, 1) := by decide +kernel
theorem dX8_team_37 : decode cX8_team 37 = .ok (.ior, 1) := by decide +kernel
theorem dX8_team_38 : decode cX8_team 38 = .ok (.istore_n 1, 1) := by decide +kernel
theorem dX8_team_39 : decode cX8_team 39 = .ok (.iinc 2 1, 3) := by decide +kernel
theorem dX8_team_42 : decode cX8_team 42 = .ok (.goto (-38), 3) := by decide +kernel
theorem dX8_team_45 : decode cX8_team 45 = .ok (.aload_n 0, 1) := by decide +kernel
theorem dX8_team_46 : decode cX8_team 46 = .ok (.iload_n 1, 1) := by decide +kernel
theorem dX8_team_47 : decode cX8_team 47 = .ok (.invokevirtual 33, 3) := by decide +kernel
theorem dX8_team_50 : decode cX8_team 50 = .ok (.ireturn, 1) := by decide +kernel
theorem dX8_reach_0 : decode cX8_reach 0 = .ok (.aload_n 0, 1) := by decide +kernel
theorem dX8_reach_1 : decode cX8_reach 1 = .ok (.iload_n 1, 1) := by decide +kernel
theorem dX8_reach_2 : decode cX8_reach 2 = .ok (.invokevirtual 95, 3) := by decide +kernel
theorem dX8_reach_5 : decode cX8_reach 5 = .ok (.ifCond .ne 9, 3) := by decide +kernel
theorem dX8_reach_8 : decode cX8_reach 8 = .ok (.aload_n 0, 1) := by decide +kernel
theorem dX8_reach_9 : decode cX8_reach 9 = .ok (.iconst 1, 1) := by decide +kernel
theorem dX8_reach_10 : decode cX8_reach 10 = .ok (.invokevirtual 58, 3) := by decide +kernel
theorem dX8_reach_13 : decode cX8_reach 13 = .ok (.ireturn, 1) := by decide +kernel
theorem dX8_reach_14 : decode cX8_reach 14 = .ok (.aload_n 0, 1) := by decide +kernel
theorem dX8_reach_15 : decode cX8_reach 15 = .ok (.iload_n 1, 1) := by decide +kernel
theorem dX8_reach_16 : decode cX8_reach 16 = .ok (.invokevirtual 81, 3) := by decide +kernel
theorem dX8_reach_19 : decode cX8_reach 19 = .ok (.ifCond .ne 9, 3) := by decide +kernel
theorem dX8_reach_22 : decode cX8_reach 22 = .ok (.aload_n 0, 1) := by decide +kernel
theorem dX8_reach_23 : decode cX8_reach 23 = .ok (.iconst (-1), 1) := by decide +kernel
theorem dX8_reach_24 : decode cX8_reach 24 = .ok (.invokevirtual 33, 3) := by decide +kernel
theorem dX8_reach_27 : decode cX8_reach 27 = .ok (.ireturn, 1) := by decide +kernel
theorem dX8_reach_28 : decode cX8_reach 28 = .ok (.aload_n 0, 1) := by decide +kernel
theorem dX8_reach_29 : decode cX8_reach 29 = .ok (.iload_n 1, 1) := by decide +kernel
theorem dX8_reach_30 : decode cX8_reach 30 = .ok (.iconst 1, 1) := by decide +kernel
theorem dX8_reach_31 : decode cX8_reach 31 = .ok (.invokevirtual 37, 3) := by decide +kernel
theorem dX8_reach_34 : decode cX8_reach 34 = .ok (.istore_n 2, 1) := by decide +kernel
theorem dX8_reach_35 : decode cX8_reach 35 = .ok (.iconst 0, 1) := by decide +kernel
theorem dX8_reach_36 : decode cX8_reach 36 = .ok (.istore_n 3, 1) := by decide +kernel
theorem dX8_reach_37 : decode cX8_reach 37 = .ok (.iload_n 2, 1) := by decide +kernel
theorem dX8_reach_38 : decode cX8_reach 38 = .ok (.ifCond .le 54, 3) := by decide +kernel
theorem dX8_reach_41 : decode cX8_reach 41 = .ok (.iload_n 3, 1) := by decide +kernel
theorem dX8_reach_42 : decode cX8_reach 42 = .ok (.sipush 1000, 3) := by decide +kernel
theorem dX8_reach_45 : decode cX8_reach 45 = .ok (.if_icmp .gt 47, 3) := by decide +kernel
theorem dX8_reach_48 : decode cX8_reach 48 = .ok (.iload_n 2, 1) := by decide +kernel
theorem dX8_reach_49 : decode cX8_reach 49 = .ok (.aload_n 0, 1) := by decide +kernel
theorem dX8_reach_50 : decode cX8_reach 50 = .ok (.getfield 7, 3) := by decide +kernel
theorem dX8_reach_53 : decode cX8_reach 53 = .ok (.iconst 3, 1) := by decide +kernel
theorem dX8_reach_54 : decode cX8_reach 54 = .ok (.iaload, 1) := by decide +kernel
theorem dX8_reach_55 : decode cX8_reach 55 = .ok (.iload_n 3, 1) := by decide +kernel
theorem dX8_reach_56 : decode cX8_reach 56 = .ok (.iadd, 1) := by decide +kernel
theorem dX8_reach_57 : decode cX8_reach 57 = .ok (.aload_n 0, 1) := by decide +kernel
theorem dX8_reach_58 : decode cX8_reach 58 = .ok (.getfield 7, 3) := by decide +kernel
theorem dX8_reach_61 : decode cX8_reach 61 = .ok (.bipush 9, 2) := by decide +kernel
theorem dX8_reach_63 : decode cX8_reach 63 = .ok (.iaload, 1) := by decide +kernel
theorem dX8_reach_64 : decode cX8_reach 64 = .ok (.aload_n 0, 1) := by decide +kernel
theorem dX8_reach_65 : decode cX8_reach 65 = .ok (.getfield 7, 3) := by decide +kernel
theorem dX8_reach_68 : decode cX8_reach 68 = .ok (.bipush 10, 2) := by decide +kernel
theorem dX8_reach_70 : decode cX8_reach 70 = .ok (.iaload, 1) := by decide +kernel
theorem dX8_reach_71 : decode cX8_reach 71 = .ok (.iconst 1, 1) := by decide +kernel
theorem dX8_reach_72 : decode cX8_reach 72 = .ok (.isub, 1) := by decide +kernel
theorem dX8_reach_73 : decode cX8_reach 73 = .ok (.invokestatic 54, 3) := by decide +kernel
theorem dX8_reach_76 : decode cX8_reach 76 = .ok (.ifCond .eq 7, 3) := by decide +kernel
theorem dX8_reach_79 : decode cX8_reach 79 = .ok (.iconst 0, 1) := by decide +kernel
theorem dX8_reach_80 : decode cX8_reach 80 = .ok (.goto 4, 3) := by decide +kernel
theorem dX8_reach_83 : decode cX8_reach 83 = .ok (.iconst 1, 1) := by decide +kernel
theorem dX8_reach_84 : decode cX8_reach 84 = .ok (.isub, 1) := by decide +kernel
theorem dX8_reach_85 : decode cX8_reach 85 = .ok (.istore_n 2, 1) := by decide +kernel
theorem dX8_reach_86 : decode cX8_reach 86 = .ok (.iinc 3 1, 3) := by decide +kernel
theorem dX8_reach_89 : decode cX8_reach 89 = .ok (.goto (-52), 3) := by decide +kernel
theorem dX8_reach_92 : decode cX8_reach 92 = .ok (.aload_n 0, 1) := by decide +kernel
theorem dX8_reach_93 : decode cX8_reach 93 = .ok (.iload_n 2, 1) := by decide +kernel
theorem dX8_reach_94 : decode cX8_reach 94 = .ok (.ifCond .gt 10, 3) := by decide +kernel
theorem dX8_reach_97 : decode cX8_reach 97 = .ok (.iload_n 3, 1) := by decide +kernel
theorem dX8_reach_98 : decode cX8_reach 98 = .ok (.sipush 1000, 3) := by decide +kernel
theorem dX8_reach_101 : decode cX8_reach 101 = .ok (.if_icmp .le 7, 3) := by decide +kernel
theorem dX8_reach_104 : decode cX8_reach 104 = .ok (.iconst (-1), 1) := by decide +kernel
theorem dX8_reach_105 : decode cX8_reach 105 = .ok (.goto 4, 3) := by decide +kernel
theorem dX8_reach_108 : decode cX8_reach 108 = .ok (.iload_n 3, 1) := by decide +kernel
theorem dX8_reach_109 : decode cX8_reach 109 = .ok (.invokevirtual 33, 3) := by decide +kernel
theorem dX8_reach_112 : decode cX8_reach 112 = .ok (.ireturn, 1) := by decide +kernel
theorem dX8_meanTiredness_0 : decode cX8_meanTiredness 0 = .ok (.aload_n 0, 1) := by decide +kernel
theorem dX8_meanTiredness_1 : decode cX8_meanTiredness 1 = .ok (.iconst 0, 1) := by decide +kernel
theorem dX8_meanTiredness_2 : decode cX8_meanTiredness 2 = .ok (.putfield 26, 3) := by decide +kernel
theorem dX8_meanTiredness_5 : decode cX8_meanTiredness 5 = .ok (.iconst 0, 1) := by decide +kernel
theorem dX8_meanTiredness_6 : decode cX8_meanTiredness 6 = .ok (.istore_n 1, 1) := by decide +kernel
theorem dX8_meanTiredness_7 : decode cX8_meanTiredness 7 = .ok (.iconst 0, 1) := by decide +kernel
theorem dX8_meanTiredness_8 : decode cX8_meanTiredness 8 = .ok (.istore_n 2, 1) := by decide +kernel
theorem dX8_meanTiredness_9 : decode cX8_meanTiredness 9 = .ok (.iload_n 2, 1) := by decide +kernel
theorem dX8_meanTiredness_10 : decode cX8_meanTiredness 10 = .ok (.aload_n 0, 1) := by decide +kernel
theorem dX8_meanTiredness_11 : decode cX8_meanTiredness 11 = .ok (.getfield 7, 3) := by decide +kernel
theorem dX8_meanTiredness_14 : decode cX8_meanTiredness 14 = .ok (.iconst 2, 1) := by decide +kernel
theorem dX8_meanTiredness_15 : decode cX8_meanTiredness 15 = .ok (.iaload, 1) := by decide +kernel
theorem dX8_meanTiredness_16 : decode cX8_meanTiredness 16 = .ok (.if_icmp .ge 19, 3) := by decide +kernel
theorem dX8_meanTiredness_19 : decode cX8_meanTiredness 19 = .ok (.iload_n 1, 1) := by decide +kernel
theorem dX8_meanTiredness_20 : decode cX8_meanTiredness 20 = .ok (.aload_n 0, 1) := by decide +kernel
theorem dX8_meanTiredness_21 : decode cX8_meanTiredness 21 = .ok (.iload_n 2, 1) := by decide +kernel
theorem dX8_meanTiredness_22 : decode cX8_meanTiredness 22 = .ok (.bipush 6, 2) := by decide +kernel
theorem dX8_meanTiredness_24 : decode cX8_meanTiredness 24 = .ok (.invokevirtual 37, 3) := by decide +kernel
theorem dX8_meanTiredness_27 : decode cX8_meanTiredness 27 = .ok (.iadd, 1) := by decide +kernel
theorem dX8_meanTiredness_28 : decode cX8_meanTiredness 28 = .ok (.istore_n 1, 1) := by decide +kernel
theorem dX8_meanTiredness_29 : decode cX8_meanTiredness 29 = .ok (.iinc 2 1, 3) := by decide +kernel
theorem dX8_meanTiredness_32 : decode cX8_meanTiredness 32 = .ok (.goto (-23), 3) := by decide +kernel
theorem dX8_meanTiredness_35 : decode cX8_meanTiredness 35 = .ok (.aload_n 0, 1) := by decide +kernel
theorem dX8_meanTiredness_36 : decode cX8_meanTiredness 36 = .ok (.getfield 7, 3) := by decide +kernel
theorem dX8_meanTiredness_39 : decode cX8_meanTiredness 39 = .ok (.iconst 2, 1) := by decide +kernel
theorem dX8_meanTiredness_40 : decode cX8_meanTiredness 40 = .ok (.iaload, 1) := by decide +kernel
theorem dX8_meanTiredness_41 : decode cX8_meanTiredness 41 = .ok (.ifCond .ne 7, 3) := by decide +kernel
theorem dX8_meanTiredness_44 : decode cX8_meanTiredness 44 = .ok (.dconst 0, 1) := by decide +kernel
theorem dX8_meanTiredness_45 : decode cX8_meanTiredness 45 = .ok (.goto 13, 3) := by decide +kernel
theorem dX8_meanTiredness_48 : decode cX8_meanTiredness 48 = .ok (.iload_n 1, 1) := by decide +kernel
theorem dX8_meanTiredness_49 : decode cX8_meanTiredness 49 = .ok (.i2d, 1) := by decide +kernel
theorem dX8_meanTiredness_50 : decode cX8_meanTiredness 50 = .ok (.aload_n 0, 1) := by decide +kernel
theorem dX8_meanTiredness_51 : decode cX8_meanTiredness 51 = .ok (.getfield 7, 3) := by decide +kernel
theorem dX8_meanTiredness_54 : decode cX8_meanTiredness 54 = .ok (.iconst 2, 1) := by decide +kernel
theorem dX8_meanTiredness_55 : decode cX8_meanTiredness 55 = .ok (.iaload, 1) := by decide +kernel
theorem dX8_meanTiredness_56 : decode cX8_meanTiredness 56 = .ok (.i2d, 1) := by decide +kernel
theorem dX8_meanTiredness_57 : decode cX8_meanTiredness 57 = .ok (.ddiv, 1) := by decide +kernel
theorem dX8_meanTiredness_58 : decode cX8_meanTiredness 58 = .ok (.dreturn, 1) := by decide +kernel
theorem dX8_append_0 : decode cX8_append 0 = .ok (.iload_n 1, 1) := by decide +kernel
theorem dX8_append_1 : decode cX8_append 1 = .ok (.iconst 0, 1) := by decide +kernel
theorem dX8_append_2 : decode cX8_append 2 = .ok (.bipush 127, 2) := by decide +kernel
theorem dX8_append_4 : decode cX8_append 4 = .ok (.invokestatic 54, 3) := by decide +kernel
theorem dX8_append_7 : decode cX8_append 7 = .ok (.ifCond .ne 9, 3) := by decide +kernel
theorem dX8_append_10 : decode cX8_append 10 = .ok (.aload_n 0, 1) := by decide +kernel
theorem dX8_append_11 : decode cX8_append 11 = .ok (.iconst 1, 1) := by decide +kernel
theorem dX8_append_12 : decode cX8_append 12 = .ok (.invokevirtual 58, 3) := by decide +kernel
theorem dX8_append_15 : decode cX8_append 15 = .ok (.ireturn, 1) := by decide +kernel
theorem dX8_append_16 : decode cX8_append 16 = .ok (.aload_n 0, 1) := by decide +kernel
theorem dX8_append_17 : decode cX8_append 17 = .ok (.getfield 183, 3) := by decide +kernel
theorem dX8_append_20 : decode cX8_append 20 = .ok (.bipush 90, 2) := by decide +kernel
theorem dX8_append_22 : decode cX8_append 22 = .ok (.if_icmp .ne 9, 3) := by decide +kernel
theorem dX8_append_25 : decode cX8_append 25 = .ok (.aload_n 0, 1) := by decide +kernel
theorem dX8_append_26 : decode cX8_append 26 = .ok (.iconst 2, 1) := by decide +kernel
theorem dX8_append_27 : decode cX8_append 27 = .ok (.invokevirtual 58, 3) := by decide +kernel
theorem dX8_append_30 : decode cX8_append 30 = .ok (.ireturn, 1) := by decide +kernel
theorem dX8_append_31 : decode cX8_append 31 = .ok (.aload_n 0, 1) := by decide +kernel
theorem dX8_append_32 : decode cX8_append 32 = .ok (.getfield 19, 3) := by decide +kernel
theorem dX8_append_35 : decode cX8_append 35 = .ok (.aload_n 0, 1) := by decide +kernel
theorem dX8_append_36 : decode cX8_append 36 = .ok (.getfield 183, 3) := by decide +kernel
theorem dX8_append_39 : decode cX8_append 39 = .ok (.iload_n 1, 1) := by decide +kernel
theorem dX8_append_40 : decode cX8_append 40 = .ok (.iastore, 1) := by decide +kernel
theorem dX8_append_41 : decode cX8_append 41 = .ok (.aload_n 0, 1) := by decide +kernel
theorem dX8_append_42 : decode cX8_append 42 = .ok (.dup, 1) := by decide +kernel
theorem dX8_append_43 : decode cX8_append 43 = .ok (.getfield 183, 3) := by decide +kernel
theorem dX8_append_46 : decode cX8_append 46 = .ok (.iconst 1, 1) := by decide +kernel
theorem dX8_append_47 : decode cX8_append 47 = .ok (.iadd, 1) := by decide +kernel
theorem dX8_append_48 : decode cX8_append 48 = .ok (.putfield 183, 3) := by decide +kernel
theorem dX8_append_51 : decode cX8_append 51 = .ok (.aload_n 0, 1) := by decide +kernel
theorem dX8_append_52 : decode cX8_append 52 = .ok (.aload_n 0, 1) := by decide +kernel
theorem dX8_append_53 : decode cX8_append 53 = .ok (.getfield 183, 3) := by decide +kernel
theorem dX8_append_56 : decode cX8_append 56 = .ok (.invokevirtual 33, 3) := by decide +kernel
theorem dX8_append_59 : decode cX8_append 59 = .ok (.ireturn, 1) := by decide +kernel
theorem dX8_clearText_0 : decode cX8_clearText 0 = .ok (.aload_n 0, 1) := by decide +kernel
theorem dX8_clearText_1 : decode cX8_clearText 1 = .ok (.getfield 183, 3) := by decide +kernel
theorem dX8_clearText_4 : decode cX8_clearText 4 = .ok (.istore_n 1, 1) := by decide +kernel
theorem dX8_clearText_5 : decode cX8_clearText 5 = .ok (.aload_n 0, 1) := by decide +kernel
theorem dX8_clearText_6 : decode cX8_clearText 6 = .ok (.iconst 0, 1) := by decide +kernel
theorem dX8_clearText_7 : decode cX8_clearText 7 = .ok (.putfield 183, 3) := by decide +kernel
theorem dX8_clearText_10 : decode cX8_clearText 10 = .ok (.aload_n 0, 1) := by decide +kernel
theorem dX8_clearText_11 : decode cX8_clearText 11 = .ok (.iload_n 1, 1) := by decide +kernel
theorem dX8_clearText_12 : decode cX8_clearText 12 = .ok (.invokevirtual 33, 3) := by decide +kernel
theorem dX8_clearText_15 : decode cX8_clearText 15 = .ok (.ireturn, 1) := by decide +kernel
theorem dX8_digit_0 : decode cX8_digit 0 = .ok (.aload_n 0, 1) := by decide +kernel
theorem dX8_digit_1 : decode cX8_digit 1 = .ok (.getfield 186, 3) := by decide +kernel
theorem dX8_digit_4 : decode cX8_digit 4 = .ok (.aload_n 0, 1) := by decide +kernel
theorem dX8_digit_5 : decode cX8_digit 5 = .ok (.getfield 183, 3) := by decide +kernel
theorem dX8_digit_8 : decode cX8_digit 8 = .ok (.if_icmp .ge 18, 3) := by decide +kernel
theorem dX8_digit_11 : decode cX8_digit 11 = .ok (.aload_n 0, 1) := by decide +kernel
theorem dX8_digit_12 : decode cX8_digit 12 = .ok (.getfield 19, 3) := by decide +kernel
theorem dX8_digit_15 : decode cX8_digit 15 = .ok (.aload_n 0, 1) := by decide +kernel
theorem dX8_digit_16 : decode cX8_digit 16 = .ok (.getfield 186, 3) := by decide +kernel
theorem dX8_digit_19 : decode cX8_digit 19 = .ok (.iaload, 1) := by decide +kernel
theorem dX8_digit_20 : decode cX8_digit 20 = .ok (.bipush 48, 2) := by decide +kernel
theorem dX8_digit_22 : decode cX8_digit 22 = .ok (.isub, 1) := by decide +kernel
theorem dX8_digit_23 : decode cX8_digit 23 = .ok (.goto 4, 3) := by decide +kernel
theorem dX8_digit_26 : decode cX8_digit 26 = .ok (.iconst (-1), 1) := by decide +kernel
theorem dX8_digit_27 : decode cX8_digit 27 = .ok (.istore_n 2, 1) := by decide +kernel
theorem dX8_digit_28 : decode cX8_digit 28 = .ok (.iload_n 2, 1) := by decide +kernel
theorem dX8_digit_29 : decode cX8_digit 29 = .ok (.iconst 0, 1) := by decide +kernel
theorem dX8_digit_30 : decode cX8_digit 30 = .ok (.iload_n 1, 1) := by decide +kernel
theorem dX8_digit_31 : decode cX8_digit 31 = .ok (.invokestatic 54, 3) := by decide +kernel
theorem dX8_digit_34 : decode cX8_digit 34 = .ok (.istore_n 3, 1) := by decide +kernel
theorem dX8_digit_35 : decode cX8_digit 35 = .ok (.aload_n 0, 1) := by decide +kernel
theorem dX8_digit_36 : decode cX8_digit 36 = .ok (.dup, 1) := by decide +kernel
theorem dX8_digit_37 : decode cX8_digit 37 = .ok (.getfield 186, 3) := by decide +kernel
theorem dX8_digit_40 : decode cX8_digit 40 = .ok (.iload_n 3, 1) := by decide +kernel
theorem dX8_digit_41 : decode cX8_digit 41 = .ok (.ifCond .eq 7, 3) := by decide +kernel
theorem dX8_digit_44 : decode cX8_digit 44 = .ok (.iconst 1, 1) := by decide +kernel
theorem dX8_digit_45 : decode cX8_digit 45 = .ok (.goto 4, 3) := by decide +kernel
theorem dX8_digit_48 : decode cX8_digit 48 = .ok (.iconst 0, 1) := by decide +kernel
theorem dX8_digit_49 : decode cX8_digit 49 = .ok (.iadd, 1) := by decide +kernel
theorem dX8_digit_50 : decode cX8_digit 50 = .ok (.putfield 186, 3) := by decide +kernel
theorem dX8_digit_53 : decode cX8_digit 53 = .ok (.iload_n 3, 1) := by decide +kernel
theorem dX8_digit_54 : decode cX8_digit 54 = .ok (.ifCond .eq 7, 3) := by decide +kernel
theorem dX8_digit_57 : decode cX8_digit 57 = .ok (.iload_n 2, 1) := by decide +kernel
theorem dX8_digit_58 : decode cX8_digit 58 = .ok (.goto 4, 3) := by decide +kernel
theorem dX8_digit_61 : decode cX8_digit 61 = .ok (.iconst (-1), 1) := by decide +kernel
theorem dX8_digit_62 : decode cX8_digit 62 = .ok (.ireturn, 1) := by decide +kernel
theorem dX8_readsMinutes_0 : decode cX8_readsMinutes 0 = .ok (.aload_n 0, 1) := by decide +kernel
theorem dX8_readsMinutes_1 : decode cX8_readsMinutes 1 = .ok (.getfield 186, 3) := by decide +kernel
theorem dX8_readsMinutes_4 : decode cX8_readsMinutes 4 = .ok (.istore_n 1, 1) := by decide +kernel
theorem dX8_readsMinutes_5 : decode cX8_readsMinutes 5 = .ok (.aload_n 0, 1) := by decide +kernel
theorem dX8_readsMinutes_6 : decode cX8_readsMinutes 6 = .ok (.iconst 0, 1) := by decide +kernel
theorem dX8_readsMinutes_7 : decode cX8_readsMinutes 7 = .ok (.putfield 189, 3) := by decide +kernel
theorem dX8_readsMinutes_10 : decode cX8_readsMinutes 10 = .ok (.aload_n 0, 1) := by decide +kernel
theorem dX8_readsMinutes_11 : decode cX8_readsMinutes 11 = .ok (.bipush 9, 2) := by decide +kernel
theorem dX8_readsMinutes_13 : decode cX8_readsMinutes 13 = .ok (.invokevirtual 192, 3) := by decide +kernel
theorem dX8_readsMinutes_16 : decode cX8_readsMinutes 16 = .ok (.istore_n 2, 1) := by decide +kernel
theorem dX8_readsMinutes_17 : decode cX8_readsMinutes 17 = .ok (.iload_n 2, 1) := by decide +kernel
theorem dX8_readsMinutes_18 : decode cX8_readsMinutes 18 = .ok (.iconst (-1), 1) := by decide +kernel
theorem dX8_readsMinutes_19 : decode cX8_readsMinutes 19 = .ok (.if_icmp .eq 36, 3) := by decide +kernel
theorem dX8_readsMinutes_22 : decode cX8_readsMinutes 22 = .ok (.aload_n 0, 1) := by decide +kernel
theorem dX8_readsMinutes_23 : decode cX8_readsMinutes 23 = .ok (.getfield 186, 3) := by decide +kernel
theorem dX8_readsMinutes_26 : decode cX8_readsMinutes 26 = .ok (.iload_n 1, 1) := by decide +kernel
theorem dX8_readsMinutes_27 : decode cX8_readsMinutes 27 = .ok (.isub, 1) := by decide +kernel
theorem dX8_readsMinutes_28 : decode cX8_readsMinutes 28 = .ok (.iconst 3, 1) := by decide +kernel
theorem dX8_readsMinutes_29 : decode cX8_readsMinutes 29 = .ok (.if_icmp .gt 26, 3) := by decide +kernel
theorem dX8_readsMinutes_32 : decode cX8_readsMinutes 32 = .ok (.aload_n 0, 1) := by decide +kernel
theorem dX8_readsMinutes_33 : decode cX8_readsMinutes 33 = .ok (.bipush 10, 2) := by decide +kernel
theorem dX8_readsMinutes_35 : decode cX8_readsMinutes 35 = .ok (.aload_n 0, 1) := by decide +kernel
theorem dX8_readsMinutes_36 : decode cX8_readsMinutes 36 = .ok (.getfield 189, 3) := by decide +kernel
theorem dX8_readsMinutes_39 : decode cX8_readsMinutes 39 = .ok (.imul, 1) := by decide +kernel
theorem dX8_readsMinutes_40 : decode cX8_readsMinutes 40 = .ok (.iload_n 2, 1) := by decide +kernel
theorem dX8_readsMinutes_41 : decode cX8_readsMinutes 41 = .ok (.iadd, 1) := by decide +kernel
theorem dX8_readsMinutes_42 : decode cX8_readsMinutes 42 = .ok (.putfield 189, 3) := by decide +kernel
theorem dX8_readsMinutes_45 : decode cX8_readsMinutes 45 = .ok (.aload_n 0, 1) := by decide +kernel
theorem dX8_readsMinutes_46 : decode cX8_readsMinutes 46 = .ok (.bipush 9, 2) := by decide +kernel
theorem dX8_readsMinutes_48 : decode cX8_readsMinutes 48 = .ok (.invokevirtual 192, 3) := by decide +kernel
theorem dX8_readsMinutes_51 : decode cX8_readsMinutes 51 = .ok (.istore_n 2, 1) := by decide +kernel
theorem dX8_readsMinutes_52 : decode cX8_readsMinutes 52 = .ok (.goto (-35), 3) := by decide +kernel
theorem dX8_readsMinutes_55 : decode cX8_readsMinutes 55 = .ok (.aload_n 0, 1) := by decide +kernel
theorem dX8_readsMinutes_56 : decode cX8_readsMinutes 56 = .ok (.getfield 186, 3) := by decide +kernel
theorem dX8_readsMinutes_59 : decode cX8_readsMinutes 59 = .ok (.iload_n 1, 1) := by decide +kernel
theorem dX8_readsMinutes_60 : decode cX8_readsMinutes 60 = .ok (.isub, 1) := by decide +kernel
theorem dX8_readsMinutes_61 : decode cX8_readsMinutes 61 = .ok (.iconst 3, 1) := by decide +kernel
theorem dX8_readsMinutes_62 : decode cX8_readsMinutes 62 = .ok (.if_icmp .le 12, 3) := by decide +kernel
theorem dX8_readsMinutes_65 : decode cX8_readsMinutes 65 = .ok (.aload_n 0, 1) := by decide +kernel
theorem dX8_readsMinutes_66 : decode cX8_readsMinutes 66 = .ok (.iload_n 1, 1) := by decide +kernel
theorem dX8_readsMinutes_67 : decode cX8_readsMinutes 67 = .ok (.iconst 3, 1) := by decide +kernel
theorem dX8_readsMinutes_68 : decode cX8_readsMinutes 68 = .ok (.iadd, 1) := by decide +kernel
theorem dX8_readsMinutes_69 : decode cX8_readsMinutes 69 = .ok (.putfield 186, 3) := by decide +kernel
theorem dX8_readsMinutes_72 : decode cX8_readsMinutes 72 = .ok (.iconst 0, 1) := by decide +kernel
theorem dX8_readsMinutes_73 : decode cX8_readsMinutes 73 = .ok (.ireturn, 1) := by decide +kernel
theorem dX8_readsMinutes_74 : decode cX8_readsMinutes 74 = .ok (.aload_n 0, 1) := by decide +kernel
theorem dX8_readsMinutes_75 : decode cX8_readsMinutes 75 = .ok (.getfield 186, 3) := by decide +kernel
theorem dX8_readsMinutes_78 : decode cX8_readsMinutes 78 = .ok (.iload_n 1, 1) := by decide +kernel
theorem dX8_readsMinutes_79 : decode cX8_readsMinutes 79 = .ok (.if_icmp .eq 17, 3) := by decide +kernel
theorem dX8_readsMinutes_82 : decode cX8_readsMinutes 82 = .ok (.aload_n 0, 1) := by decide +kernel
theorem dX8_readsMinutes_83 : decode cX8_readsMinutes 83 = .ok (.getfield 189, 3) := by decide +kernel
theorem dX8_readsMinutes_86 : decode cX8_readsMinutes 86 = .ok (.iconst 1, 1) := by decide +kernel
theorem dX8_readsMinutes_87 : decode cX8_readsMinutes 87 = .ok (.sipush 600, 3) := by decide +kernel
theorem dX8_readsMinutes_90 : decode cX8_readsMinutes 90 = .ok (.invokestatic 54, 3) := by decide +kernel
theorem dX8_readsMinutes_93 : decode cX8_readsMinutes 93 = .ok (.ifCond .eq 7, 3) := by decide +kernel
theorem dX8_readsMinutes_96 : decode cX8_readsMinutes 96 = .ok (.iconst 1, 1) := by decide +kernel
theorem dX8_readsMinutes_97 : decode cX8_readsMinutes 97 = .ok (.goto 4, 3) := by decide +kernel
theorem dX8_readsMinutes_100 : decode cX8_readsMinutes 100 = .ok (.iconst 0, 1) := by decide +kernel
theorem dX8_readsMinutes_101 : decode cX8_readsMinutes 101 = .ok (.istore_n 3, 1) := by decide +kernel
theorem dX8_readsMinutes_102 : decode cX8_readsMinutes 102 = .ok (.aload_n 0, 1) := by decide +kernel
theorem dX8_readsMinutes_103 : decode cX8_readsMinutes 103 = .ok (.iload_n 3, 1) := by decide +kernel
theorem dX8_readsMinutes_104 : decode cX8_readsMinutes 104 = .ok (.ifCond .eq 10, 3) := by decide +kernel
theorem dX8_readsMinutes_107 : decode cX8_readsMinutes 107 = .ok (.aload_n 0, 1) := by decide +kernel
theorem dX8_readsMinutes_108 : decode cX8_readsMinutes 108 = .ok (.getfield 186, 3) := by decide +kernel
theorem dX8_readsMinutes_111 : decode cX8_readsMinutes 111 = .ok (.goto 4, 3) := by decide +kernel
theorem dX8_readsMinutes_114 : decode cX8_readsMinutes 114 = .ok (.iload_n 1, 1) := by decide +kernel
theorem dX8_readsMinutes_115 : decode cX8_readsMinutes 115 = .ok (.putfield 186, 3) := by decide +kernel
theorem dX8_readsMinutes_118 : decode cX8_readsMinutes 118 = .ok (.iload_n 3, 1) := by decide +kernel
theorem dX8_readsMinutes_119 : decode cX8_readsMinutes 119 = .ok (.ifCond .eq 15, 3) := by decide +kernel
theorem dX8_readsMinutes_122 : decode cX8_readsMinutes 122 = .ok (.aload_n 0, 1) := by decide +kernel
theorem dX8_readsMinutes_123 : decode cX8_readsMinutes 123 = .ok (.getfield 186, 3) := by decide +kernel
theorem dX8_readsMinutes_126 : decode cX8_readsMinutes 126 = .ok (.iload_n 1, 1) := by decide +kernel
theorem dX8_readsMinutes_127 : decode cX8_readsMinutes 127 = .ok (.if_icmp .le 7, 3) := by decide +kernel
theorem dX8_readsMinutes_130 : decode cX8_readsMinutes 130 = .ok (.iconst 1, 1) := by decide +kernel
theorem dX8_readsMinutes_131 : decode cX8_readsMinutes 131 = .ok (.goto 4, 3) := by decide +kernel
theorem dX8_readsMinutes_134 : decode cX8_readsMinutes 134 = .ok (.iconst 0, 1) := by decide +kernel
theorem dX8_readsMinutes_135 : decode cX8_readsMinutes 135 = .ok (.ireturn, 1) := by decide +kernel
theorem dX8_readsTeam_0 : decode cX8_readsTeam 0 = .ok (.aload_n 0, 1) := by decide +kernel
theorem dX8_readsTeam_1 : decode cX8_readsTeam 1 = .ok (.iconst 0, 1) := by decide +kernel
theorem dX8_readsTeam_2 : decode cX8_readsTeam 2 = .ok (.putfield 189, 3) := by decide +kernel
theorem dX8_readsTeam_5 : decode cX8_readsTeam 5 = .ok (.iconst (-1), 1) := by decide +kernel
theorem dX8_readsTeam_6 : decode cX8_readsTeam 6 = .ok (.istore_n 1, 1) := by decide +kernel
theorem dX8_readsTeam_7 : decode cX8_readsTeam 7 = .ok (.aload_n 0, 1) := by decide +kernel
theorem dX8_readsTeam_8 : decode cX8_readsTeam 8 = .ok (.iconst 5, 1) := by decide +kernel
theorem dX8_readsTeam_9 : decode cX8_readsTeam 9 = .ok (.invokevirtual 192, 3) := by decide +kernel
theorem dX8_readsTeam_12 : decode cX8_readsTeam 12 = .ok (.istore_n 2, 1) := by decide +kernel
theorem dX8_readsTeam_13 : decode cX8_readsTeam 13 = .ok (.iload_n 2, 1) := by decide +kernel
theorem dX8_readsTeam_14 : decode cX8_readsTeam 14 = .ok (.iload_n 1, 1) := by decide +kernel
theorem dX8_readsTeam_15 : decode cX8_readsTeam 15 = .ok (.if_icmp .le 26, 3) := by decide +kernel
theorem dX8_readsTeam_18 : decode cX8_readsTeam 18 = .ok (.aload_n 0, 1) := by decide +kernel
theorem dX8_readsTeam_19 : decode cX8_readsTeam 19 = .ok (.dup, 1) := by decide +kernel
theorem dX8_readsTeam_20 : decode cX8_readsTeam 20 = .ok (.getfield 189, 3) := by decide +kernel
theorem dX8_readsTeam_23 : decode cX8_readsTeam 23 = .ok (.iconst 1, 1) := by decide +kernel
theorem dX8_readsTeam_24 : decode cX8_readsTeam 24 = .ok (.iload_n 2, 1) := by decide +kernel
theorem dX8_readsTeam_25 : decode cX8_readsTeam 25 = .ok (.ishl, 1) := by decide +kernel
theorem dX8_readsTeam_26 : decode cX8_readsTeam 26 = .ok (.ior, 1) := by decide +kernel
theorem dX8_readsTeam_27 : decode cX8_readsTeam 27 = .ok (.putfield 189, 3) := by decide +kernel
theorem dX8_readsTeam_30 : decode cX8_readsTeam 30 = .ok (.iload_n 2, 1) := by decide +kernel
theorem dX8_readsTeam_31 : decode cX8_readsTeam 31 = .ok (.istore_n 1, 1) := by decide +kernel
theorem dX8_readsTeam_32 : decode cX8_readsTeam 32 = .ok (.aload_n 0, 1) := by decide +kernel
theorem dX8_readsTeam_33 : decode cX8_readsTeam 33 = .ok (.iconst 5, 1) := by decide +kernel
theorem dX8_readsTeam_34 : decode cX8_readsTeam 34 = .ok (.invokevirtual 192, 3) := by decide +kernel
theorem dX8_readsTeam_37 : decode cX8_readsTeam 37 = .ok (.istore_n 2, 1) := by decide +kernel
theorem dX8_readsTeam_38 : decode cX8_readsTeam 38 = .ok (.goto (-25), 3) := by decide +kernel
theorem dX8_readsTeam_41 : decode cX8_readsTeam 41 = .ok (.aload_n 0, 1) := by decide +kernel
theorem dX8_readsTeam_42 : decode cX8_readsTeam 42 = .ok (.dup, 1) := by decide +kernel
theorem dX8_readsTeam_43 : decode cX8_readsTeam 43 = .ok (.getfield 186, 3) := by decide +kernel
theorem dX8_readsTeam_46 : decode cX8_readsTeam 46 = .ok (.iload_n 2, 1) := by decide +kernel
theorem dX8_readsTeam_47 : decode cX8_readsTeam 47 = .ok (.iconst (-1), 1) := by decide +kernel
theorem dX8_readsTeam_48 : decode cX8_readsTeam 48 = .ok (.if_icmp .eq 7, 3) := by decide +kernel
theorem dX8_readsTeam_51 : decode cX8_readsTeam 51 = .ok (.iconst 1, 1) := by decide +kernel
theorem dX8_readsTeam_52 : decode cX8_readsTeam 52 = .ok (.goto 4, 3) := by decide +kernel
theorem dX8_readsTeam_55 : decode cX8_readsTeam 55 = .ok (.iconst 0, 1) := by decide +kernel
theorem dX8_readsTeam_56 : decode cX8_readsTeam 56 = .ok (.isub, 1) := by decide +kernel
theorem dX8_readsTeam_57 : decode cX8_readsTeam 57 = .ok (.putfield 186, 3) := by decide +kernel
theorem dX8_readsTeam_60 : decode cX8_readsTeam 60 = .ok (.iload_n 2, 1) := by decide +kernel
theorem dX8_readsTeam_61 : decode cX8_readsTeam 61 = .ok (.iconst (-1), 1) := by decide +kernel
theorem dX8_readsTeam_62 : decode cX8_readsTeam 62 = .ok (.if_icmp .ne 18, 3) := by decide +kernel
theorem dX8_readsTeam_65 : decode cX8_readsTeam 65 = .ok (.aload_n 0, 1) := by decide +kernel
theorem dX8_readsTeam_66 : decode cX8_readsTeam 66 = .ok (.getfield 189, 3) := by decide +kernel
theorem dX8_readsTeam_69 : decode cX8_readsTeam 69 = .ok (.invokestatic 118, 3) := by decide +kernel
theorem dX8_readsTeam_72 : decode cX8_readsTeam 72 = .ok (.iconst 2, 1) := by decide +kernel
theorem dX8_readsTeam_73 : decode cX8_readsTeam 73 = .ok (.if_icmp .le 7, 3) := by decide +kernel
theorem dX8_readsTeam_76 : decode cX8_readsTeam 76 = .ok (.iconst 1, 1) := by decide +kernel
theorem dX8_readsTeam_77 : decode cX8_readsTeam 77 = .ok (.goto 4, 3) := by decide +kernel
theorem dX8_readsTeam_80 : decode cX8_readsTeam 80 = .ok (.iconst 0, 1) := by decide +kernel
theorem dX8_readsTeam_81 : decode cX8_readsTeam 81 = .ok (.ireturn, 1) := by decide +kernel
theorem dX8_readsRest_0 : decode cX8_readsRest 0 = .ok (.aload_n 0, 1) := by decide +kernel
theorem dX8_readsRest_1 : decode cX8_readsRest 1 = .ok (.getfield 195, 3) := by decide +kernel
theorem dX8_readsRest_4 : decode cX8_readsRest 4 = .ok (.bipush 112, 2) := by decide +kernel
theorem dX8_readsRest_6 : decode cX8_readsRest 6 = .ok (.if_icmp .ne 8, 3) := by decide +kernel
theorem dX8_readsRest_9 : decode cX8_readsRest 9 = .ok (.aload_n 0, 1) := by decide +kernel
theorem dX8_readsRest_10 : decode cX8_readsRest 10 = .ok (.invokevirtual 198, 3) := by decide +kernel
theorem dX8_readsRest_13 : decode cX8_readsRest 13 = .ok (.ireturn, 1) := by decide +kernel
theorem dX8_readsRest_14 : decode cX8_readsRest 14 = .ok (.aload_n 0, 1) := by decide +kernel
theorem dX8_readsRest_15 : decode cX8_readsRest 15 = .ok (.getfield 195, 3) := by decide +kernel
theorem dX8_readsRest_18 : decode cX8_readsRest 18 = .ok (.bipush 99, 2) := by decide +kernel
theorem dX8_readsRest_20 : decode cX8_readsRest 20 = .ok (.if_icmp .ne 8, 3) := by decide +kernel
theorem dX8_readsRest_23 : decode cX8_readsRest 23 = .ok (.aload_n 0, 1) := by decide +kernel
theorem dX8_readsRest_24 : decode cX8_readsRest 24 = .ok (.invokevirtual 201, 3) := by decide +kernel
theorem dX8_readsRest_27 : decode cX8_readsRest 27 = .ok (.ireturn, 1) := by decide +kernel
theorem dX8_readsRest_28 : decode cX8_readsRest 28 = .ok (.aload_n 0, 1) := by decide +kernel
theorem dX8_readsRest_29 : decode cX8_readsRest 29 = .ok (.getfield 195, 3) := by decide +kernel
theorem dX8_readsRest_32 : decode cX8_readsRest 32 = .ok (.bipush 103, 2) := by decide +kernel
theorem dX8_readsRest_34 : decode cX8_readsRest 34 = .ok (.if_icmp .eq 42, 3) := by decide +kernel
theorem dX8_readsRest_37 : decode cX8_readsRest 37 = .ok (.aload_n 0, 1) := by decide +kernel
theorem dX8_readsRest_38 : decode cX8_readsRest 38 = .ok (.getfield 195, 3) := by decide +kernel
theorem dX8_readsRest_41 : decode cX8_readsRest 41 = .ok (.bipush 114, 2) := by decide +kernel
theorem dX8_readsRest_43 : decode cX8_readsRest 43 = .ok (.if_icmp .eq 33, 3) := by decide +kernel
theorem dX8_readsRest_46 : decode cX8_readsRest 46 = .ok (.aload_n 0, 1) := by decide +kernel
theorem dX8_readsRest_47 : decode cX8_readsRest 47 = .ok (.getfield 195, 3) := by decide +kernel
theorem dX8_readsRest_50 : decode cX8_readsRest 50 = .ok (.bipush 116, 2) := by decide +kernel
theorem dX8_readsRest_52 : decode cX8_readsRest 52 = .ok (.if_icmp .eq 24, 3) := by decide +kernel
theorem dX8_readsRest_55 : decode cX8_readsRest 55 = .ok (.aload_n 0, 1) := by decide +kernel
theorem dX8_readsRest_56 : decode cX8_readsRest 56 = .ok (.getfield 195, 3) := by decide +kernel
theorem dX8_readsRest_59 : decode cX8_readsRest 59 = .ok (.bipush 109, 2) := by decide +kernel
theorem dX8_readsRest_61 : decode cX8_readsRest 61 = .ok (.if_icmp .eq 15, 3) := by decide +kernel
theorem dX8_readsRest_64 : decode cX8_readsRest 64 = .ok (.aload_n 0, 1) := by decide +kernel
theorem dX8_readsRest_65 : decode cX8_readsRest 65 = .ok (.dup, 1) := by decide +kernel
theorem dX8_readsRest_66 : decode cX8_readsRest 66 = .ok (.getfield 186, 3) := by decide +kernel
theorem dX8_readsRest_69 : decode cX8_readsRest 69 = .ok (.iconst 1, 1) := by decide +kernel
theorem dX8_readsRest_70 : decode cX8_readsRest 70 = .ok (.isub, 1) := by decide +kernel
theorem dX8_readsRest_71 : decode cX8_readsRest 71 = .ok (.putfield 186, 3) := by decide +kernel
theorem dX8_readsRest_74 : decode cX8_readsRest 74 = .ok (.iconst 0, 1) := by decide +kernel
theorem dX8_readsRest_75 : decode cX8_readsRest 75 = .ok (.ireturn, 1) := by decide +kernel
theorem dX8_readsRest_76 : decode cX8_readsRest 76 = .ok (.aload_n 0, 1) := by decide +kernel
theorem dX8_readsRest_77 : decode cX8_readsRest 77 = .ok (.aload_n 0, 1) := by decide +kernel
theorem dX8_readsRest_78 : decode cX8_readsRest 78 = .ok (.iconst 5, 1) := by decide +kernel
theorem dX8_readsRest_79 : decode cX8_readsRest 79 = .ok (.invokevirtual 192, 3) := by decide +kernel
theorem dX8_readsRest_82 : decode cX8_readsRest 82 = .ok (.putfield 189, 3) := by decide +kernel
theorem dX8_readsRest_85 : decode cX8_readsRest 85 = .ok (.aload_n 0, 1) := by decide +kernel
theorem dX8_readsRest_86 : decode cX8_readsRest 86 = .ok (.getfield 189, 3) := by decide +kernel
theorem dX8_readsRest_89 : decode cX8_readsRest 89 = .ok (.iconst (-1), 1) := by decide +kernel
theorem dX8_readsRest_90 : decode cX8_readsRest 90 = .ok (.if_icmp .eq 21, 3) := by decide +kernel
theorem dX8_readsRest_93 : decode cX8_readsRest 93 = .ok (.aload_n 0, 1) := by decide +kernel
theorem dX8_readsRest_94 : decode cX8_readsRest 94 = .ok (.getfield 195, 3) := by decide +kernel
theorem dX8_readsRest_97 : decode cX8_readsRest 97 = .ok (.bipush 114, 2) := by decide +kernel
theorem dX8_readsRest_99 : decode cX8_readsRest 99 = .ok (.if_icmp .eq 12, 3) := by decide +kernel
theorem dX8_readsRest_102 : decode cX8_readsRest 102 = .ok (.aload_n 0, 1) := by decide +kernel
theorem dX8_readsRest_103 : decode cX8_readsRest 103 = .ok (.getfield 195, 3) := by decide +kernel
theorem dX8_readsRest_106 : decode cX8_readsRest 106 = .ok (.bipush 109, 2) := by decide +kernel
theorem dX8_readsRest_108 : decode cX8_readsRest 108 = .ok (.if_icmp .ne 17, 3) := by decide +kernel
theorem dX8_readsRest_111 : decode cX8_readsRest 111 = .ok (.aload_n 0, 1) := by decide +kernel
theorem dX8_readsRest_112 : decode cX8_readsRest 112 = .ok (.getfield 189, 3) := by decide +kernel
theorem dX8_readsRest_115 : decode cX8_readsRest 115 = .ok (.iconst (-1), 1) := by decide +kernel
theorem dX8_readsRest_116 : decode cX8_readsRest 116 = .ok (.if_icmp .eq 7, 3) := by decide +kernel
theorem dX8_readsRest_119 : decode cX8_readsRest 119 = .ok (.iconst 1, 1) := by decide +kernel
theorem dX8_readsRest_120 : decode cX8_readsRest 120 = .ok (.goto 4, 3) := by decide +kernel
theorem dX8_readsRest_123 : decode cX8_readsRest 123 = .ok (.iconst 0, 1) := by decide +kernel
theorem dX8_readsRest_124 : decode cX8_readsRest 124 = .ok (.ireturn, 1) := by decide +kernel
theorem dX8_readsRest_125 : decode cX8_readsRest 125 = .ok (.aload_n 0, 1) := by decide +kernel
theorem dX8_readsRest_126 : decode cX8_readsRest 126 = .ok (.aload_n 0, 1) := by decide +kernel
theorem dX8_readsRest_127 : decode cX8_readsRest 127 = .ok (.bipush 7, 2) := by decide +kernel
theorem dX8_readsRest_129 : decode cX8_readsRest 129 = .ok (.invokevirtual 192, 3) := by decide +kernel
theorem dX8_readsRest_132 : decode cX8_readsRest 132 = .ok (.putfield 204, 3) := by decide +kernel
theorem dX8_readsRest_135 : decode cX8_readsRest 135 = .ok (.aload_n 0, 1) := by decide +kernel
theorem dX8_readsRest_136 : decode cX8_readsRest 136 = .ok (.getfield 204, 3) := by decide +kernel
theorem dX8_readsRest_139 : decode cX8_readsRest 139 = .ok (.iconst (-1), 1) := by decide +kernel
theorem dX8_readsRest_140 : decode cX8_readsRest 140 = .ok (.if_icmp .eq 7, 3) := by decide +kernel
theorem dX8_readsRest_143 : decode cX8_readsRest 143 = .ok (.iconst 1, 1) := by decide +kernel
theorem dX8_readsRest_144 : decode cX8_readsRest 144 = .ok (.goto 4, 3) := by decide +kernel
theorem dX8_readsRest_147 : decode cX8_readsRest 147 = .ok (.iconst 0, 1) := by decide +kernel
theorem dX8_readsRest_148 : decode cX8_readsRest 148 = .ok (.ireturn, 1) := by decide +kernel
theorem dX8_readsOrder_0 : decode cX8_readsOrder 0 = .ok (.aload_n 0, 1) := by decide +kernel
theorem dX8_readsOrder_1 : decode cX8_readsOrder 1 = .ok (.aload_n 0, 1) := by decide +kernel
theorem dX8_readsOrder_2 : decode cX8_readsOrder 2 = .ok (.getfield 19, 3) := by decide +kernel
theorem dX8_readsOrder_5 : decode cX8_readsOrder 5 = .ok (.aload_n 0, 1) := by decide +kernel
theorem dX8_readsOrder_6 : decode cX8_readsOrder 6 = .ok (.getfield 186, 3) := by decide +kernel
theorem dX8_readsOrder_9 : decode cX8_readsOrder 9 = .ok (.iaload, 1) := by decide +kernel
theorem dX8_readsOrder_10 : decode cX8_readsOrder 10 = .ok (.putfield 195, 3) := by decide +kernel
theorem dX8_readsOrder_13 : decode cX8_readsOrder 13 = .ok (.aload_n 0, 1) := by decide +kernel
theorem dX8_readsOrder_14 : decode cX8_readsOrder 14 = .ok (.dup, 1) := by decide +kernel
theorem dX8_readsOrder_15 : decode cX8_readsOrder 15 = .ok (.getfield 186, 3) := by decide +kernel
theorem dX8_readsOrder_18 : decode cX8_readsOrder 18 = .ok (.iconst 1, 1) := by decide +kernel
theorem dX8_readsOrder_19 : decode cX8_readsOrder 19 = .ok (.iadd, 1) := by decide +kernel
theorem dX8_readsOrder_20 : decode cX8_readsOrder 20 = .ok (.putfield 186, 3) := by decide +kernel
theorem dX8_readsOrder_23 : decode cX8_readsOrder 23 = .ok (.aload_n 0, 1) := by decide +kernel
theorem dX8_readsOrder_24 : decode cX8_readsOrder 24 = .ok (.invokevirtual 207, 3) := by decide +kernel
theorem dX8_readsOrder_27 : decode cX8_readsOrder 27 = .ok (.ifCond .eq 28, 3) := by decide +kernel
theorem dX8_readsOrder_30 : decode cX8_readsOrder 30 = .ok (.aload_n 0, 1) := by decide +kernel
theorem dX8_readsOrder_31 : decode cX8_readsOrder 31 = .ok (.getfield 186, 3) := by decide +kernel
theorem dX8_readsOrder_34 : decode cX8_readsOrder 34 = .ok (.aload_n 0, 1) := by decide +kernel
theorem dX8_readsOrder_35 : decode cX8_readsOrder 35 = .ok (.getfield 183, 3) := by decide +kernel
theorem dX8_readsOrder_38 : decode cX8_readsOrder 38 = .ok (.if_icmp .eq 17, 3) := by decide +kernel
theorem dX8_readsOrder_41 : decode cX8_readsOrder 41 = .ok (.aload_n 0, 1) := by decide +kernel
theorem dX8_readsOrder_42 : decode cX8_readsOrder 42 = .ok (.getfield 19, 3) := by decide +kernel
theorem dX8_readsOrder_45 : decode cX8_readsOrder 45 = .ok (.aload_n 0, 1) := by decide +kernel
theorem dX8_readsOrder_46 : decode cX8_readsOrder 46 = .ok (.getfield 186, 3) := by decide +kernel
theorem dX8_readsOrder_49 : decode cX8_readsOrder 49 = .ok (.iaload, 1) := by decide +kernel
theorem dX8_readsOrder_50 : decode cX8_readsOrder 50 = .ok (.bipush 59, 2) := by decide +kernel
theorem dX8_readsOrder_52 : decode cX8_readsOrder 52 = .ok (.if_icmp .eq 5, 3) := by decide +kernel
theorem dX8_readsOrder_55 : decode cX8_readsOrder 55 = .ok (.iconst 0, 1) := by decide +kernel
theorem dX8_readsOrder_56 : decode cX8_readsOrder 56 = .ok (.ireturn, 1) := by decide +kernel
theorem dX8_readsOrder_57 : decode cX8_readsOrder 57 = .ok (.aload_n 0, 1) := by decide +kernel
theorem dX8_readsOrder_58 : decode cX8_readsOrder 58 = .ok (.dup, 1) := by decide +kernel
theorem dX8_readsOrder_59 : decode cX8_readsOrder 59 = .ok (.getfield 186, 3) := by decide +kernel
theorem dX8_readsOrder_62 : decode cX8_readsOrder 62 = .ok (.iconst 1, 1) := by decide +kernel
theorem dX8_readsOrder_63 : decode cX8_readsOrder 63 = .ok (.iadd, 1) := by decide +kernel
theorem dX8_readsOrder_64 : decode cX8_readsOrder 64 = .ok (.putfield 186, 3) := by decide +kernel
theorem dX8_readsOrder_67 : decode cX8_readsOrder 67 = .ok (.iconst 1, 1) := by decide +kernel
theorem dX8_readsOrder_68 : decode cX8_readsOrder 68 = .ok (.ireturn, 1) := by decide +kernel
theorem dX8_faultAt_0 : decode cX8_faultAt 0 = .ok (.aload_n 0, 1) := by decide +kernel
theorem dX8_faultAt_1 : decode cX8_faultAt 1 = .ok (.iconst 0, 1) := by decide +kernel
theorem dX8_faultAt_2 : decode cX8_faultAt 2 = .ok (.putfield 186, 3) := by decide +kernel
theorem dX8_faultAt_5 : decode cX8_faultAt 5 = .ok (.aload_n 0, 1) := by decide +kernel
theorem dX8_faultAt_6 : decode cX8_faultAt 6 = .ok (.getfield 186, 3) := by decide +kernel
theorem dX8_faultAt_9 : decode cX8_faultAt 9 = .ok (.aload_n 0, 1) := by decide +kernel
theorem dX8_faultAt_10 : decode cX8_faultAt 10 = .ok (.getfield 183, 3) := by decide +kernel
theorem dX8_faultAt_13 : decode cX8_faultAt 13 = .ok (.if_icmp .ge 15, 3) := by decide +kernel
theorem dX8_faultAt_16 : decode cX8_faultAt 16 = .ok (.aload_n 0, 1) := by decide +kernel
theorem dX8_faultAt_17 : decode cX8_faultAt 17 = .ok (.invokevirtual 210, 3) := by decide +kernel
theorem dX8_faultAt_20 : decode cX8_faultAt 20 = .ok (.ifCond .ne (-15), 3) := by decide +kernel
theorem dX8_faultAt_23 : decode cX8_faultAt 23 = .ok (.aload_n 0, 1) := by decide +kernel
theorem dX8_faultAt_24 : decode cX8_faultAt 24 = .ok (.getfield 186, 3) := by decide +kernel
theorem dX8_faultAt_27 : decode cX8_faultAt 27 = .ok (.ireturn, 1) := by decide +kernel
theorem dX8_faultAt_28 : decode cX8_faultAt 28 = .ok (.iconst (-1), 1) := by decide +kernel
theorem dX8_faultAt_29 : decode cX8_faultAt 29 = .ok (.ireturn, 1) := by decide +kernel
theorem dX8_does_0 : decode cX8_does 0 = .ok (.aload_n 0, 1) := by decide +kernel
theorem dX8_does_1 : decode cX8_does 1 = .ok (.getfield 195, 3) := by decide +kernel
theorem dX8_does_4 : decode cX8_does 4 = .ok (.lookupswitch 105 #[(99, 87), (103, 52), (109, 96), (114, 65), (116, 74)], 52) := by decide +kernel
theorem dX8_does_56 : decode cX8_does 56 = .ok (.aload_n 0, 1) := by decide +kernel
theorem dX8_does_57 : decode cX8_does 57 = .ok (.aload_n 0, 1) := by decide +kernel
theorem dX8_does_58 : decode cX8_does 58 = .ok (.getfield 189, 3) := by decide +kernel
theorem dX8_does_61 : decode cX8_does 61 = .ok (.aload_n 0, 1) := by decide +kernel
theorem dX8_does_62 : decode cX8_does 62 = .ok (.getfield 204, 3) := by decide +kernel
theorem dX8_does_65 : decode cX8_does 65 = .ok (.invokevirtual 144, 3) := by decide +kernel
theorem dX8_does_68 : decode cX8_does 68 = .ok (.ireturn, 1) := by decide +kernel
theorem dX8_does_69 : decode cX8_does 69 = .ok (.aload_n 0, 1) := by decide +kernel
theorem dX8_does_70 : decode cX8_does 70 = .ok (.aload_n 0, 1) := by decide +kernel
theorem dX8_does_71 : decode cX8_does 71 = .ok (.getfield 189, 3) := by decide +kernel
theorem dX8_does_74 : decode cX8_does 74 = .ok (.invokevirtual 153, 3) := by decide +kernel
theorem dX8_does_77 : decode cX8_does 77 = .ok (.ireturn, 1) := by decide +kernel
theorem dX8_does_78 : decode cX8_does 78 = .ok (.aload_n 0, 1) := by decide +kernel
theorem dX8_does_79 : decode cX8_does 79 = .ok (.aload_n 0, 1) := by decide +kernel
theorem dX8_does_80 : decode cX8_does 80 = .ok (.getfield 189, 3) := by decide +kernel
theorem dX8_does_83 : decode cX8_does 83 = .ok (.aload_n 0, 1) := by decide +kernel
theorem dX8_does_84 : decode cX8_does 84 = .ok (.getfield 204, 3) := by decide +kernel
theorem dX8_does_87 : decode cX8_does 87 = .ok (.invokevirtual 150, 3) := by decide +kernel
theorem dX8_does_90 : decode cX8_does 90 = .ok (.ireturn, 1) := by decide +kernel
theorem dX8_does_91 : decode cX8_does 91 = .ok (.aload_n 0, 1) := by decide +kernel
theorem dX8_does_92 : decode cX8_does 92 = .ok (.aload_n 0, 1) := by decide +kernel
theorem dX8_does_93 : decode cX8_does 93 = .ok (.getfield 189, 3) := by decide +kernel
theorem dX8_does_96 : decode cX8_does 96 = .ok (.invokevirtual 156, 3) := by decide +kernel
theorem dX8_does_99 : decode cX8_does 99 = .ok (.ireturn, 1) := by decide +kernel
theorem dX8_does_100 : decode cX8_does 100 = .ok (.aload_n 0, 1) := by decide +kernel
theorem dX8_does_101 : decode cX8_does 101 = .ok (.aload_n 0, 1) := by decide +kernel
theorem dX8_does_102 : decode cX8_does 102 = .ok (.getfield 189, 3) := by decide +kernel
theorem dX8_does_105 : decode cX8_does 105 = .ok (.invokevirtual 159, 3) := by decide +kernel
theorem dX8_does_108 : decode cX8_does 108 = .ok (.ireturn, 1) := by decide +kernel
theorem dX8_does_109 : decode cX8_does 109 = .ok (.aload_n 0, 1) := by decide +kernel
theorem dX8_does_110 : decode cX8_does 110 = .ok (.aload_n 0, 1) := by decide +kernel
theorem dX8_does_111 : decode cX8_does 111 = .ok (.getfield 189, 3) := by decide +kernel
theorem dX8_does_114 : decode cX8_does 114 = .ok (.invokevirtual 162, 3) := by decide +kernel
theorem dX8_does_117 : decode cX8_does 117 = .ok (.ireturn, 1) := by decide +kernel
theorem dX8_carryOut_0 : decode cX8_carryOut 0 = .ok (.aload_n 0, 1) := by decide +kernel
theorem dX8_carryOut_1 : decode cX8_carryOut 1 = .ok (.invokevirtual 213, 3) := by decide +kernel
theorem dX8_carryOut_4 : decode cX8_carryOut 4 = .ok (.istore_n 1, 1) := by decide +kernel
theorem dX8_carryOut_5 : decode cX8_carryOut 5 = .ok (.iload_n 1, 1) := by decide +kernel
theorem dX8_carryOut_6 : decode cX8_carryOut 6 = .ok (.iconst (-1), 1) := by decide +kernel
theorem dX8_carryOut_7 : decode cX8_carryOut 7 = .ok (.if_icmp .eq 12, 3) := by decide +kernel
theorem dX8_carryOut_10 : decode cX8_carryOut 10 = .ok (.aload_n 0, 1) := by decide +kernel
theorem dX8_carryOut_11 : decode cX8_carryOut 11 = .ok (.bipush (-10), 2) := by decide +kernel
theorem dX8_carryOut_13 : decode cX8_carryOut 13 = .ok (.iload_n 1, 1) := by decide +kernel
theorem dX8_carryOut_14 : decode cX8_carryOut 14 = .ok (.isub, 1) := by decide +kernel
theorem dX8_carryOut_15 : decode cX8_carryOut 15 = .ok (.invokevirtual 33, 3) := by decide +kernel
theorem dX8_carryOut_18 : decode cX8_carryOut 18 = .ok (.ireturn, 1) := by decide +kernel
theorem dX8_carryOut_19 : decode cX8_carryOut 19 = .ok (.aload_n 0, 1) := by decide +kernel
theorem dX8_carryOut_20 : decode cX8_carryOut 20 = .ok (.invokevirtual 61, 3) := by decide +kernel
theorem dX8_carryOut_23 : decode cX8_carryOut 23 = .ok (.aload_n 0, 1) := by decide +kernel
theorem dX8_carryOut_24 : decode cX8_carryOut 24 = .ok (.iconst 0, 1) := by decide +kernel
theorem dX8_carryOut_25 : decode cX8_carryOut 25 = .ok (.putfield 186, 3) := by decide +kernel
theorem dX8_carryOut_28 : decode cX8_carryOut 28 = .ok (.iconst 0, 1) := by decide +kernel
theorem dX8_carryOut_29 : decode cX8_carryOut 29 = .ok (.istore_n 2, 1) := by decide +kernel
theorem dX8_carryOut_30 : decode cX8_carryOut 30 = .ok (.iconst 1, 1) := by decide +kernel
theorem dX8_carryOut_31 : decode cX8_carryOut 31 = .ok (.istore_n 3, 1) := by decide +kernel
theorem dX8_carryOut_32 : decode cX8_carryOut 32 = .ok (.iload_n 3, 1) := by decide +kernel
theorem dX8_carryOut_33 : decode cX8_carryOut 33 = .ok (.ifCond .eq 49, 3) := by decide +kernel
theorem dX8_carryOut_36 : decode cX8_carryOut 36 = .ok (.aload_n 0, 1) := by decide +kernel
theorem dX8_carryOut_37 : decode cX8_carryOut 37 = .ok (.getfield 186, 3) := by decide +kernel
theorem dX8_carryOut_40 : decode cX8_carryOut 40 = .ok (.aload_n 0, 1) := by decide +kernel
theorem dX8_carryOut_41 : decode cX8_carryOut 41 = .ok (.getfield 183, 3) := by decide +kernel
theorem dX8_carryOut_44 : decode cX8_carryOut 44 = .ok (.if_icmp .ge 38, 3) := by decide +kernel
theorem dX8_carryOut_47 : decode cX8_carryOut 47 = .ok (.aload_n 0, 1) := by decide +kernel
theorem dX8_carryOut_48 : decode cX8_carryOut 48 = .ok (.invokevirtual 210, 3) := by decide +kernel
theorem dX8_carryOut_51 : decode cX8_carryOut 51 = .ok (.ifCond .eq 14, 3) := by decide +kernel
theorem dX8_carryOut_54 : decode cX8_carryOut 54 = .ok (.aload_n 0, 1) := by decide +kernel
theorem dX8_carryOut_55 : decode cX8_carryOut 55 = .ok (.invokevirtual 216, 3) := by decide +kernel
theorem dX8_carryOut_58 : decode cX8_carryOut 58 = .ok (.ifCond .ne 7, 3) := by decide +kernel
theorem dX8_carryOut_61 : decode cX8_carryOut 61 = .ok (.iconst 1, 1) := by decide +kernel
theorem dX8_carryOut_62 : decode cX8_carryOut 62 = .ok (.goto 4, 3) := by decide +kernel
theorem dX8_carryOut_65 : decode cX8_carryOut 65 = .ok (.iconst 0, 1) := by decide +kernel
theorem dX8_carryOut_66 : decode cX8_carryOut 66 = .ok (.istore_n 3, 1) := by decide +kernel
theorem dX8_carryOut_67 : decode cX8_carryOut 67 = .ok (.iload_n 2, 1) := by decide +kernel
theorem dX8_carryOut_68 : decode cX8_carryOut 68 = .ok (.iload_n 3, 1) := by decide +kernel
theorem dX8_carryOut_69 : decode cX8_carryOut 69 = .ok (.ifCond .eq 7, 3) := by decide +kernel
theorem dX8_carryOut_72 : decode cX8_carryOut 72 = .ok (.iconst 1, 1) := by decide +kernel
theorem dX8_carryOut_73 : decode cX8_carryOut 73 = .ok (.goto 4, 3) := by decide +kernel
theorem dX8_carryOut_76 : decode cX8_carryOut 76 = .ok (.iconst 0, 1) := by decide +kernel
theorem dX8_carryOut_77 : decode cX8_carryOut 77 = .ok (.iadd, 1) := by decide +kernel
theorem dX8_carryOut_78 : decode cX8_carryOut 78 = .ok (.istore_n 2, 1) := by decide +kernel
theorem dX8_carryOut_79 : decode cX8_carryOut 79 = .ok (.goto (-47), 3) := by decide +kernel
theorem dX8_carryOut_82 : decode cX8_carryOut 82 = .ok (.aload_n 0, 1) := by decide +kernel
theorem dX8_carryOut_83 : decode cX8_carryOut 83 = .ok (.iload_n 2, 1) := by decide +kernel
theorem dX8_carryOut_84 : decode cX8_carryOut 84 = .ok (.invokevirtual 64, 3) := by decide +kernel
theorem dX8_carryOut_87 : decode cX8_carryOut 87 = .ok (.ireturn, 1) := by decide +kernel
theorem dX8_undo_0 : decode cX8_undo 0 = .ok (.aload_n 0, 1) := by decide +kernel
theorem dX8_undo_1 : decode cX8_undo 1 = .ok (.getfield 30, 3) := by decide +kernel
theorem dX8_undo_4 : decode cX8_undo 4 = .ok (.ifCond .ne 9, 3) := by decide +kernel
theorem dX8_undo_7 : decode cX8_undo 7 = .ok (.aload_n 0, 1) := by decide +kernel
theorem dX8_undo_8 : decode cX8_undo 8 = .ok (.iconst 1, 1) := by decide +kernel
theorem dX8_undo_9 : decode cX8_undo 9 = .ok (.invokevirtual 58, 3) := by decide +kernel
theorem dX8_undo_12 : decode cX8_undo 12 = .ok (.ireturn, 1) := by decide +kernel
theorem dX8_undo_13 : decode cX8_undo 13 = .ok (.aload_n 0, 1) := by decide +kernel
theorem dX8_undo_14 : decode cX8_undo 14 = .ok (.dup, 1) := by decide +kernel
theorem dX8_undo_15 : decode cX8_undo 15 = .ok (.getfield 30, 3) := by decide +kernel
theorem dX8_undo_18 : decode cX8_undo 18 = .ok (.iconst 1, 1) := by decide +kernel
theorem dX8_undo_19 : decode cX8_undo 19 = .ok (.isub, 1) := by decide +kernel
theorem dX8_undo_20 : decode cX8_undo 20 = .ok (.putfield 30, 3) := by decide +kernel
theorem dX8_undo_23 : decode cX8_undo 23 = .ok (.iconst 0, 1) := by decide +kernel
theorem dX8_undo_24 : decode cX8_undo 24 = .ok (.istore_n 1, 1) := by decide +kernel
theorem dX8_undo_25 : decode cX8_undo 25 = .ok (.iload_n 1, 1) := by decide +kernel
theorem dX8_undo_26 : decode cX8_undo 26 = .ok (.sipush 178, 3) := by decide +kernel
theorem dX8_undo_29 : decode cX8_undo 29 = .ok (.if_icmp .ge 30, 3) := by decide +kernel
theorem dX8_undo_32 : decode cX8_undo 32 = .ok (.aload_n 0, 1) := by decide +kernel
theorem dX8_undo_33 : decode cX8_undo 33 = .ok (.getfield 7, 3) := by decide +kernel
theorem dX8_undo_36 : decode cX8_undo 36 = .ok (.iload_n 1, 1) := by decide +kernel
theorem dX8_undo_37 : decode cX8_undo 37 = .ok (.aload_n 0, 1) := by decide +kernel
theorem dX8_undo_38 : decode cX8_undo 38 = .ok (.getfield 13, 3) := by decide +kernel
theorem dX8_undo_41 : decode cX8_undo 41 = .ok (.sipush 178, 3) := by decide +kernel
theorem dX8_undo_44 : decode cX8_undo 44 = .ok (.aload_n 0, 1) := by decide +kernel
theorem dX8_undo_45 : decode cX8_undo 45 = .ok (.getfield 30, 3) := by decide +kernel
theorem dX8_undo_48 : decode cX8_undo 48 = .ok (.imul, 1) := by decide +kernel
theorem dX8_undo_49 : decode cX8_undo 49 = .ok (.iload_n 1, 1) := by decide +kernel
theorem dX8_undo_50 : decode cX8_undo 50 = .ok (.iadd, 1) := by decide +kernel
theorem dX8_undo_51 : decode cX8_undo 51 = .ok (.iaload, 1) := by decide +kernel
theorem dX8_undo_52 : decode cX8_undo 52 = .ok (.iastore, 1) := by decide +kernel
theorem dX8_undo_53 : decode cX8_undo 53 = .ok (.iinc 1 1, 3) := by decide +kernel
theorem dX8_undo_56 : decode cX8_undo 56 = .ok (.goto (-31), 3) := by decide +kernel
theorem dX8_undo_59 : decode cX8_undo 59 = .ok (.aload_n 0, 1) := by decide +kernel
theorem dX8_undo_60 : decode cX8_undo 60 = .ok (.aload_n 0, 1) := by decide +kernel
theorem dX8_undo_61 : decode cX8_undo 61 = .ok (.getfield 30, 3) := by decide +kernel
theorem dX8_undo_64 : decode cX8_undo 64 = .ok (.invokevirtual 33, 3) := by decide +kernel
theorem dX8_undo_67 : decode cX8_undo 67 = .ok (.ireturn, 1) := by decide +kernel
theorem dX8_mix_0 : decode cX8_mix 0 = .ok (.aload_n 0, 1) := by decide +kernel
theorem dX8_mix_1 : decode cX8_mix 1 = .ok (.ldc2_w 219, 3) := by decide +kernel
theorem dX8_mix_4 : decode cX8_mix 4 = .ok (.aload_n 0, 1) := by decide +kernel
theorem dX8_mix_5 : decode cX8_mix 5 = .ok (.getfield 221, 3) := by decide +kernel
theorem dX8_mix_8 : decode cX8_mix 8 = .ok (.lmul, 1) := by decide +kernel
theorem dX8_mix_9 : decode cX8_mix 9 = .ok (.iload_n 1, 1) := by decide +kernel
theorem dX8_mix_10 : decode cX8_mix 10 = .ok (.i2l, 1) := by decide +kernel
theorem dX8_mix_11 : decode cX8_mix 11 = .ok (.ladd, 1) := by decide +kernel
theorem dX8_mix_12 : decode cX8_mix 12 = .ok (.putfield 221, 3) := by decide +kernel
theorem dX8_mix_15 : decode cX8_mix 15 = .ok (.return_, 1) := by decide +kernel
theorem dX8_digest_0 : decode cX8_digest 0 = .ok (.aload_n 0, 1) := by decide +kernel
theorem dX8_digest_1 : decode cX8_digest 1 = .ok (.iconst 0, 1) := by decide +kernel
theorem dX8_digest_2 : decode cX8_digest 2 = .ok (.putfield 26, 3) := by decide +kernel
theorem dX8_digest_5 : decode cX8_digest 5 = .ok (.aload_n 0, 1) := by decide +kernel
theorem dX8_digest_6 : decode cX8_digest 6 = .ok (.ldc2_w 225, 3) := by decide +kernel
theorem dX8_digest_9 : decode cX8_digest 9 = .ok (.putfield 221, 3) := by decide +kernel
theorem dX8_digest_12 : decode cX8_digest 12 = .ok (.aload_n 0, 1) := by decide +kernel
theorem dX8_digest_13 : decode cX8_digest 13 = .ok (.aload_n 0, 1) := by decide +kernel
theorem dX8_digest_14 : decode cX8_digest 14 = .ok (.getfield 183, 3) := by decide +kernel
theorem dX8_digest_17 : decode cX8_digest 17 = .ok (.invokevirtual 227, 3) := by decide +kernel
theorem dX8_digest_20 : decode cX8_digest 20 = .ok (.iconst 0, 1) := by decide +kernel
theorem dX8_digest_21 : decode cX8_digest 21 = .ok (.istore_n 1, 1) := by decide +kernel
theorem dX8_digest_22 : decode cX8_digest 22 = .ok (.iload_n 1, 1) := by decide +kernel
theorem dX8_digest_23 : decode cX8_digest 23 = .ok (.bipush 14, 2) := by decide +kernel
theorem dX8_digest_25 : decode cX8_digest 25 = .ok (.if_icmp .ge 18, 3) := by decide +kernel
theorem dX8_digest_28 : decode cX8_digest 28 = .ok (.aload_n 0, 1) := by decide +kernel
theorem dX8_digest_29 : decode cX8_digest 29 = .ok (.aload_n 0, 1) := by decide +kernel
theorem dX8_digest_30 : decode cX8_digest 30 = .ok (.iload_n 1, 1) := by decide +kernel
theorem dX8_digest_31 : decode cX8_digest 31 = .ok (.invokevirtual 174, 3) := by decide +kernel
theorem dX8_digest_34 : decode cX8_digest 34 = .ok (.invokevirtual 227, 3) := by decide +kernel
theorem dX8_digest_37 : decode cX8_digest 37 = .ok (.iinc 1 1, 3) := by decide +kernel
theorem dX8_digest_40 : decode cX8_digest 40 = .ok (.goto (-18), 3) := by decide +kernel
theorem dX8_digest_43 : decode cX8_digest 43 = .ok (.iconst 0, 1) := by decide +kernel
theorem dX8_digest_44 : decode cX8_digest 44 = .ok (.istore_n 1, 1) := by decide +kernel
theorem dX8_digest_45 : decode cX8_digest 45 = .ok (.iload_n 1, 1) := by decide +kernel
theorem dX8_digest_46 : decode cX8_digest 46 = .ok (.iconst 5, 1) := by decide +kernel
theorem dX8_digest_47 : decode cX8_digest 47 = .ok (.aload_n 0, 1) := by decide +kernel
theorem dX8_digest_48 : decode cX8_digest 48 = .ok (.getfield 7, 3) := by decide +kernel
theorem dX8_digest_51 : decode cX8_digest 51 = .ok (.iconst 0, 1) := by decide +kernel
theorem dX8_digest_52 : decode cX8_digest 52 = .ok (.iaload, 1) := by decide +kernel
theorem dX8_digest_53 : decode cX8_digest 53 = .ok (.imul, 1) := by decide +kernel
theorem dX8_digest_54 : decode cX8_digest 54 = .ok (.if_icmp .ge 23, 3) := by decide +kernel
theorem dX8_digest_57 : decode cX8_digest 57 = .ok (.aload_n 0, 1) := by decide +kernel
theorem dX8_digest_58 : decode cX8_digest 58 = .ok (.aload_n 0, 1) := by decide +kernel
theorem dX8_digest_59 : decode cX8_digest 59 = .ok (.iload_n 1, 1) := by decide +kernel
theorem dX8_digest_60 : decode cX8_digest 60 = .ok (.iconst 5, 1) := by decide +kernel
theorem dX8_digest_61 : decode cX8_digest 61 = .ok (.idiv, 1) := by decide +kernel
theorem dX8_digest_62 : decode cX8_digest 62 = .ok (.iload_n 1, 1) := by decide +kernel
theorem dX8_digest_63 : decode cX8_digest 63 = .ok (.iconst 5, 1) := by decide +kernel
theorem dX8_digest_64 : decode cX8_digest 64 = .ok (.irem, 1) := by decide +kernel
theorem dX8_digest_65 : decode cX8_digest 65 = .ok (.invokevirtual 165, 3) := by decide +kernel
theorem dX8_digest_68 : decode cX8_digest 68 = .ok (.invokevirtual 227, 3) := by decide +kernel
theorem dX8_digest_71 : decode cX8_digest 71 = .ok (.iinc 1 1, 3) := by decide +kernel
theorem dX8_digest_74 : decode cX8_digest 74 = .ok (.goto (-29), 3) := by decide +kernel
theorem dX8_digest_77 : decode cX8_digest 77 = .ok (.iconst 0, 1) := by decide +kernel
theorem dX8_digest_78 : decode cX8_digest 78 = .ok (.istore_n 1, 1) := by decide +kernel
theorem dX8_digest_79 : decode cX8_digest 79 = .ok (.iload_n 1, 1) := by decide +kernel
theorem dX8_digest_80 : decode cX8_digest 80 = .ok (.iconst 3, 1) := by decide +kernel
theorem dX8_digest_81 : decode cX8_digest 81 = .ok (.aload_n 0, 1) := by decide +kernel
theorem dX8_digest_82 : decode cX8_digest 82 = .ok (.getfield 7, 3) := by decide +kernel
theorem dX8_digest_85 : decode cX8_digest 85 = .ok (.iconst 1, 1) := by decide +kernel
theorem dX8_digest_86 : decode cX8_digest 86 = .ok (.iaload, 1) := by decide +kernel
theorem dX8_digest_87 : decode cX8_digest 87 = .ok (.imul, 1) := by decide +kernel
theorem dX8_digest_88 : decode cX8_digest 88 = .ok (.if_icmp .ge 22, 3) := by decide +kernel
theorem dX8_digest_91 : decode cX8_digest 91 = .ok (.aload_n 0, 1) := by decide +kernel
theorem dX8_digest_92 : decode cX8_digest 92 = .ok (.aload_n 0, 1) := by decide +kernel
theorem dX8_digest_93 : decode cX8_digest 93 = .ok (.getfield 7, 3) := by decide +kernel
theorem dX8_digest_96 : decode cX8_digest 96 = .ok (.bipush 34, 2) := by decide +kernel
theorem dX8_digest_98 : decode cX8_digest 98 = .ok (.iload_n 1, 1) := by decide +kernel
theorem dX8_digest_99 : decode cX8_digest 99 = .ok (.iadd, 1) := by decide +kernel
theorem dX8_digest_100 : decode cX8_digest 100 = .ok (.iaload, 1) := by decide +kernel
theorem dX8_digest_101 : decode cX8_digest 101 = .ok (.invokevirtual 227, 3) := by decide +kernel
theorem dX8_digest_104 : decode cX8_digest 104 = .ok (.iinc 1 1, 3) := by decide +kernel
theorem dX8_digest_107 : decode cX8_digest 107 = .ok (.goto (-28), 3) := by decide +kernel
theorem dX8_digest_110 : decode cX8_digest 110 = .ok (.iconst 0, 1) := by decide +kernel
theorem dX8_digest_111 : decode cX8_digest 111 = .ok (.istore_n 1, 1) := by decide +kernel
theorem dX8_digest_112 : decode cX8_digest 112 = .ok (.iload_n 1, 1) := by decide +kernel
theorem dX8_digest_113 : decode cX8_digest 113 = .ok (.bipush 9, 2) := by decide +kernel
theorem dX8_digest_115 : decode cX8_digest 115 = .ok (.aload_n 0, 1) := by decide +kernel
theorem dX8_digest_116 : decode cX8_digest 116 = .ok (.getfield 7, 3) := by decide +kernel
theorem dX8_digest_119 : decode cX8_digest 119 = .ok (.iconst 2, 1) := by decide +kernel
theorem dX8_digest_120 : decode cX8_digest 120 = .ok (.iaload, 1) := by decide +kernel
theorem dX8_digest_121 : decode cX8_digest 121 = .ok (.imul, 1) := by decide +kernel
theorem dX8_digest_122 : decode cX8_digest 122 = .ok (.if_icmp .ge 22, 3) := by decide +kernel
theorem dX8_digest_125 : decode cX8_digest 125 = .ok (.aload_n 0, 1) := by decide +kernel
theorem dX8_digest_126 : decode cX8_digest 126 = .ok (.aload_n 0, 1) := by decide +kernel
theorem dX8_digest_127 : decode cX8_digest 127 = .ok (.getfield 7, 3) := by decide +kernel
theorem dX8_digest_130 : decode cX8_digest 130 = .ok (.bipush 58, 2) := by decide +kernel
theorem dX8_digest_132 : decode cX8_digest 132 = .ok (.iload_n 1, 1) := by decide +kernel
theorem dX8_digest_133 : decode cX8_digest 133 = .ok (.iadd, 1) := by decide +kernel
theorem dX8_digest_134 : decode cX8_digest 134 = .ok (.iaload, 1) := by decide +kernel
theorem dX8_digest_135 : decode cX8_digest 135 = .ok (.invokevirtual 227, 3) := by decide +kernel
theorem dX8_digest_138 : decode cX8_digest 138 = .ok (.iinc 1 1, 3) := by decide +kernel
theorem dX8_digest_141 : decode cX8_digest 141 = .ok (.goto (-29), 3) := by decide +kernel
theorem dX8_digest_144 : decode cX8_digest 144 = .ok (.iconst 0, 1) := by decide +kernel
theorem dX8_digest_145 : decode cX8_digest 145 = .ok (.istore_n 1, 1) := by decide +kernel
theorem dX8_digest_146 : decode cX8_digest 146 = .ok (.iload_n 1, 1) := by decide +kernel
theorem dX8_digest_147 : decode cX8_digest 147 = .ok (.iconst 3, 1) := by decide +kernel
theorem dX8_digest_148 : decode cX8_digest 148 = .ok (.aload_n 0, 1) := by decide +kernel
theorem dX8_digest_149 : decode cX8_digest 149 = .ok (.getfield 7, 3) := by decide +kernel
theorem dX8_digest_152 : decode cX8_digest 152 = .ok (.bipush 6, 2) := by decide +kernel
theorem dX8_digest_154 : decode cX8_digest 154 = .ok (.iaload, 1) := by decide +kernel
theorem dX8_digest_155 : decode cX8_digest 155 = .ok (.imul, 1) := by decide +kernel
theorem dX8_digest_156 : decode cX8_digest 156 = .ok (.if_icmp .ge 22, 3) := by decide +kernel
theorem dX8_digest_159 : decode cX8_digest 159 = .ok (.aload_n 0, 1) := by decide +kernel
theorem dX8_digest_160 : decode cX8_digest 160 = .ok (.aload_n 0, 1) := by decide +kernel
theorem dX8_digest_161 : decode cX8_digest 161 = .ok (.getfield 7, 3) := by decide +kernel
theorem dX8_digest_164 : decode cX8_digest 164 = .ok (.bipush 112, 2) := by decide +kernel
theorem dX8_digest_166 : decode cX8_digest 166 = .ok (.iload_n 1, 1) := by decide +kernel
theorem dX8_digest_167 : decode cX8_digest 167 = .ok (.iadd, 1) := by decide +kernel
theorem dX8_digest_168 : decode cX8_digest 168 = .ok (.iaload, 1) := by decide +kernel
theorem dX8_digest_169 : decode cX8_digest 169 = .ok (.invokevirtual 227, 3) := by decide +kernel
theorem dX8_digest_172 : decode cX8_digest 172 = .ok (.iinc 1 1, 3) := by decide +kernel
theorem dX8_digest_175 : decode cX8_digest 175 = .ok (.goto (-29), 3) := by decide +kernel
theorem dX8_digest_178 : decode cX8_digest 178 = .ok (.iconst 0, 1) := by decide +kernel
theorem dX8_digest_179 : decode cX8_digest 179 = .ok (.istore_n 1, 1) := by decide +kernel
theorem dX8_digest_180 : decode cX8_digest 180 = .ok (.iload_n 1, 1) := by decide +kernel
theorem dX8_digest_181 : decode cX8_digest 181 = .ok (.iconst 3, 1) := by decide +kernel
theorem dX8_digest_182 : decode cX8_digest 182 = .ok (.aload_n 0, 1) := by decide +kernel
theorem dX8_digest_183 : decode cX8_digest 183 = .ok (.getfield 7, 3) := by decide +kernel
theorem dX8_digest_186 : decode cX8_digest 186 = .ok (.bipush 12, 2) := by decide +kernel
theorem dX8_digest_188 : decode cX8_digest 188 = .ok (.iaload, 1) := by decide +kernel
theorem dX8_digest_189 : decode cX8_digest 189 = .ok (.imul, 1) := by decide +kernel
theorem dX8_digest_190 : decode cX8_digest 190 = .ok (.if_icmp .ge 23, 3) := by decide +kernel
theorem dX8_digest_193 : decode cX8_digest 193 = .ok (.aload_n 0, 1) := by decide +kernel
theorem dX8_digest_194 : decode cX8_digest 194 = .ok (.aload_n 0, 1) := by decide +kernel
theorem dX8_digest_195 : decode cX8_digest 195 = .ok (.getfield 7, 3) := by decide +kernel
theorem dX8_digest_198 : decode cX8_digest 198 = .ok (.sipush 142, 3) := by decide +kernel
theorem dX8_digest_201 : decode cX8_digest 201 = .ok (.iload_n 1, 1) := by decide +kernel
theorem dX8_digest_202 : decode cX8_digest 202 = .ok (.iadd, 1) := by decide +kernel
theorem dX8_digest_203 : decode cX8_digest 203 = .ok (.iaload, 1) := by decide +kernel
theorem dX8_digest_204 : decode cX8_digest 204 = .ok (.invokevirtual 227, 3) := by decide +kernel
theorem dX8_digest_207 : decode cX8_digest 207 = .ok (.iinc 1 1, 3) := by decide +kernel
theorem dX8_digest_210 : decode cX8_digest 210 = .ok (.goto (-30), 3) := by decide +kernel
theorem dX8_digest_213 : decode cX8_digest 213 = .ok (.aload_n 0, 1) := by decide +kernel
theorem dX8_digest_214 : decode cX8_digest 214 = .ok (.aload_n 0, 1) := by decide +kernel
theorem dX8_digest_215 : decode cX8_digest 215 = .ok (.getfield 30, 3) := by decide +kernel
theorem dX8_digest_218 : decode cX8_digest 218 = .ok (.invokevirtual 227, 3) := by decide +kernel
theorem dX8_digest_221 : decode cX8_digest 221 = .ok (.aload_n 0, 1) := by decide +kernel
theorem dX8_digest_222 : decode cX8_digest 222 = .ok (.getfield 221, 3) := by decide +kernel
theorem dX8_digest_225 : decode cX8_digest 225 = .ok (.lreturn, 1) := by decide +kernel
end
section
/-! ===== the words that all methods share: the good ones of the tables ===== -/
def gW : List Cond := lw_tbl.filter goodWord
theorem gW_good : ∀ w ∈ gW, goodWord w = true := fun w h => (List.mem_filter.mp h).2
theorem gW_tbl : ∀ w ∈ gW, w ∈ lw_tbl := fun w h => (List.mem_filter.mp h).1
theorem gW_in {w : Cond} {i : Nat} (h : lw_tbl[i]? = some w) (hg : goodWord w = true) : w ∈ gW := List.mem_filter.mpr ⟨List.mem_of_getElem? h, hg⟩
theorem gW_self : GoodIn gW gW := fun w h => ⟨h, good_of_word (gW_good w h)⟩
theorem gW_cons {w : Cond} (h : w ∈ gW) : GoodIn gW (w :: gW) := fun v hv => (List.mem_cons.mp hv).elim (fun e => gW_self v (by rw [e]; exact h)) (gW_self v)
/-! ===== the flat world: numbers by their places; caves 0..4 with 24 cells and 178 numbers each, then the other cells ===== -/
/-- numbers of the class, numbers of the model, longs, which cave each place of 'saved' holds -/
abbrev g_M : Type := (Nat → Int32) × (Nat → Int32) × (Nat → Int64) × (Nat → Nat)
abbrev g_Res : Type := (Option Value ⊕ String) × g_M
/-- is slot j of a cave's cell j0 a number -/
def g_va (j0 j : Nat) : Bool := match j0 with
  | 0 => Nat.ble 3 j && Nat.ble j 11 && !(Nat.beq j 4) && !(Nat.beq j 5)
  | 1 => Nat.beq j 3
  | 2 => Nat.blt j 7
  | 3 => Nat.blt j 7
  | 4 => Nat.blt j 7
  | 5 => Nat.beq j 3
  | 6 => Nat.blt j 8
  | 7 => Nat.blt j 8
  | 8 => Nat.blt j 8
  | 10 => Nat.blt j 9
  | 11 => Nat.blt j 9
  | 12 => Nat.blt j 9
  | 13 => Nat.blt j 9
  | 14 => Nat.blt j 9
  | 15 => Nat.blt j 9
  | 16 => Nat.beq j 3 || Nat.beq j 4
  | 17 => Nat.blt j 10
  | 18 => Nat.blt j 10
  | 19 => Nat.blt j 10
  | 20 => Nat.beq j 3 || Nat.beq j 4
  | 21 => Nat.blt j 12
  | 22 => Nat.blt j 12
  | 23 => Nat.blt j 12
  | _ => false
/-- its place among the cave's 178 numbers -/
def g_nl (j0 j : Nat) : Nat := match j0 with
  | 0 => match j with
    | 3 => 2
    | 6 => 3
    | 7 => 4
    | 8 => 5
    | 9 => 9
    | 10 => 10
    | _ => 11
  | 1 => 0
  | 2 => 13 + j
  | 3 => 20 + j
  | 4 => 27 + j
  | 5 => 1
  | 6 => 34 + 3 * j
  | 7 => 35 + 3 * j
  | 8 => 36 + 3 * j
  | 10 => 58 + j
  | 11 => 67 + j
  | 12 => 76 + j
  | 13 => 85 + j
  | 14 => 94 + j
  | 15 => 103 + j
  | 16 => match j with
    | 3 => 6
    | _ => 7
  | 17 => 112 + 3 * j
  | 18 => 113 + 3 * j
  | 19 => 114 + 3 * j
  | 20 => match j with
    | 3 => 12
    | _ => 8
  | 21 => 142 + 3 * j
  | 22 => 143 + 3 * j
  | _ => 144 + 3 * j
/-- the cell of the cave that a slot refers to -/
def g_rf (j0 j : Nat) : Nat := match j0 with
  | 0 => match j with
    | 0 => 1
    | 1 => 5
    | 2 => 9
    | 4 => 16
    | _ => 20
  | 1 => 2 + j
  | 5 => 6 + j
  | 16 => 17 + j
  | _ => 21 + j
/-- the class and the number of fields of a cave's object -/
def g_oc (j0 : Nat) : Option (Nat × Nat) := match j0 with
  | 0 => some (0, 12)
  | 1 => some (4, 4)
  | 5 => some (5, 4)
  | 10 => some (1, 9)
  | 11 => some (1, 9)
  | 12 => some (1, 9)
  | 13 => some (1, 9)
  | 14 => some (1, 9)
  | 15 => some (1, 9)
  | 16 => some (3, 5)
  | 20 => some (2, 5)
  | _ => none
/-- the length of a cave's array of numbers -/
def g_ia (j0 : Nat) : Option Nat := match j0 with
  | 2 => some 7
  | 3 => some 7
  | 4 => some 7
  | 6 => some 8
  | 7 => some 8
  | 8 => some 8
  | 17 => some 10
  | 18 => some 10
  | 19 => some 10
  | 21 => some 12
  | 22 => some 12
  | 23 => some 12
  | _ => none
def g_sv (ad : Nat → Nat) (cm : Nat → Int32) (c j0 j : Nat) : Value := cond (g_va j0 j) (.int (cm (178 * c + g_nl j0 j))) (.ref (ad (24 * c + g_rf j0 j)))
def g_ar (cm : Nat → Int32) (c j0 n : Nat) : Nat → Int32 := fun t => cond (Nat.blt t n) (cm (178 * c + g_nl j0 t)) 0
def g_ce (ad : Nat → Nat) (ca : Nat → ClassId) (cm : Nat → Int32) (c j0 : Nat) : va_E := match g_oc j0 with
  | some q => .inr (q.1, (List.range q.2).map (g_sv ad cm c j0))
  | none => match g_ia j0 with
    | some n => .inl (ca 0, n, .inl (g_ar cm c j0 n))
    | none => .inl (ca 2, 6, .inr (.inr (.inr (.inr (fun t => cond (Nat.blt t 6) (some (ad (24 * c + (10 + t)))) none)))))
def g_rw (m : Nat → Int32) (o n : Nat) : Nat → Int32 := fun t => cond (Nat.blt t n) (m (o + t)) 0
def g_oe (ad : Nat → Nat) (ca : Nat → ClassId) (μ : g_M) (k : Nat) : va_E := match k with
  | 0 => .inr (6, [.ref (ad 121), .int (μ.1 980)])
  | 1 => .inl (ca 0, 90, .inl (g_rw μ.1 890 90))
  | 2 => .inr (7, [.ref (ad 0), .ref (ad 123), .int (μ.1 981), .ref (ad 120)])
  | 3 => .inl (ca 1, 4, .inr (.inr (.inr (.inr (fun t => cond (Nat.blt t 4) (some (ad (24 * μ.2.2.2 t))) none)))))
  | 4 => .inr (8, [.ref (ad 125), .ref (ad 126), .ref (ad 127), .int (μ.2.1 1300), .ref (ad 128), .int (μ.2.1 1301), .int (μ.2.1 1302), .int (μ.2.1 1303), .int (μ.2.1 1304), .int (μ.2.1 1305), .int (μ.2.1 1306), .int (μ.2.1 1307), .long (μ.2.2.1 0)])
  | 5 => .inl (ca 0, 178, .inl (g_rw μ.2.1 0 178))
  | 6 => .inl (ca 0, 712, .inl (g_rw μ.2.1 400 712))
  | 7 => .inl (ca 0, 178, .inl (g_rw μ.2.1 200 178))
  | 8 => .inl (ca 0, 90, .inl (g_rw μ.2.1 1200 90))
  | _ => .inl (ca 3, 1, .inr (.inl (fun t => cond (Nat.blt t 1) (μ.2.2.1 (1 + t)) 0)))
def g_ent (ad : Nat → Nat) (ca : Nat → ClassId) (μ : g_M) (k : Nat) : va_E := cond (Nat.blt k 120) (g_ce ad ca μ.1 (k / 24) (k % 24)) (g_oe ad ca μ (k - 120))
def g_ws (ad : Nat → Nat) (ca : Nat → ClassId) (μ : g_M) : va_W := (List.range 130).map (fun k => (ad k, g_ent ad ca μ k))
theorem g_ws_at (ad : Nat → Nat) (ca : Nat → ClassId) (μ : g_M) {k : Nat} (hk : k < 130) : (g_ws ad ca μ)[k]? = some (ad k, g_ent ad ca μ k) := by
  simp [g_ws, hk]
theorem g_ws_of {ad : Nat → Nat} {ca : Nat → ClassId} {μ : g_M} {k : Nat} {q : Nat × va_E} (h : (g_ws ad ca μ)[k]? = some q) : k < 130 ∧ q = (ad k, g_ent ad ca μ k) := by
  have hk : k < 130 := by
    have := (List.getElem?_eq_some_iff.mp h).1
    simpa [g_ws] using this
  rw [g_ws_at ad ca μ hk] at h
  exact ⟨hk, (Option.some.inj h).symm⟩
theorem g_ws_set {ad : Nat → Nat} {ca : Nat → ClassId} {μ μ' : g_M} {k : Nat} {e : va_E} (hk : k < 130) (h1 : ∀ i, i < 130 → i ≠ k → g_ent ad ca μ' i = g_ent ad ca μ i) (h2 : g_ent ad ca μ' k = e) : (g_ws ad ca μ).set k (ad k, e) = g_ws ad ca μ' := by
  apply List.ext_getElem?
  intro i
  by_cases hi : i < 130
  · rw [g_ws_at ad ca μ' hi]
    by_cases hik : i = k
    · subst hik
      rw [List.getElem?_set_self (by simpa [g_ws] using hi), h2]
    · rw [List.getElem?_set_ne (Ne.symm hik), g_ws_at ad ca μ hi, h1 i hi hik]
  · rw [List.getElem?_eq_none (by simp [g_ws]; omega), List.getElem?_eq_none (by simp [g_ws]; omega)]
/-! which slot a number lies in -/
def g_ni (n : Nat) : Nat × Nat :=
  if n < 13 then (match n with
    | 0 => (1, 3)
    | 1 => (5, 3)
    | 2 => (0, 3)
    | 3 => (0, 6)
    | 4 => (0, 7)
    | 5 => (0, 8)
    | 6 => (16, 3)
    | 7 => (16, 4)
    | 8 => (20, 4)
    | 9 => (0, 9)
    | 10 => (0, 10)
    | 11 => (0, 11)
    | _ => (20, 3))
  else if n < 20 then (2, n - 13) else if n < 27 then (3, n - 20) else if n < 34 then (4, n - 27) else if n < 58 then (6 + (n - 34) % 3, (n - 34) / 3) else if n < 112 then (10 + (n - 58) / 9, (n - 58) % 9) else if n < 142 then (17 + (n - 112) % 3, (n - 112) / 3) else (21 + (n - 142) % 3, (n - 142) / 3)
theorem g_ni_ok : ∀ j0, j0 < 24 → ∀ j, j < 12 → g_va j0 j = true → g_ni (g_nl j0 j) = (j0, j) ∧ g_nl j0 j < 178 := by decide +kernel
theorem g_va_lt : ∀ j0, j0 < 24 → ∀ j, g_va j0 j = true → j < 12 := by
  intro j0 h0 j
  have : j0 = 0 ∨ j0 = 1 ∨ j0 = 2 ∨ j0 = 3 ∨ j0 = 4 ∨ j0 = 5 ∨ j0 = 6 ∨ j0 = 7 ∨ j0 = 8 ∨ j0 = 9 ∨ j0 = 10 ∨ j0 = 11 ∨ j0 = 12 ∨ j0 = 13 ∨ j0 = 14 ∨ j0 = 15 ∨ j0 = 16 ∨ j0 = 17 ∨ j0 = 18 ∨ j0 = 19 ∨ j0 = 20 ∨ j0 = 21 ∨ j0 = 22 ∨ j0 = 23 := by omega
  rcases this with rfl | rfl | rfl | rfl | rfl | rfl | rfl | rfl | rfl | rfl | rfl | rfl | rfl | rfl | rfl | rfl | rfl | rfl | rfl | rfl | rfl | rfl | rfl | rfl <;> simp [g_va, Nat.ble_eq, Nat.blt] <;> omega
theorem g_blt {t n : Nat} : Nat.blt t n = true ↔ t < n := by
  show Nat.ble (t + 1) n = true ↔ t + 1 ≤ n
  rw [Nat.ble_eq]
theorem g_va_ia0 : ∀ j0, j0 < 24 → ∀ t, t < 12 → (match g_ia j0 with | some n => Nat.blt t n == g_va j0 t | none => true) = true := by decide +kernel
theorem g_va_ia {j0 n t : Nat} (h0 : j0 < 24) (ht : t < 12) (ha : g_ia j0 = some n) : Nat.blt t n = g_va j0 t := by
  have h := g_va_ia0 j0 h0 t ht
  rw [ha] at h
  exact eq_of_beq h
theorem g_loc_ne {c j0 j c' j0' j' : Nat} (h0 : j0 < 24) (h0' : j0' < 24) (hv : g_va j0 j = true) (hv' : g_va j0' j' = true) (hne : ¬ (c = c' ∧ j0 = j0' ∧ j = j')) : 178 * c + g_nl j0 j ≠ 178 * c' + g_nl j0' j' := by
  have a := g_ni_ok j0 h0 j (g_va_lt j0 h0 j hv) hv
  have b := g_ni_ok j0' h0' j' (g_va_lt j0' h0' j' hv') hv'
  intro he
  have hc : c = c' := by omega
  subst hc
  have hn : g_nl j0 j = g_nl j0' j' := by omega
  rw [hn] at a
  have := a.1.symm.trans b.1
  exact hne ⟨rfl, (Prod.mk.inj this).1, (Prod.mk.inj this).2⟩
theorem g_loc_lt {c j0 j : Nat} (hc : c < 5) (h0 : j0 < 24) (hv : g_va j0 j = true) : 178 * c + g_nl j0 j < 890 := by
  have a := g_ni_ok j0 h0 j (g_va_lt j0 h0 j hv) hv
  omega
/-- a slot's value hangs on its own number alone -/
theorem g_sv_congr {ad : Nat → Nat} {m1 m2 : Nat → Int32} {c j0 j : Nat} (h : g_va j0 j = true → m1 (178 * c + g_nl j0 j) = m2 (178 * c + g_nl j0 j)) : g_sv ad m1 c j0 j = g_sv ad m2 c j0 j := by
  unfold g_sv
  cases hv : g_va j0 j with
  | false => rfl
  | true => show Value.int _ = Value.int _; rw [h hv]
theorem g_ar_congr {m1 m2 : Nat → Int32} {c j0 n : Nat} (h0 : j0 < 24) (hn : g_ia j0 = some n) (h : ∀ j, g_va j0 j = true → m1 (178 * c + g_nl j0 j) = m2 (178 * c + g_nl j0 j)) : g_ar m1 c j0 n = g_ar m2 c j0 n := by
  funext t
  unfold g_ar
  cases ht : Nat.blt t n with
  | false => rfl
  | true =>
    show m1 _ = m2 _
    have h12 : t < 12 := by
      have hn12 : ∀ j0, j0 < 24 → ∀ n, g_ia j0 = some n → n ≤ 12 := by
        intro j0 h0 n
        have : j0 = 0 ∨ j0 = 1 ∨ j0 = 2 ∨ j0 = 3 ∨ j0 = 4 ∨ j0 = 5 ∨ j0 = 6 ∨ j0 = 7 ∨ j0 = 8 ∨ j0 = 9 ∨ j0 = 10 ∨ j0 = 11 ∨ j0 = 12 ∨ j0 = 13 ∨ j0 = 14 ∨ j0 = 15 ∨ j0 = 16 ∨ j0 = 17 ∨ j0 = 18 ∨ j0 = 19 ∨ j0 = 20 ∨ j0 = 21 ∨ j0 = 22 ∨ j0 = 23 := by omega
        rcases this with rfl | rfl | rfl | rfl | rfl | rfl | rfl | rfl | rfl | rfl | rfl | rfl | rfl | rfl | rfl | rfl | rfl | rfl | rfl | rfl | rfl | rfl | rfl | rfl <;> simp [g_ia] <;> omega
      have := hn12 j0 h0 n hn
      have h2 : t < n := g_blt.mp ht
      omega
    have h3 := g_va_ia h0 h12 hn
    exact h t (h3.symm.trans ht)
theorem g_ce_congr {ad : Nat → Nat} {ca : Nat → ClassId} {m1 m2 : Nat → Int32} {c j0 : Nat} (h0 : j0 < 24) (h : ∀ j, g_va j0 j = true → m1 (178 * c + g_nl j0 j) = m2 (178 * c + g_nl j0 j)) : g_ce ad ca m1 c j0 = g_ce ad ca m2 c j0 := by
  unfold g_ce
  cases ho : g_oc j0 with
  | some q =>
    show Sum.inr (q.1, _) = Sum.inr (q.1, _)
    rw [List.map_congr_left fun j _ => g_sv_congr (h j)]
  | none =>
    cases hi : g_ia j0 with
    | some n => show Sum.inl (ca 0, n, Sum.inl _) = Sum.inl (ca 0, n, Sum.inl _); rw [g_ar_congr h0 hi h]
    | none => rfl
theorem g_ent_c (ad : Nat → Nat) (ca : Nat → ClassId) (μ : g_M) {c j0 : Nat} (hc : c < 5) (h0 : j0 < 24) : g_ent ad ca μ (24 * c + j0) = g_ce ad ca μ.1 c j0 := by
  unfold g_ent
  have h1 : Nat.blt (24 * c + j0) 120 = true := g_blt.mpr (by omega)
  rw [h1, show (24 * c + j0) / 24 = c by omega, show (24 * c + j0) % 24 = j0 by omega]
  rfl
theorem g_ent_o (ad : Nat → Nat) (ca : Nat → ClassId) (μ : g_M) {k : Nat} (hk : 120 ≤ k) : g_ent ad ca μ k = g_oe ad ca μ (k - 120) := by
  unfold g_ent
  have h1 : Nat.blt k 120 = false := by
    cases h : Nat.blt k 120 with
    | false => rfl
    | true => have := g_blt.mp h; omega
  rw [h1]
  rfl
theorem g_rw_congr {m1 m2 : Nat → Int32} {o n : Nat} (h : ∀ t, t < n → m1 (o + t) = m2 (o + t)) : g_rw m1 o n = g_rw m2 o n := by
  funext t
  unfold g_rw
  cases ht : Nat.blt t n with
  | false => rfl
  | true => exact h t (g_blt.mp ht)
/-- the other cells hang on the numbers behind the caves -/
theorem g_oe_congr {ad : Nat → Nat} {ca : Nat → ClassId} {μ μ' : g_M} (h : ∀ n, 890 ≤ n → μ.1 n = μ'.1 n) (h2 : μ.2 = μ'.2) (k : Nat) : g_oe ad ca μ k = g_oe ad ca μ' k := by
  have e1 := h 980 (by omega)
  have e2 := h 981 (by omega)
  have e3 : g_rw μ.1 890 90 = g_rw μ'.1 890 90 := g_rw_congr fun t _ => h _ (by omega)
  unfold g_oe
  rw [h2, e1, e2, e3]
theorem g_upd_ne {f : Nat → Int32} {a b : Nat} {x : Int32} (h : b ≠ a) : upd f a x b = f b := by simp [upd, h]
theorem g_upd_eq {f : Nat → Int32} {a : Nat} {x : Int32} : upd f a x a = x := by simp [upd]
/-- writing one number of a cave leaves the other cells -/
theorem g_ent_upd {ad : Nat → Nat} {ca : Nat → ClassId} {μ : g_M} {c j0 j : Nat} {x : Int32} (hc : c < 5) (h0 : j0 < 24) (hv : g_va j0 j = true) : ∀ i, i < 130 → i ≠ 24 * c + j0 → g_ent ad ca (upd μ.1 (178 * c + g_nl j0 j) x, μ.2) i = g_ent ad ca μ i := by
  intro i hi hne
  rcases Nat.lt_or_ge i 120 with h | h
  · have e : i = 24 * (i / 24) + i % 24 := by omega
    rw [e, g_ent_c ad ca _ (by omega) (by omega), g_ent_c ad ca _ (by omega) (by omega)]
    refine g_ce_congr (by omega) fun j' hv' => g_upd_ne (g_loc_ne (by omega) h0 hv' hv (fun q => ?_))
    omega
  · rw [g_ent_o ad ca _ h, g_ent_o ad ca _ h]
    have hl := g_loc_lt hc h0 hv
    exact g_oe_congr (μ := (upd μ.1 (178 * c + g_nl j0 j) x, μ.2)) (fun n hn => g_upd_ne (f := μ.1) (by omega)) rfl _
/-- writing a field of a cave's object -/
theorem g_set_obj {ad : Nat → Nat} {ca : Nat → ClassId} {μ : g_M} {c j0 j ci N : Nat} {x : Int32} (hc : c < 5) (h0 : j0 < 24) (hv : g_va j0 j = true) (ho : g_oc j0 = some (ci, N)) (hj : j < N) : (g_ws ad ca μ).set (24 * c + j0) (ad (24 * c + j0), .inr (ci, ((List.range N).map (g_sv ad μ.1 c j0)).set j (.int x))) = g_ws ad ca (upd μ.1 (178 * c + g_nl j0 j) x, μ.2) := by
  refine g_ws_set (by omega) (g_ent_upd hc h0 hv) ?_
  rw [g_ent_c ad ca _ hc h0]
  unfold g_ce
  rw [ho]
  show Sum.inr (ci, _) = Sum.inr (ci, _)
  congr 2
  apply List.ext_getElem?
  intro i
  by_cases hi : i < N
  · rw [List.getElem?_map, List.getElem?_range hi]
    by_cases hij : i = j
    · subst hij
      rw [List.getElem?_set_self (by simpa using hi)]
      show some (g_sv _ _ _ _ _) = _
      unfold g_sv
      rw [hv]
      show some (Value.int (upd μ.1 _ _ _)) = _
      rw [g_upd_eq]
    · rw [List.getElem?_set_ne (Ne.symm hij), List.getElem?_map, List.getElem?_range hi]
      show some (g_sv _ _ _ _ _) = some (g_sv _ _ _ _ _)
      rw [g_sv_congr fun hv' => g_upd_ne (g_loc_ne h0 h0 hv' hv (fun q => hij q.2.2))]
  · rw [List.getElem?_eq_none (by simp; omega), List.getElem?_eq_none (by simp; omega)]
/-- writing a place of a cave's array -/
theorem g_set_arr {ad : Nat → Nat} {ca : Nat → ClassId} {μ : g_M} {c j0 j n : Nat} {x : Int32} (hc : c < 5) (h0 : j0 < 24) (ho : g_oc j0 = none) (ha : g_ia j0 = some n) (hj : j < n) (hv : g_va j0 j = true) : (g_ws ad ca μ).set (24 * c + j0) (ad (24 * c + j0), .inl (ca 0, n, .inl (upd (g_ar μ.1 c j0 n) j x))) = g_ws ad ca (upd μ.1 (178 * c + g_nl j0 j) x, μ.2) := by
  refine g_ws_set (by omega) (g_ent_upd hc h0 hv) ?_
  rw [g_ent_c ad ca _ hc h0]
  unfold g_ce
  rw [ho, ha]
  show Sum.inl (ca 0, n, Sum.inl _) = Sum.inl (ca 0, n, Sum.inl _)
  congr 4
  funext t
  by_cases htj : t = j
  · subst htj
    rw [g_upd_eq]
    unfold g_ar
    rw [show Nat.blt t n = true from g_blt.mpr hj]
    exact g_upd_eq
  · rw [g_upd_ne htj]
    unfold g_ar
    cases ht : Nat.blt t n with
    | false => rfl
    | true =>
      show upd _ _ _ _ = _
      refine g_upd_ne ?_
      have h12 : t < 12 ∧ j < 12 := by
        have h2 : t < n := g_blt.mp ht
        have := g_va_lt j0 h0 j hv
        have hn : n ≤ 12 := by
          have : j0 = 0 ∨ j0 = 1 ∨ j0 = 2 ∨ j0 = 3 ∨ j0 = 4 ∨ j0 = 5 ∨ j0 = 6 ∨ j0 = 7 ∨ j0 = 8 ∨ j0 = 9 ∨ j0 = 10 ∨ j0 = 11 ∨ j0 = 12 ∨ j0 = 13 ∨ j0 = 14 ∨ j0 = 15 ∨ j0 = 16 ∨ j0 = 17 ∨ j0 = 18 ∨ j0 = 19 ∨ j0 = 20 ∨ j0 = 21 ∨ j0 = 22 ∨ j0 = 23 := by omega
          rcases this with rfl | rfl | rfl | rfl | rfl | rfl | rfl | rfl | rfl | rfl | rfl | rfl | rfl | rfl | rfl | rfl | rfl | rfl | rfl | rfl | rfl | rfl | rfl | rfl <;> simp [g_ia] at ha <;> omega
        omega
      have h3 := g_va_ia h0 h12.1 ha
      exact g_loc_ne h0 h0 (h3.symm.trans ht) hv (fun q => htj q.2.2)
/-! the class's other numbers: text, counts -/
theorem g_ent_hi {ad : Nat → Nat} {ca : Nat → ClassId} {μ : g_M} {n : Nat} {x : Int32} (hn : 890 ≤ n) {i : Nat} (hi : i < 120) : g_ent ad ca (upd μ.1 n x, μ.2) i = g_ent ad ca μ i := by
  have e : i = 24 * (i / 24) + i % 24 := by omega
  rw [e, g_ent_c ad ca _ (by omega) (by omega), g_ent_c ad ca _ (by omega) (by omega)]
  refine g_ce_congr (by omega) fun j' hv' => g_upd_ne ?_
  have := g_loc_lt (c := i / 24) (j0 := i % 24) (by omega) (by omega) hv'
  omega
end
section
/-! ===== what a walk stands on ===== -/
abbrev g_q : Type := (Nat → Int32) × (Nat → Int64) × (Nat → Nat)
abbrev g_tys (ca : Nat → ClassId) : List (ClassId × FieldType) := [(ca 0, .int), (ca 1, .object RX0), (ca 2, .object RX1), (ca 3, .long)]
/-- the cells that a method may write -/
def g_A (ad : Nat → Nat) (sz : Nat) : Nat → Prop := fun q => (∃ k, k < 130 ∧ q = ad k) ∨ sz ≤ q
def g_inj (ad : Nat → Nat) : Prop := ∀ i j, i < 130 → j < 130 → ad i = ad j → i = j
theorem g_D {ad : Nat → Nat} {ca : Nat → ClassId} {μ : g_M} {sz : Nat} (h : g_inj ad) : va_D (g_A ad sz) (g_ws ad ca μ) := by
  refine ⟨fun i j p q hi hj hpq => ?_, fun k q hk => ?_⟩
  · obtain ⟨a1, rfl⟩ := g_ws_of hi
    obtain ⟨a2, rfl⟩ := g_ws_of hj
    exact h i j a1 a2 hpq
  · obtain ⟨a1, rfl⟩ := g_ws_of hk
    exact Or.inl ⟨k, a1, rfl⟩
theorem g_A_mono {ad : Nat → Nat} {a b : Nat} (h : a ≤ b) : ∀ q, g_A ad b q → g_A ad a q := fun _ hq => hq.elim Or.inl (fun z => Or.inr (Nat.le_trans h z))
def g_d0 (t : Nat) : Int32 := if t = 1 then 20 else if t = 3 then 35 else 0
def g_m0 (t : Nat) : Int32 := if t = 1 then 8 else if t = 2 then 6 else if t = 3 then 10 else 5
/-- the statics: two arrays of the class, what a throw reads, three texts -/
def g_Z (ad : Nat → Nat) (A : Nat → Prop) (U : State) : Prop :=
  (va_Z RX7 "INITIAL_DROPS" "[I" (.ref (ad 130)) A U U.heap ∧ va_Z RX7 "INITIAL_MINUTES" "[I" (.ref (ad 131)) A U U.heap) ∧
  (va_X (ad 130) 7 g_d0 U U.heap ∧ va_X (ad 131) 7 g_m0 U U.heap) ∧
  ((ad 130 < U.heap.size ∧ ¬ A (ad 130)) ∧ (ad 131 < U.heap.size ∧ ¬ A (ad 131))) ∧
  (vx_Zq Bundle.tN "UNASSIGNED_STACK" Bundle.steD A U U.heap ∧ vx_Zq Bundle.tN "SUPPRESSED_SENTINEL" Bundle.listD A U U.heap) ∧
  ((∃ sa, vk_R RX7 258 "there is no such thing" sa U) ∧ (∃ sa, vk_R RX7 265 "the argument is out of range" sa U) ∧ (∃ sa, vk_R RX7 270 "this is not possible now" sa U))
theorem g_Z.step {ad : Nat → Nat} {A B : Nat → Prop} {u U : State} (h : g_Z ad A u) (hW : u.WarmedH U.vm) (hz : u.heap.size ≤ U.heap.size) (hq : ∀ a : Nat, a < u.heap.size → ¬ A a → U.heap[a]? = u.heap[a]?) (hAB : ∀ q, B q → A q) : g_Z ad B U := by
  obtain ⟨⟨a1, a2⟩, ⟨b1, b2⟩, ⟨⟨c1, c2⟩, ⟨c3, c4⟩⟩, ⟨d1, d2⟩, ⟨⟨s1, e1⟩, ⟨s2, e2⟩, ⟨s3, e3⟩⟩⟩ := h
  refine ⟨⟨((a1.kept hq).moved hW.alike).narrow hAB, ((a2.kept hq).moved hW.alike).narrow hAB⟩, ⟨(b1.kept (hq _ c1 c2)).moved hW.alike, (b2.kept (hq _ c3 c4)).moved hW.alike⟩, ⟨⟨Nat.lt_of_lt_of_le c1 hz, fun z => c2 (hAB _ z)⟩, ⟨Nat.lt_of_lt_of_le c3 hz, fun z => c4 (hAB _ z)⟩⟩, ⟨((d1.kept hq).moved hW.alike).narrow hAB, ((d2.kept hq).moved hW.alike).narrow hAB⟩, ⟨⟨s1, e1.warm hW⟩, ⟨s2, e2.warm hW⟩, ⟨s3, e3.warm hW⟩⟩⟩
/-- a method's start -/
def g_B (D : va_G) (ad : Nat → Nat) (ca : Nat → ClassId) (sz : Nat) (m : Nat → Int32) (q : g_q) (U : State) : Prop :=
  U.heap.size = sz ∧ va_P D vwCl (g_ws ad ca (m, q)) U.heap ∧ va_K D vwCl (g_tys ca) U ∧ g_inj ad ∧ g_Z ad (g_A ad sz) U
theorem g_B.blind {D : va_G} {ad : Nat → Nat} {ca : Nat → ClassId} {sz : Nat} {m : Nat → Int32} {q : g_q} (av : List Value) : FrameBlind (va_Pc av (g_B D ad ca sz m q)) := by
  intro a U g mk h
  obtain ⟨h0, h1, h2, h3, h4, h5⟩ := h
  exact ⟨h0, h1, h2, va_K.moved (u := U) (U := U.calling g mk a) (Vm.Alike.refl U.vm) h3, h4, h5.step (U := U.calling g mk a) (State.WarmedH.refl U) (Nat.le_refl _) (fun _ _ _ => rfl) (fun _ z => z)⟩
def g_Qc (D : va_G) (ad : Nat → Nat) (ca : Nat → ClassId) (A : Nat → Prop) (res : g_Res) : Array Value → State → Outcome → State → Prop := fun _ st o t => ∃ v, res.1 = .inl v ∧ o = .returned v ∧ va_P D vwCl (g_ws ad ca res.2) t.heap ∧ va_F A st t
def g_XC (D : va_G) (ad : Nat → Nat) (ca : Nat → ClassId) (A : Nat → Prop) (res : g_Res) : String → State → State → Prop := fun E st t => res.1 = .inr E ∧ va_P D vwCl (g_ws ad ca res.2) t.heap ∧ va_F A st t
/-- what a method says: from the world (m, q) with these arguments it answers (or throws) res.1, behind it the world is res.2; it makes at most mc cells of ms slots -/
def g_SM (l : Launch) (y : MethodName) (cc : ByteArray) (nL : Nat) (ret : Option FieldType) (R : Room) (As : (Nat → Nat) → List Value) (m : Nat → Int32) (q : g_q) (res : g_Res) : Prop :=
  ∀ (D : va_G) (ad : Nat → Nat) (ca : Nat → ClassId) (sz : Nat), vx_Met l y (Cond.code y cc nL ret :: gW) R (va_Pc (As ad) (g_B D ad ca sz m q)) (g_Qc D ad ca (g_A ad sz) res) (g_XC D ad ca (g_A ad sz) res) R.cells R.slots (g_A ad sz)
abbrev g_X : Type := (Program × Launch × Env × Room) × (State × MethodId × Array Value × List Frame × Method × Code) × (va_G × (Nat → Nat) × (Nat → ClassId)) × Nat
abbrev g_xp (X : g_X) : Program := X.1.1
abbrev g_xl (X : g_X) : Launch := X.1.2.1
abbrev g_xe (X : g_X) : Env := X.1.2.2.1
abbrev g_xR (X : g_X) : Room := X.1.2.2.2
abbrev g_xs (X : g_X) : State := X.2.1.1
abbrev g_xm (X : g_X) : MethodId := X.2.1.2.1
abbrev g_xa (X : g_X) : Array Value := X.2.1.2.2.1
abbrev g_xb (X : g_X) : List Frame := X.2.1.2.2.2.1
abbrev g_xt (X : g_X) : Method := X.2.1.2.2.2.2.1
abbrev g_xc (X : g_X) : Code := X.2.1.2.2.2.2.2
abbrev g_xD (X : g_X) : va_G := X.2.2.1.1
abbrev g_ad (X : g_X) : Nat → Nat := X.2.2.1.2.1
abbrev g_ca (X : g_X) : Nat → ClassId := X.2.2.1.2.2
abbrev g_xn (X : g_X) : Nat := X.2.2.2
abbrev g_xA (X : g_X) : Nat → Prop := g_A (g_ad X) (g_xs X).heap.size
def g_ok (X : g_X) (cc : ByteArray) (own : String) (ret : Option FieldType) (R : Room) : Prop :=
  (g_xp X).tables.exec = Jvm.exec ∧ (g_xc X).code = cc ∧ (g_xc X).maxLocals = g_xn X ∧ (g_xs X).vm.findClass own = some (g_xm X).cls ∧ (∀ w ∈ gW, w.before (g_xa X) (g_xs X) = true) ∧
  va_K (g_xD X) vwCl (g_tys (g_ca X)) (g_xs X) ∧ g_inj (g_ad X) ∧ g_Z (g_ad X) (g_xA X) (g_xs X) ∧ (g_xt X).locks = false ∧ (g_xt X).sig.returnType = ret ∧ g_xR X = R ∧ (∀ x ∈ (g_xc X).exceptionTable.toList, False)
/-- the walk at a place: from every state there it comes to the end with the answer emb r -/
def g_V {α : Type} (X : g_X) (emb : α → g_Res) (r : α) (k n : Nat) (m : Nat → Int32) (q : g_q) (pc : Nat) (lc : List (Nat × Value)) (st : List Value) : Prop :=
  ∀ (H : Heap) (locs : List Loc) (ls : Array Slot), va_P (g_xD X) vwCl (g_ws (g_ad X) (g_ca X) (m, q)) H → va_S (g_xA X) (g_xs X).heap H locs → lv_has ls (g_xn X) lc →
    W (g_xp X) (g_xl X) (g_xe X) (g_xR X) (g_xs X) (g_xm X) (g_xa X) (g_xb X) (g_xt X) (g_xc X) H locs k n (vx_MQ (g_xb X) (g_Qc (g_xD X) (g_ad X) (g_ca X) (g_xA X) (emb r)) (g_XC (g_xD X) (g_ad X) (g_ca X) (g_xA X) (emb r)) (g_xa X) (g_xs X) (g_xR X).cells (g_xR X).slots (g_xA X)) (F0 (g_xm X) pc ls st)
/-- a contract, out of a walk from its entry -/
theorem g_sm_of {α : Type} {l : Launch} {y : MethodName} {cc : ByteArray} {nL : Nat} {ret : Option FieldType} {R : Room} {As : (Nat → Nat) → List Value} {m : Nat → Int32} {q : g_q} {emb : α → g_Res} {r : α}
    (hy : plainName y.cls = true) (hn : ∀ ad, (lg_sl (As ad)).length ≤ nL) (hs : l.stackTraces = false)
    (h : ∀ X : g_X, g_xl X = l → g_xn X = nL → g_ok X cc y.cls ret R → g_V X emb r 0 0 m q 0 (lv_args 0 (As (g_ad X))) []) : g_SM l y cc nL ret R As m q (emb r) := by
  intro D ad ca sz
  refine vx_ofW (cc := cc) (maxL := nL) (ret := ret) hy rfl ?_
  intro p e s m0 args below meth c s₁ B hml hx hv
  obtain ⟨rfl, rfl, hP, hK, hi, hZ⟩ := hv
  have hts := atoms_spec (ws := Cond.code y cc nL ret :: gW) B.pre
  rw [lg_entry_eq]
  exact h ((p, l, e, R), (s, m0, (As ad).toArray, below, meth, c), (D, ad, ca), nL) rfl rfl ⟨B.exec, B.bytes, hml, findClass_of_methodNamed B.named, fun w hw => hts w (List.mem_cons_of_mem _ hw), hK, hi, hZ, B.notSynchronized, B.returns, rfl, hx⟩ s.heap [] _ hP va_S.rf (lv_entry (As ad) (hn ad))
end
section
/-! ===== the rows of a walk over the flat world ===== -/
section GR
variable {α : Type} {X : g_X} {emb : α → g_Res} {r : α} {k n : Nat} {m : Nat → Int32} {q : g_q} {pc : Nat} {lc lc' : List (Nat × Value)} {st : List Value} {cc : ByteArray} {own : String} {ret : Option FieldType} {R : Room}
theorem g_ok.exec (O : g_ok X cc own ret R) : (g_xp X).tables.exec = Jvm.exec := O.1
theorem g_ok.code (O : g_ok X cc own ret R) : (g_xc X).code = cc := O.2.1
theorem g_ok.host (O : g_ok X cc own ret R) : (g_xs X).vm.findClass own = some (g_xm X).cls := O.2.2.2.1
theorem g_ok.word (O : g_ok X cc own ret R) {w : Cond} (h : w ∈ gW) : w.before (g_xa X) (g_xs X) = true := O.2.2.2.2.1 w h
theorem g_ok.K (O : g_ok X cc own ret R) : va_K (g_xD X) vwCl (g_tys (g_ca X)) (g_xs X) := O.2.2.2.2.2.1
theorem g_ok.inj (O : g_ok X cc own ret R) : g_inj (g_ad X) := O.2.2.2.2.2.2.1
theorem g_ok.Z (O : g_ok X cc own ret R) : g_Z (g_ad X) (g_xA X) (g_xs X) := O.2.2.2.2.2.2.2.1
theorem g_ok.locks (O : g_ok X cc own ret R) : (g_xt X).locks = false := O.2.2.2.2.2.2.2.2.1
theorem g_ok.rty (O : g_ok X cc own ret R) : (g_xt X).sig.returnType = ret := O.2.2.2.2.2.2.2.2.2.1
theorem g_ok.room (O : g_ok X cc own ret R) : g_xR X = R := O.2.2.2.2.2.2.2.2.2.2.1
theorem g_ok.table (O : g_ok X cc own ret R) : ∀ x ∈ (g_xc X).exceptionTable.toList, False := O.2.2.2.2.2.2.2.2.2.2.2
theorem r_iconst (O : g_ok X cc own ret R) {i : Int} {x : Int32} (hd : decode cc pc = .ok (.iconst i, 1)) (hv : Int32.ofInt i = x) (kk : g_V X emb r k n m q (pc + 1) lc (.int x :: st)) : g_V X emb r k n m q pc lc (st) := fun H locs ls hP hS hh => lv_iconst O.exec O.code hd hv (kk H locs ls hP hS hh)
theorem r_bipush (O : g_ok X cc own ret R) {i : Int} {x : Int32} (hd : decode cc pc = .ok (.bipush i, 2)) (hv : (Int8.ofInt i).toInt32 = x) (kk : g_V X emb r k n m q (pc + 2) lc (.int x :: st)) : g_V X emb r k n m q pc lc (st) := fun H locs ls hP hS hh => lv_bipush O.exec O.code hd hv (kk H locs ls hP hS hh)
theorem r_sipush (O : g_ok X cc own ret R) {i : Int} {x : Int32} (hd : decode cc pc = .ok (.sipush i, 3)) (hv : (Int16.ofInt i).toInt32 = x) (kk : g_V X emb r k n m q (pc + 3) lc (.int x :: st)) : g_V X emb r k n m q pc lc (st) := fun H locs ls hP hS hh => lv_sipush O.exec O.code hd hv (kk H locs ls hP hS hh)
theorem r_ldc (O : g_ok X cc own ret R) {i : Nat} {x : Int32} (hd : decode cc pc = .ok (.ldc i, 2)) (hc : Cond.constant own i x ∈ gW) (kk : g_V X emb r k n m q (pc + 2) lc (.int x :: st)) : g_V X emb r k n m q pc lc (st) := fun H locs ls hP hS hh => lv_ldc O.exec O.code O.host (O.word hc) hd (kk H locs ls hP hS hh)
theorem r_ldcw (O : g_ok X cc own ret R) {i : Nat} {x : Int32} (hd : decode cc pc = .ok (.ldc_w i, 3)) (hc : Cond.constant own i x ∈ gW) (kk : g_V X emb r k n m q (pc + 3) lc (.int x :: st)) : g_V X emb r k n m q pc lc (st) := fun H locs ls hP hS hh => lv_ldcw O.exec O.code O.host (O.word hc) hd (kk H locs ls hP hS hh)
theorem r_ldc2 (O : g_ok X cc own ret R) {i : Nat} {x : Int64} (hd : decode cc pc = .ok (.ldc2_w i, 3)) (hc : Cond.constantLong own i x ∈ gW) (kk : g_V X emb r k n m q (pc + 3) lc (.long x :: st)) : g_V X emb r k n m q pc lc (st) := fun H locs ls hP hS hh => lv_ldc2 O.exec O.code O.host (O.word hc) hd (kk H locs ls hP hS hh)
theorem r_iload_n (O : g_ok X cc own ret R) (z : Nat) {i : Fin 4} {j : Nat} {x : Int32} (hd : decode cc pc = .ok (.iload_n i, 1)) (hi : (i : Nat) = j) (hl : lc[z]? = some (j, .int x)) (kk : g_V X emb r k n m q (pc + 1) lc (.int x :: st)) : g_V X emb r k n m q pc lc (st) := fun H locs ls hP hS hh => lv_iload_n O.exec O.code hd hi (lv_at hh z hl) (kk H locs ls hP hS hh)
theorem r_iload (O : g_ok X cc own ret R) (z : Nat) {j : Nat} {x : Int32} (hd : decode cc pc = .ok (.iload j, 2)) (hl : lc[z]? = some (j, .int x)) (kk : g_V X emb r k n m q (pc + 2) lc (.int x :: st)) : g_V X emb r k n m q pc lc (st) := fun H locs ls hP hS hh => lv_iload O.exec O.code hd (lv_at hh z hl) (kk H locs ls hP hS hh)
theorem r_lload_n (O : g_ok X cc own ret R) (z : Nat) {i : Fin 4} {j : Nat} {x : Int64} (hd : decode cc pc = .ok (.lload_n i, 1)) (hi : (i : Nat) = j) (hl : lc[z]? = some (j, .long x)) (kk : g_V X emb r k n m q (pc + 1) lc (.long x :: st)) : g_V X emb r k n m q pc lc (st) := fun H locs ls hP hS hh => lv_lload_n O.exec O.code hd hi (lv_at hh z hl) (kk H locs ls hP hS hh)
theorem r_lload (O : g_ok X cc own ret R) (z : Nat) {j : Nat} {x : Int64} (hd : decode cc pc = .ok (.lload j, 2)) (hl : lc[z]? = some (j, .long x)) (kk : g_V X emb r k n m q (pc + 2) lc (.long x :: st)) : g_V X emb r k n m q pc lc (st) := fun H locs ls hP hS hh => lv_lload O.exec O.code hd (lv_at hh z hl) (kk H locs ls hP hS hh)
theorem r_aload_n (O : g_ok X cc own ret R) (z : Nat) {i : Fin 4} {j : Nat} {x : Nat} (hd : decode cc pc = .ok (.aload_n i, 1)) (hi : (i : Nat) = j) (hl : lc[z]? = some (j, .ref x)) (kk : g_V X emb r k n m q (pc + 1) lc (.ref x :: st)) : g_V X emb r k n m q pc lc (st) := fun H locs ls hP hS hh => lv_aload_n O.exec O.code hd hi (lv_at hh z hl) (kk H locs ls hP hS hh)
theorem r_aload (O : g_ok X cc own ret R) (z : Nat) {j : Nat} {x : Nat} (hd : decode cc pc = .ok (.aload j, 2)) (hl : lc[z]? = some (j, .ref x)) (kk : g_V X emb r k n m q (pc + 2) lc (.ref x :: st)) : g_V X emb r k n m q pc lc (st) := fun H locs ls hP hS hh => lv_aload O.exec O.code hd (lv_at hh z hl) (kk H locs ls hP hS hh)
theorem r_dload_n (O : g_ok X cc own ret R) (z : Nat) {i : Fin 4} {j : Nat} {x : UInt64} (hd : decode cc pc = .ok (.dload_n i, 1)) (hi : (i : Nat) = j) (hl : lc[z]? = some (j, .double x)) (kk : g_V X emb r k n m q (pc + 1) lc (.double x :: st)) : g_V X emb r k n m q pc lc (st) := fun H locs ls hP hS hh => lv_dload_n O.exec O.code hd hi (lv_at hh z hl) (kk H locs ls hP hS hh)
theorem r_dload (O : g_ok X cc own ret R) (z : Nat) {j : Nat} {x : UInt64} (hd : decode cc pc = .ok (.dload j, 2)) (hl : lc[z]? = some (j, .double x)) (kk : g_V X emb r k n m q (pc + 2) lc (.double x :: st)) : g_V X emb r k n m q pc lc (st) := fun H locs ls hP hS hh => lv_dload O.exec O.code hd (lv_at hh z hl) (kk H locs ls hP hS hh)
theorem r_istore_n (O : g_ok X cc own ret R) {i : Fin 4} {j : Nat} {x : Int32} (hd : decode cc pc = .ok (.istore_n i, 1)) (hi : (i : Nat) = j) (hn : j < g_xn X) (hl : (j, Value.int x) :: lc.filter (fun q => !(q.1 == j) && !(q.1 + 1 == j && q.2.category == 2)) = lc') (kk : g_V X emb r k n m q (pc + 1) lc' (st)) : g_V X emb r k n m q pc lc (.int x :: st) := fun H locs ls hP hS hh => lv_istore_n O.exec O.code hd hi hh hn hl (fun ls' hh' => kk H locs ls' hP hS hh')
theorem r_istore (O : g_ok X cc own ret R) {j : Nat} {x : Int32} (hd : decode cc pc = .ok (.istore j, 2)) (hn : j < g_xn X) (hl : (j, Value.int x) :: lc.filter (fun q => !(q.1 == j) && !(q.1 + 1 == j && q.2.category == 2)) = lc') (kk : g_V X emb r k n m q (pc + 2) lc' (st)) : g_V X emb r k n m q pc lc (.int x :: st) := fun H locs ls hP hS hh => lv_istore O.exec O.code hd hh hn hl (fun ls' hh' => kk H locs ls' hP hS hh')
theorem r_lstore_n (O : g_ok X cc own ret R) {i : Fin 4} {j : Nat} {x : Int64} (hd : decode cc pc = .ok (.lstore_n i, 1)) (hi : (i : Nat) = j) (hn : j + 1 < g_xn X) (hl : (j, Value.long x) :: lc.filter (fun q => !(q.1 == j) && (!(q.1 == j + 1) && !(q.1 + 1 == j && q.2.category == 2))) = lc') (kk : g_V X emb r k n m q (pc + 1) lc' (st)) : g_V X emb r k n m q pc lc (.long x :: st) := fun H locs ls hP hS hh => lv_lstore_n O.exec O.code hd hi hh hn hl (fun ls' hh' => kk H locs ls' hP hS hh')
theorem r_lstore (O : g_ok X cc own ret R) {j : Nat} {x : Int64} (hd : decode cc pc = .ok (.lstore j, 2)) (hn : j + 1 < g_xn X) (hl : (j, Value.long x) :: lc.filter (fun q => !(q.1 == j) && (!(q.1 == j + 1) && !(q.1 + 1 == j && q.2.category == 2))) = lc') (kk : g_V X emb r k n m q (pc + 2) lc' (st)) : g_V X emb r k n m q pc lc (.long x :: st) := fun H locs ls hP hS hh => lv_lstore O.exec O.code hd hh hn hl (fun ls' hh' => kk H locs ls' hP hS hh')
theorem r_astore_n (O : g_ok X cc own ret R) {i : Fin 4} {j : Nat} {x : Nat} (hd : decode cc pc = .ok (.astore_n i, 1)) (hi : (i : Nat) = j) (hn : j < g_xn X) (hl : (j, Value.ref x) :: lc.filter (fun q => !(q.1 == j) && !(q.1 + 1 == j && q.2.category == 2)) = lc') (kk : g_V X emb r k n m q (pc + 1) lc' (st)) : g_V X emb r k n m q pc lc (.ref x :: st) := fun H locs ls hP hS hh => lv_astore_n O.exec O.code hd hi hh hn hl (fun ls' hh' => kk H locs ls' hP hS hh')
theorem r_astore (O : g_ok X cc own ret R) {j : Nat} {x : Nat} (hd : decode cc pc = .ok (.astore j, 2)) (hn : j < g_xn X) (hl : (j, Value.ref x) :: lc.filter (fun q => !(q.1 == j) && !(q.1 + 1 == j && q.2.category == 2)) = lc') (kk : g_V X emb r k n m q (pc + 2) lc' (st)) : g_V X emb r k n m q pc lc (.ref x :: st) := fun H locs ls hP hS hh => lv_astore O.exec O.code hd hh hn hl (fun ls' hh' => kk H locs ls' hP hS hh')
theorem r_dstore_n (O : g_ok X cc own ret R) {i : Fin 4} {j : Nat} {x : UInt64} (hd : decode cc pc = .ok (.dstore_n i, 1)) (hi : (i : Nat) = j) (hn : j + 1 < g_xn X) (hl : (j, Value.double x) :: lc.filter (fun q => !(q.1 == j) && (!(q.1 == j + 1) && !(q.1 + 1 == j && q.2.category == 2))) = lc') (kk : g_V X emb r k n m q (pc + 1) lc' (st)) : g_V X emb r k n m q pc lc (.double x :: st) := fun H locs ls hP hS hh => lv_dstore_n O.exec O.code hd hi hh hn hl (fun ls' hh' => kk H locs ls' hP hS hh')
theorem r_dstore (O : g_ok X cc own ret R) {j : Nat} {x : UInt64} (hd : decode cc pc = .ok (.dstore j, 2)) (hn : j + 1 < g_xn X) (hl : (j, Value.double x) :: lc.filter (fun q => !(q.1 == j) && (!(q.1 == j + 1) && !(q.1 + 1 == j && q.2.category == 2))) = lc') (kk : g_V X emb r k n m q (pc + 2) lc' (st)) : g_V X emb r k n m q pc lc (.double x :: st) := fun H locs ls hP hS hh => lv_dstore O.exec O.code hd hh hn hl (fun ls' hh' => kk H locs ls' hP hS hh')
theorem r_iinc (O : g_ok X cc own ret R) (z : Nat) {j : Nat} {i : Int} {x y : Int32} (hd : decode cc pc = .ok (.iinc j i, 3)) (hk : lc[z]? = some (j, .int x)) (hv : x + Int32.ofInt i = y) (hn : j < g_xn X) (hl : (j, Value.int y) :: lc.filter (fun q => !(q.1 == j) && !(q.1 + 1 == j && q.2.category == 2)) = lc') (kk : g_V X emb r k n m q (pc + 3) lc' (st)) : g_V X emb r k n m q pc lc (st) := fun H locs ls hP hS hh => lv_iinc O.exec O.code hd hh hk hv hn hl (fun ls' hh' => kk H locs ls' hP hS hh')
theorem r_iadd (O : g_ok X cc own ret R) {x y : Int32} (hd : decode cc pc = .ok (.iadd, 1)) (kk : g_V X emb r k n m q (pc + 1) lc (.int (x + y) :: st)) : g_V X emb r k n m q pc lc (.int y :: .int x :: st) := fun H locs ls hP hS hh => lv_iadd O.exec O.code hd (kk H locs ls hP hS hh)
theorem r_isub (O : g_ok X cc own ret R) {x y : Int32} (hd : decode cc pc = .ok (.isub, 1)) (kk : g_V X emb r k n m q (pc + 1) lc (.int (x - y) :: st)) : g_V X emb r k n m q pc lc (.int y :: .int x :: st) := fun H locs ls hP hS hh => lv_isub O.exec O.code hd (kk H locs ls hP hS hh)
theorem r_imul (O : g_ok X cc own ret R) {x y : Int32} (hd : decode cc pc = .ok (.imul, 1)) (kk : g_V X emb r k n m q (pc + 1) lc (.int (x * y) :: st)) : g_V X emb r k n m q pc lc (.int y :: .int x :: st) := fun H locs ls hP hS hh => lv_imul O.exec O.code hd (kk H locs ls hP hS hh)
theorem r_iand (O : g_ok X cc own ret R) {x y : Int32} (hd : decode cc pc = .ok (.iand, 1)) (kk : g_V X emb r k n m q (pc + 1) lc (.int (x &&& y) :: st)) : g_V X emb r k n m q pc lc (.int y :: .int x :: st) := fun H locs ls hP hS hh => lv_iand O.exec O.code hd (kk H locs ls hP hS hh)
theorem r_ior (O : g_ok X cc own ret R) {x y : Int32} (hd : decode cc pc = .ok (.ior, 1)) (kk : g_V X emb r k n m q (pc + 1) lc (.int (x ||| y) :: st)) : g_V X emb r k n m q pc lc (.int y :: .int x :: st) := fun H locs ls hP hS hh => lv_ior O.exec O.code hd (kk H locs ls hP hS hh)
theorem r_ishl (O : g_ok X cc own ret R) {x y : Int32} (hd : decode cc pc = .ok (.ishl, 1)) (kk : g_V X emb r k n m q (pc + 1) lc (.int (x <<< (y &&& 31)) :: st)) : g_V X emb r k n m q pc lc (.int y :: .int x :: st) := fun H locs ls hP hS hh => lv_ishl O.exec O.code hd (kk H locs ls hP hS hh)
theorem r_ishr (O : g_ok X cc own ret R) {x y : Int32} (hd : decode cc pc = .ok (.ishr, 1)) (kk : g_V X emb r k n m q (pc + 1) lc (.int (x >>> (y &&& 31)) :: st)) : g_V X emb r k n m q pc lc (.int y :: .int x :: st) := fun H locs ls hP hS hh => lv_ishr O.exec O.code hd (kk H locs ls hP hS hh)
theorem r_idiv (O : g_ok X cc own ret R) {x y : Int32} (hd : decode cc pc = .ok (.idiv, 1)) (hy : ¬ y = 0) (kk : g_V X emb r k n m q (pc + 1) lc (.int (x / y) :: st)) : g_V X emb r k n m q pc lc (.int y :: .int x :: st) := fun H locs ls hP hS hh => lv_idiv O.exec O.code hd hy (kk H locs ls hP hS hh)
theorem r_irem (O : g_ok X cc own ret R) {x y : Int32} (hd : decode cc pc = .ok (.irem, 1)) (hy : ¬ y = 0) (kk : g_V X emb r k n m q (pc + 1) lc (.int (x - x / y * y) :: st)) : g_V X emb r k n m q pc lc (.int y :: .int x :: st) := fun H locs ls hP hS hh => lv_irem O.exec O.code hd hy (kk H locs ls hP hS hh)
theorem r_ladd (O : g_ok X cc own ret R) {x y : Int64} (hd : decode cc pc = .ok (.ladd, 1)) (kk : g_V X emb r k n m q (pc + 1) lc (.long (x + y) :: st)) : g_V X emb r k n m q pc lc (.long y :: .long x :: st) := fun H locs ls hP hS hh => lv_ladd O.exec O.code hd (kk H locs ls hP hS hh)
theorem r_lmul (O : g_ok X cc own ret R) {x y : Int64} (hd : decode cc pc = .ok (.lmul, 1)) (kk : g_V X emb r k n m q (pc + 1) lc (.long (x * y) :: st)) : g_V X emb r k n m q pc lc (.long y :: .long x :: st) := fun H locs ls hP hS hh => lv_lmul O.exec O.code hd (kk H locs ls hP hS hh)
theorem r_lcmp (O : g_ok X cc own ret R) {x y : Int64} (hd : decode cc pc = .ok (.lcmp, 1)) (kk : g_V X emb r k n m q (pc + 1) lc (.int (lg_cmp x y) :: st)) : g_V X emb r k n m q pc lc (.long y :: .long x :: st) := fun H locs ls hP hS hh => W.lcmp O.exec O.code hd (kk H locs ls hP hS hh)
theorem r_i2l (O : g_ok X cc own ret R) {x : Int32} (hd : decode cc pc = .ok (.i2l, 1)) (kk : g_V X emb r k n m q (pc + 1) lc (.long x.toInt64 :: st)) : g_V X emb r k n m q pc lc (.int x :: st) := fun H locs ls hP hS hh => lv_i2l O.exec O.code hd rfl (kk H locs ls hP hS hh)
theorem r_dup (O : g_ok X cc own ret R) {x : Value} (hd : decode cc pc = .ok (.dup, 1)) (hx : x.category = 1) (kk : g_V X emb r k n m q (pc + 1) lc (x :: x :: st)) : g_V X emb r k n m q pc lc (x :: st) := fun H locs ls hP hS hh => lv_dup O.exec O.code hd hx (kk H locs ls hP hS hh)
theorem r_pop (O : g_ok X cc own ret R) {x : Value} (hd : decode cc pc = .ok (.pop, 1)) (hx : x.category = 1) (kk : g_V X emb r k n m q (pc + 1) lc (st)) : g_V X emb r k n m q pc lc (x :: st) := fun H locs ls hP hS hh => lv_pop O.exec O.code hd hx (kk H locs ls hP hS hh)
theorem r_dup2 (O : g_ok X cc own ret R) {x y : Value} (hd : decode cc pc = .ok (.dup2, 1)) (hx : x.category = 1) (hy : y.category = 1) (kk : g_V X emb r k n m q (pc + 1) lc (x :: y :: x :: y :: st)) : g_V X emb r k n m q pc lc (x :: y :: st) := fun H locs ls hP hS hh => lv_dup2_11 O.exec O.code hd hx hy (kk H locs ls hP hS hh)
theorem r_goto (O : g_ok X cc own ret R) {off : Int} (tgt : Nat) (hd : decode cc pc = .ok (.goto off, 3)) (ht : (pc : Int) + off = (tgt : Int)) (kk : g_V X emb r k n m q tgt lc (st)) : g_V X emb r k n m q pc lc (st) := fun H locs ls hP hS hh => lv_goto O.exec O.code hd ht (kk H locs ls hP hS hh)
theorem r_if_eq (O : g_ok X cc own ret R) {A B : α} {x : Int32} {off : Int} (tgt : Nat) (hd : decode cc pc = .ok (.ifCond .eq off, 3)) (ht : (pc : Int) + off = (tgt : Int)) (kt : x = 0 → g_V X emb A k n m q tgt lc (st)) (kf : ¬ x = 0 → g_V X emb B k n m q (pc + 3) lc (st)) : g_V X emb (if x = 0 then A else B) k n m q pc lc (.int x :: st) := fun H locs ls hP hS hh => lv_if_eq O.exec O.code hd ht (fun c => by rw [if_pos c]; exact kt c H locs ls hP hS hh) (fun c => by rw [if_neg c]; exact kf c H locs ls hP hS hh)
theorem r_if_ne (O : g_ok X cc own ret R) {A B : α} {x : Int32} {off : Int} (tgt : Nat) (hd : decode cc pc = .ok (.ifCond .ne off, 3)) (ht : (pc : Int) + off = (tgt : Int)) (kt : x = 0 → g_V X emb A k n m q (pc + 3) lc (st)) (kf : ¬ x = 0 → g_V X emb B k n m q tgt lc (st)) : g_V X emb (if x = 0 then A else B) k n m q pc lc (.int x :: st) := fun H locs ls hP hS hh => lv_if_ne O.exec O.code hd ht (fun c => by rw [if_neg c]; exact kf c H locs ls hP hS hh) (fun c => by rw [if_pos c]; exact kt c H locs ls hP hS hh)
theorem r_if_lt (O : g_ok X cc own ret R) {A B : α} {x : Int32} {off : Int} (tgt : Nat) (hd : decode cc pc = .ok (.ifCond .lt off, 3)) (ht : (pc : Int) + off = (tgt : Int)) (kt : x < 0 → g_V X emb A k n m q tgt lc (st)) (kf : ¬ x < 0 → g_V X emb B k n m q (pc + 3) lc (st)) : g_V X emb (if x < 0 then A else B) k n m q pc lc (.int x :: st) := fun H locs ls hP hS hh => lv_if_lt O.exec O.code hd ht (fun c => by rw [if_pos c]; exact kt c H locs ls hP hS hh) (fun c => by rw [if_neg c]; exact kf c H locs ls hP hS hh)
theorem r_if_ge (O : g_ok X cc own ret R) {A B : α} {x : Int32} {off : Int} (tgt : Nat) (hd : decode cc pc = .ok (.ifCond .ge off, 3)) (ht : (pc : Int) + off = (tgt : Int)) (kt : 0 ≤ x → g_V X emb A k n m q tgt lc (st)) (kf : ¬ 0 ≤ x → g_V X emb B k n m q (pc + 3) lc (st)) : g_V X emb (if 0 ≤ x then A else B) k n m q pc lc (.int x :: st) := fun H locs ls hP hS hh => lv_if_ge O.exec O.code hd ht (fun c => by rw [if_pos c]; exact kt c H locs ls hP hS hh) (fun c => by rw [if_neg c]; exact kf c H locs ls hP hS hh)
theorem r_if_gt (O : g_ok X cc own ret R) {A B : α} {x : Int32} {off : Int} (tgt : Nat) (hd : decode cc pc = .ok (.ifCond .gt off, 3)) (ht : (pc : Int) + off = (tgt : Int)) (kt : 0 < x → g_V X emb A k n m q tgt lc (st)) (kf : ¬ 0 < x → g_V X emb B k n m q (pc + 3) lc (st)) : g_V X emb (if 0 < x then A else B) k n m q pc lc (.int x :: st) := fun H locs ls hP hS hh => lv_if_gt O.exec O.code hd ht (fun c => by rw [if_pos c]; exact kt c H locs ls hP hS hh) (fun c => by rw [if_neg c]; exact kf c H locs ls hP hS hh)
theorem r_if_le (O : g_ok X cc own ret R) {A B : α} {x : Int32} {off : Int} (tgt : Nat) (hd : decode cc pc = .ok (.ifCond .le off, 3)) (ht : (pc : Int) + off = (tgt : Int)) (kt : x ≤ 0 → g_V X emb A k n m q tgt lc (st)) (kf : ¬ x ≤ 0 → g_V X emb B k n m q (pc + 3) lc (st)) : g_V X emb (if x ≤ 0 then A else B) k n m q pc lc (.int x :: st) := fun H locs ls hP hS hh => lv_if_le O.exec O.code hd ht (fun c => by rw [if_pos c]; exact kt c H locs ls hP hS hh) (fun c => by rw [if_neg c]; exact kf c H locs ls hP hS hh)
theorem r_icmp_eq (O : g_ok X cc own ret R) {A B : α} {x y : Int32} {off : Int} (tgt : Nat) (hd : decode cc pc = .ok (.if_icmp .eq off, 3)) (ht : (pc : Int) + off = (tgt : Int)) (kt : x = y → g_V X emb A k n m q tgt lc (st)) (kf : ¬ x = y → g_V X emb B k n m q (pc + 3) lc (st)) : g_V X emb (if x = y then A else B) k n m q pc lc (.int y :: .int x :: st) := fun H locs ls hP hS hh => lv_icmp_eq O.exec O.code hd ht (fun c => by rw [if_pos c]; exact kt c H locs ls hP hS hh) (fun c => by rw [if_neg c]; exact kf c H locs ls hP hS hh)
theorem r_icmp_ne (O : g_ok X cc own ret R) {A B : α} {x y : Int32} {off : Int} (tgt : Nat) (hd : decode cc pc = .ok (.if_icmp .ne off, 3)) (ht : (pc : Int) + off = (tgt : Int)) (kt : x = y → g_V X emb A k n m q (pc + 3) lc (st)) (kf : ¬ x = y → g_V X emb B k n m q tgt lc (st)) : g_V X emb (if x = y then A else B) k n m q pc lc (.int y :: .int x :: st) := fun H locs ls hP hS hh => lv_icmp_ne O.exec O.code hd ht (fun c => by rw [if_neg c]; exact kf c H locs ls hP hS hh) (fun c => by rw [if_pos c]; exact kt c H locs ls hP hS hh)
theorem r_icmp_lt (O : g_ok X cc own ret R) {A B : α} {x y : Int32} {off : Int} (tgt : Nat) (hd : decode cc pc = .ok (.if_icmp .lt off, 3)) (ht : (pc : Int) + off = (tgt : Int)) (kt : x < y → g_V X emb A k n m q tgt lc (st)) (kf : ¬ x < y → g_V X emb B k n m q (pc + 3) lc (st)) : g_V X emb (if x < y then A else B) k n m q pc lc (.int y :: .int x :: st) := fun H locs ls hP hS hh => lv_icmp_lt O.exec O.code hd ht (fun c => by rw [if_pos c]; exact kt c H locs ls hP hS hh) (fun c => by rw [if_neg c]; exact kf c H locs ls hP hS hh)
theorem r_icmp_ge (O : g_ok X cc own ret R) {A B : α} {x y : Int32} {off : Int} (tgt : Nat) (hd : decode cc pc = .ok (.if_icmp .ge off, 3)) (ht : (pc : Int) + off = (tgt : Int)) (kt : y ≤ x → g_V X emb A k n m q tgt lc (st)) (kf : ¬ y ≤ x → g_V X emb B k n m q (pc + 3) lc (st)) : g_V X emb (if y ≤ x then A else B) k n m q pc lc (.int y :: .int x :: st) := fun H locs ls hP hS hh => lv_icmp_ge O.exec O.code hd ht (fun c => by rw [if_pos c]; exact kt c H locs ls hP hS hh) (fun c => by rw [if_neg c]; exact kf c H locs ls hP hS hh)
theorem r_icmp_gt (O : g_ok X cc own ret R) {A B : α} {x y : Int32} {off : Int} (tgt : Nat) (hd : decode cc pc = .ok (.if_icmp .gt off, 3)) (ht : (pc : Int) + off = (tgt : Int)) (kt : y < x → g_V X emb A k n m q tgt lc (st)) (kf : ¬ y < x → g_V X emb B k n m q (pc + 3) lc (st)) : g_V X emb (if y < x then A else B) k n m q pc lc (.int y :: .int x :: st) := fun H locs ls hP hS hh => lv_icmp_gt O.exec O.code hd ht (fun c => by rw [if_pos c]; exact kt c H locs ls hP hS hh) (fun c => by rw [if_neg c]; exact kf c H locs ls hP hS hh)
theorem r_icmp_le (O : g_ok X cc own ret R) {A B : α} {x y : Int32} {off : Int} (tgt : Nat) (hd : decode cc pc = .ok (.if_icmp .le off, 3)) (ht : (pc : Int) + off = (tgt : Int)) (kt : x ≤ y → g_V X emb A k n m q tgt lc (st)) (kf : ¬ x ≤ y → g_V X emb B k n m q (pc + 3) lc (st)) : g_V X emb (if x ≤ y then A else B) k n m q pc lc (.int y :: .int x :: st) := fun H locs ls hP hS hh => lv_icmp_le O.exec O.code hd ht (fun c => by rw [if_pos c]; exact kt c H locs ls hP hS hh) (fun c => by rw [if_neg c]; exact kf c H locs ls hP hS hh)
theorem r_lookup (O : g_ok X cc own ret R) {dflt : Int} {ps : Array (Int × Int)} {len : Nat} {x : Int32} {off : Int} (tgt : Nat) (hd : decode cc pc = .ok (.lookupswitch dflt ps, len)) (hp : (ps.toList.zip (ps.toList.drop 1)).all (fun (a, next) => a.1 < next.1) = true) (ho : Op.lookupswitch.offset ps.toList dflt x.toInt = off) (ht : (pc : Int) + off = (tgt : Int)) (kk : g_V X emb r k n m q tgt lc st) : g_V X emb r k n m q pc lc (.int x :: st) := fun H locs ls hP hS hh => lv_lookup O.exec O.code hd hp ho ht (kk H locs ls hP hS hh)
theorem r_tabOut (O : g_ok X cc own ret R) {dflt lo hi : Int} {offs : Array Int} {len : Nat} {x : Int32} (tgt : Nat) (hd : decode cc pc = .ok (.tableswitch dflt lo hi offs, len)) (h : x.toInt < lo ∨ hi < x.toInt) (ht : (pc : Int) + dflt = (tgt : Int)) (kk : g_V X emb r k n m q tgt lc st) : g_V X emb r k n m q pc lc (.int x :: st) := fun H locs ls hP hS hh => lv_tableOut O.exec O.code hd h ht (kk H locs ls hP hS hh)
theorem r_tabIn (O : g_ok X cc own ret R) {dflt lo hi : Int} {offs : Array Int} {len : Nat} {x : Int32} {off : Int} (tgt : Nat) (hd : decode cc pc = .ok (.tableswitch dflt lo hi offs, len)) (h1 : ¬ x.toInt < lo) (h2 : ¬ hi < x.toInt) (ho : offs[(x.toInt - lo).toNat]? = some off) (ht : (pc : Int) + off = (tgt : Int)) (kk : g_V X emb r k n m q tgt lc st) : g_V X emb r k n m q pc lc (.int x :: st) := fun H locs ls hP hS hh => lv_tableIn O.exec O.code hd h1 h2 ho ht (kk H locs ls hP hS hh)
/-! fields -/
/-- field j of class ci is what the constant pool's place idx of own names; it can be read -/
def g_FL (own : String) (idx ci j : Nat) : Prop := ∃ (C : String) (T : u_T) (N : Nat), vwCl[ci]? = some (C, T, N) ∧ j < N ∧ (∀ w ∈ u_ws C T N, w ∈ gW) ∧ Cond.fieldLink own idx (T j).1 (T j).2.1 (T j).2.2.1 ∈ gW
def g_G (ad : Nat → Nat) (ca : Nat → ClassId) (μ : g_M) (kc ci j : Nat) (v : Value) : Prop := kc < 130 ∧ ∃ fs : List Value, g_ent ad ca μ kc = .inr (ci, fs) ∧ fs[j]? = some v
theorem r_get (O : g_ok X cc own ret R) {idx ci j kc : Nat} {x : Value} (F : g_FL own idx ci j) (G : g_G (g_ad X) (g_ca X) (m, q) kc ci j x) (hd : decode cc pc = .ok (.getfield idx, 3)) (kk : g_V X emb r k n m q (pc + 3) lc (x :: st)) : g_V X emb r k n m q pc lc (.ref (g_ad X kc) :: st) := by
  obtain ⟨C, T, N, hc, hj, hin, hl⟩ := F
  obtain ⟨hk, fs, he, hv⟩ := G
  exact fun H locs ls hP hS hh => va_get O.exec O.code (Ts := gW) (fun w hw => O.word hw) hin O.host O.K hP kc (by rw [g_ws_at _ _ _ hk, he]) hc j hj (O.word hl) (fun _ h => h) hv hd (kk H locs ls hP hS hh)
/-- it can be written: what it takes -/
def g_FP (own : String) (idx ci j : Nat) (v : Value) : Prop := ∃ (C : String) (T : u_T) (N : Nat) (ty0 : Nat → FieldType), vwCl[ci]? = some (C, T, N) ∧ j < N ∧ (∀ w ∈ u_ws C T N, w ∈ gW) ∧ Cond.fieldLink own idx (T j).1 (T j).2.1 (T j).2.2.1 ∈ gW ∧ (∀ k, k < N → parseFieldDescriptor (T k).2.2.1 = some (ty0 k)) ∧ (∀ a, a < N → ∀ b, b < N → a ≠ b → (T a).2.1 ≠ (T b).2.1) ∧ (T j).2.2.2 = false ∧ narrow (ty0 j) v = v ∧ fits (ty0 j) v = true
def g_S (ad : Nat → Nat) (ca : Nat → ClassId) (μ : g_M) (kc ci j : Nat) (v : Value) (μ' : g_M) : Prop := kc < 130 ∧ ∃ fs : List Value, g_ent ad ca μ kc = .inr (ci, fs) ∧ j < fs.length ∧ (g_ws ad ca μ).set kc (ad kc, .inr (ci, fs.set j v)) = g_ws ad ca μ'
theorem r_put (O : g_ok X cc own ret R) {idx ci j kc : Nat} {x : Value} {m' : Nat → Int32} {q' : g_q} (F : g_FP own idx ci j x) (G : g_S (g_ad X) (g_ca X) (m, q) kc ci j x (m', q')) (hd : decode cc pc = .ok (.putfield idx, 3)) (kk : g_V X emb r k n m' q' (pc + 3) lc st) : g_V X emb r k n m q pc lc (x :: .ref (g_ad X kc) :: st) := by
  obtain ⟨C, T, N, ty0, hc, hj, hin, hl, hty, hnm, hfin, hn, hf⟩ := F
  obtain ⟨hk, fs, he, hv, hs⟩ := G
  refine fun H locs ls hP hS hh => va_put O.exec O.code (Ts := gW) (fun w hw => O.word hw) hin ty0 hty hnm O.host O.K hP (g_D O.inj) hS kc (by rw [g_ws_at _ _ _ hk, he]) hc j hj (O.word hl) (fun _ h => h) hfin (hty j hj) hn hf hv hd (fun H1 locs1 hP1 _ hS1 => ?_)
  rw [hs] at hP1
  exact kk H1 locs1 ls hP1 hS1 hh
/-! arrays of numbers: read g at a place below n; write by w -/
def g_R (ad : Nat → Nat) (ca : Nat → ClassId) (μ : g_M) (kc n : Nat) (g : Nat → Int32) : Prop := kc < 130 ∧ ∃ f : Nat → Int32, g_ent ad ca μ kc = .inl (ca 0, n, .inl f) ∧ ∀ t, t < n → f t = g t
theorem r_iald (O : g_ok X cc own ret R) {kc len : Nat} {g : Nat → Int32} {i : Int32} (G : g_R (g_ad X) (g_ca X) (m, q) kc len g) (hin : vp_in i len) (hd : decode cc pc = .ok (.iaload, 1)) (kk : g_V X emb r k n m q (pc + 1) lc (.int (g i.toNatClampNeg) :: st)) : g_V X emb r k n m q pc lc (.int i :: .ref (g_ad X kc) :: st) := by
  obtain ⟨hk, f, he, hf⟩ := G
  refine fun H locs ls hP hS hh => va_iald O.exec O.code O.K hP kc 0 (by rw [g_ws_at _ _ _ hk, he]) rfl hin hd ?_
  rw [hf _ (Nat.not_le.mp fun z => hin (Or.inr z))]
  exact kk H locs ls hP hS hh
def g_T (ad : Nat → Nat) (ca : Nat → ClassId) (μ : g_M) (kc n : Nat) (w : Nat → Int32 → g_M) : Prop := kc < 130 ∧ ∃ f : Nat → Int32, g_ent ad ca μ kc = .inl (ca 0, n, .inl f) ∧ ∀ t x, t < n → (g_ws ad ca μ).set kc (ad kc, .inl (ca 0, n, .inl (upd f t x))) = g_ws ad ca (w t x)
theorem r_iast (O : g_ok X cc own ret R) {kc len : Nat} {w : Nat → Int32 → g_M} {i x : Int32} (G : g_T (g_ad X) (g_ca X) (m, q) kc len w) (hin : vp_in i len) (hd : decode cc pc = .ok (.iastore, 1)) (kk : g_V X emb r k n (w i.toNatClampNeg x).1 (w i.toNatClampNeg x).2 (pc + 1) lc st) : g_V X emb r k n m q pc lc (.int x :: .int i :: .ref (g_ad X kc) :: st) := by
  obtain ⟨hk, f, he, hw⟩ := G
  refine fun H locs ls hP hS hh => va_iast O.exec O.code O.K hP (g_D O.inj) hS kc 0 (by rw [g_ws_at _ _ _ hk, he]) rfl hin hd (fun H1 locs1 hP1 _ hS1 => ?_)
  rw [hw _ _ (Nat.not_le.mp fun z => hin (Or.inr z))] at hP1
  exact kk H1 locs1 ls hP1 hS1 hh
/-! ends -/
theorem r_iret {ty : FieldType} {x : Int32} (O : g_ok X cc own (some ty) R) (hd : decode cc pc = .ok (.ireturn, 1)) (hn : narrow ty (.int x) = .int x) (hk : k ≤ R.cells) (hs : n ≤ R.slots) (he : emb r = (.inl (some (.int x)), (m, q))) : g_V X emb r k n m q pc lc [.int x] := by
  intro H locs ls hP hS hh
  rw [← O.room] at hk hs
  exact W.widen hk hs (vx_ret (W.zret O.exec O.code O.rty hn (fun t ht _ => ⟨some (.int x), by rw [he], rfl, by rw [he, ht]; exact hP, hS.F ht⟩) hS.2.2 hd O.locks))
theorem r_lret {x : Int64} (O : g_ok X cc own (some .long) R) (hd : decode cc pc = .ok (.lreturn, 1)) (hk : k ≤ R.cells) (hs : n ≤ R.slots) (he : emb r = (.inl (some (.long x)), (m, q))) : g_V X emb r k n m q pc lc [.long x] := by
  intro H locs ls hP hS hh
  rw [← O.room] at hk hs
  exact W.widen hk hs (vx_ret (W.lret O.exec O.code O.rty (fun t ht _ => ⟨some (.long x), by rw [he], rfl, by rw [he, ht]; exact hP, hS.F ht⟩) hS.2.2 hd O.locks))
theorem r_vret (O : g_ok X cc own none R) (hd : decode cc pc = .ok (.return_, 1)) (hk : k ≤ R.cells) (hs : n ≤ R.slots) (he : emb r = (.inl none, (m, q))) : g_V X emb r k n m q pc lc [] := by
  intro H locs ls hP hS hh
  rw [← O.room] at hk hs
  exact W.widen hk hs (vx_ret (W.vret O.exec O.code O.rty (fun t ht _ => ⟨none, by rw [he], rfl, by rw [he, ht]; exact hP, hS.F ht⟩) hS.2.2 hd O.locks))
theorem r_sub (is : List Nat) (hl : lv_pick lc is = lc') (kk : g_V X emb r k n m q pc lc' st) : g_V X emb r k n m q pc lc st := fun H locs ls hP hS hh => kk H locs ls hP hS (lv_sub hh is hl)
/-! calls -/
def g_obj (ci : Nat) (b : Nat) : Prop := b < 130 ∧ ∀ (ad : Nat → Nat) (ca : Nat → ClassId) (μ : g_M), ∃ fs : List Value, g_ent ad ca μ b = .inr (ci, fs)
def g_LB (own : String) (idx : Nat) (y : MethodName) (cy : ByteArray) (nL : Nat) (rt : Option FieldType) (na : Nat) : Prop := Cond.methodLink own idx y ∈ gW ∧ Cond.initialized y.cls ∈ gW ∧ Cond.code y cy nL rt ∈ gW ∧ (y.cls ≠ "java/lang/invoke/MethodHandle" ∧ y.cls ≠ "java/lang/invoke/VarHandle" ∧ (parseMethodDescriptor y.desc).map (fun d => d.parameters.length) = some na)
def g_LV (own : String) (idx : Nat) (y : MethodName) (cy : ByteArray) (nL : Nat) (rt : Option FieldType) (na ci : Nat) : Prop := g_LB own idx y cy nL rt na ∧ Cond.instanceMethod y ∈ gW ∧ Cond.selects y.cls y y ∈ gW ∧ ∃ T N, vwCl[ci]? = some (y.cls, T, N)
def g_LS (own : String) (idx : Nat) (y : MethodName) (cy : ByteArray) (nL : Nat) (rt : Option FieldType) (na : Nat) : Prop := g_LB own idx y cy nL rt na ∧ Cond.static y ∈ gW
/-- room for a call -/
def g_fit (R Rm : Room) (nL k n : Nat) : Bool := Nat.ble (Rm.frames + 1) R.frames && Nat.ble (8 + (nL + 11) + Rm.locals) R.locals && Nat.ble (k + Rm.cells) R.cells && Nat.ble (n + Rm.slots) R.slots
theorem g_fit_of {R Rm : Room} {nL k n : Nat} (h : g_fit R Rm nL k n = true) : (Rm.frames + 1 ≤ R.frames ∧ 8 + (nL + 11) + Rm.locals ≤ R.locals) ∧ k + Rm.cells ≤ R.cells ∧ n + Rm.slots ≤ R.slots := by
  simp only [g_fit, Bool.and_eq_true, Nat.ble_eq] at h
  exact ⟨⟨h.1.1.1, h.1.1.2⟩, h.1.2, h.2⟩
theorem g_callB (O : g_ok X cc own ret R) {idx nL na : Nat} {y : MethodName} {cy : ByteArray} {rt : Option FieldType} {Rm : Room} (L : g_LB own idx y cy nL rt na) (hR : Rm.frames + 1 ≤ R.frames ∧ 8 + (nL + 11) + Rm.locals ≤ R.locals) : CallB (g_xR X) (g_xs X) (g_xa X) own idx y cy nL rt (Cond.code y cy nL rt :: gW) Rm Rm.cells Rm.slots na := by
  rw [O.room]
  exact callB_of (Ts := gW) na (fun w hw => O.word hw) (gW_cons L.2.2.1) rfl rfl rfl (O.word L.2.1) (O.word L.1) L.2.2.2 hR
theorem g_start (O : g_ok X cc own ret R) {H : Heap} {locs : List Loc} (hP : va_P (g_xD X) vwCl (g_ws (g_ad X) (g_ca X) (m, q)) H) (hS : va_S (g_xA X) (g_xs X).heap H locs) (av : List Value) : PreS (g_xs X) H (va_Pc av (g_B (g_xD X) (g_ad X) (g_ca X) H.size m q)) av :=
  ⟨g_B.blind av, fun U hU hW => ⟨rfl, by rw [hU], by rw [hU]; exact hP, va_K.moved hW.alike O.K, O.inj, O.Z.step hW (by rw [hU]; exact hS.1) (by rw [hU]; exact hS.2.1) (g_A_mono hS.1)⟩⟩
theorem g_run {p : Program} {l : Launch} {e : Env} {R : Room} {s : State} {m0 : MethodId} {args : Array Value} {below : List Frame} {meth : Method} {c : Code} {H : Heap} {locs : List Loc} {k n mc ms : Nat} {Q : State → Prop} {ls : Array Slot} {st0 rest : List Value} {a : Array Value} {D : va_G} {ad : Nat → Nat} {ca : Nat → ClassId} {A0 A1 : Nat → Prop} {H0 : Heap} {res : g_Res} {pc : Nat}
    (hr : vx_Run p l e R s m0 args below meth c H locs k n mc ms (F0 m0 pc ls st0) rest (g_Qc D ad ca A1 res a) (g_XC D ad ca A1 res) A1) (hS : va_S A0 H0 H locs) (hA : ∀ q, A1 q → A0 q)
    (kk : ∀ (v : Option Value) (H1 : Heap) (locs1 : List Loc), res.1 = .inl v → va_P D vwCl (g_ws ad ca res.2) H1 → va_S A0 H0 H1 locs1 → W p l e R s m0 args below meth c H1 locs1 (k + mc) (n + ms) Q (F0 m0 (pc + 3) ls (v.toList ++ rest)))
    (kx : ∀ (E : String) (q9 : Nat) (ce : Cell) (H1 : Heap) (locs1 : List Loc), res.1 = .inr E → va_P D vwCl (g_ws ad ca res.2) H1 → va_S A0 H0 H1 locs1 → H1[q9]? = some ce → ce.vm = .none → s.vm.findClass E = some ce.cls → vx_W p l e R s m0 args below meth c H1 locs1 (k + mc) (n + ms) Q (F0 m0 pc ls rest) q9) : W p l e R s m0 args below meth c H locs k n Q (F0 m0 pc ls st0) := by
  intro T hT X
  rcases hr T hT X with ⟨v, st₀, t, T', L, h0, X', hL, e1, e2, ⟨v2, hv, ho, hP, hF⟩, st⟩ | ⟨q9, st₀, t, T', L, E, ce, h0, X', hL, e1, e2, ⟨hv, hP, hF⟩, hce, hcv, hcl, st⟩
  · cases ho
    obtain ⟨-, -, k3⟩ := vx_keep h0 e1 hS (fun z _ => hA z) hA hL hF
    obtain ⟨t2, a1, b1⟩ := kk v T'.heap (locs ++ L) hv (by rw [e1]; exact hP) k3 T' rfl X'
    exact ⟨t2, st t2 a1, b1⟩
  · obtain ⟨-, -, k3⟩ := vx_keep h0 e1 hS (fun z _ => hA z) hA hL hF
    obtain ⟨t2, a1, b1⟩ := kx E q9 ce T'.heap (locs ++ L) hv (by rw [e1]; exact hP) k3 (by rw [e1]; exact hce) hcv hcl T' rfl X'
    exact ⟨t2, st.trans a1, b1⟩
theorem g_goV (O : g_ok X cc own ret R) {idx nL na ci b : Nat} {y : MethodName} {cy : ByteArray} {rt : Option FieldType} {Rm : Room} {As : (Nat → Nat) → List Value} {res : g_Res} {av rest : List Value} (hM : g_SM (g_xl X) y cy nL rt Rm As m q res) (L : g_LV own idx y cy nL rt na ci) (hb : g_obj ci b) (hAs : As (g_ad X) = .ref (g_ad X b) :: av) (hna : av.length = na) (hrest : Nat.ble (rest.map fun v => v.category).sum 8 = true) (hd : decode cc pc = .ok (.invokevirtual idx, 3)) (hfit : g_fit R Rm nL k n = true) {st0 : List Value} (hst : st0 = av.reverse ++ .ref (g_ad X b) :: rest)
    {H : Heap} {locs : List Loc} {ls : Array Slot} (hP : va_P (g_xD X) vwCl (g_ws (g_ad X) (g_ca X) (m, q)) H) (hS : va_S (g_xA X) (g_xs X).heap H locs) (hh : lv_has ls (g_xn X) lc) :
    vx_Run (g_xp X) (g_xl X) (g_xe X) (g_xR X) (g_xs X) (g_xm X) (g_xa X) (g_xb X) (g_xt X) (g_xc X) H locs k n Rm.cells Rm.slots (F0 (g_xm X) pc ls st0) rest (g_Qc (g_xD X) (g_ad X) (g_ca X) (g_A (g_ad X) H.size) res (As (g_ad X)).toArray) (g_XC (g_xD X) (g_ad X) (g_ca X) (g_A (g_ad X) H.size) res) (g_A (g_ad X) H.size) := by
  obtain ⟨LB, hin, hsel, T, N, hc⟩ := L
  obtain ⟨f1, f2⟩ := g_fit_of hfit
  obtain ⟨hb1, hb2⟩ := hb
  obtain ⟨fs, he⟩ := hb2 (g_ad X) (g_ca X) (m, q)
  have hM1 := hM (g_xD X) (g_ad X) (g_ca X) H.size
  have hg := g_start O hP hS (As (g_ad X))
  rw [hAs] at hM1 hg ⊢
  exact vx_runV (Ts := gW) ⟨O.exec, O.code, O.2.2.1, O.host, fun w hw => O.word hw⟩ hM1 ⟨g_callB O LB f1, O.word hin, O.word hsel⟩ ⟨hg.1, va_recv O.K hP hc (by rw [g_ws_at _ _ _ hb1, he]), hg.2⟩ rfl hna hh.1 hst (lv_room (Nat.le_of_ble_eq_true hrest)) hd (by rw [O.room]; exact f2)
theorem g_goS (O : g_ok X cc own ret R) {idx nL na : Nat} {y : MethodName} {cy : ByteArray} {rt : Option FieldType} {Rm : Room} {As : (Nat → Nat) → List Value} {res : g_Res} {av rest : List Value} (hM : g_SM (g_xl X) y cy nL rt Rm As m q res) (L : g_LS own idx y cy nL rt na) (hAs : As (g_ad X) = av) (hna : av.length = na) (hrest : Nat.ble (rest.map fun v => v.category).sum 8 = true) (hd : decode cc pc = .ok (.invokestatic idx, 3)) (hfit : g_fit R Rm nL k n = true) {st0 : List Value} (hst : st0 = av.reverse ++ rest)
    {H : Heap} {locs : List Loc} {ls : Array Slot} (hP : va_P (g_xD X) vwCl (g_ws (g_ad X) (g_ca X) (m, q)) H) (hS : va_S (g_xA X) (g_xs X).heap H locs) (hh : lv_has ls (g_xn X) lc) :
    vx_Run (g_xp X) (g_xl X) (g_xe X) (g_xR X) (g_xs X) (g_xm X) (g_xa X) (g_xb X) (g_xt X) (g_xc X) H locs k n Rm.cells Rm.slots (F0 (g_xm X) pc ls st0) rest (g_Qc (g_xD X) (g_ad X) (g_ca X) (g_A (g_ad X) H.size) res (As (g_ad X)).toArray) (g_XC (g_xD X) (g_ad X) (g_ca X) (g_A (g_ad X) H.size) res) (g_A (g_ad X) H.size) := by
  obtain ⟨LB, hstt⟩ := L
  obtain ⟨f1, f2⟩ := g_fit_of hfit
  have hM1 := hM (g_xD X) (g_ad X) (g_ca X) H.size
  have hg := g_start O hP hS (As (g_ad X))
  rw [hAs] at hM1 hg ⊢
  exact vx_runS (Ts := gW) ⟨O.exec, O.code, O.2.2.1, O.host, fun w hw => O.word hw⟩ hM1 ⟨g_callB O LB f1, O.word hstt⟩ hg rfl hna hh.1 hst (lv_room (Nat.le_of_ble_eq_true hrest)) hd (by rw [O.room]; exact f2)
theorem r_callVi (O : g_ok X cc own ret R) {idx nL na ci b : Nat} {y : MethodName} {cy : ByteArray} {rt : Option FieldType} {Rm : Room} {As : (Nat → Nat) → List Value} {m' : Nat → Int32} {q' : g_q} {x : Int32} (av rest : List Value) (hM : g_SM (g_xl X) y cy nL rt Rm As m q (.inl (some (.int x)), (m', q'))) (L : g_LV own idx y cy nL rt na ci) (hb : g_obj ci b) (hAs : As (g_ad X) = .ref (g_ad X b) :: av) (hna : av.length = na) (hrest : Nat.ble (rest.map fun v => v.category).sum 8 = true) (hd : decode cc pc = .ok (.invokevirtual idx, 3)) (hfit : g_fit R Rm nL k n = true) {st0 : List Value} (hst : st0 = av.reverse ++ .ref (g_ad X b) :: rest) (kk : g_V X emb r (k + Rm.cells) (n + Rm.slots) m' q' (pc + 3) lc (.int x :: rest)) : g_V X emb r k n m q pc lc st0 := by
  intro H locs ls hP hS hh
  refine g_run (g_goV O hM L hb hAs hna hrest hd hfit hst hP hS hh) hS (g_A_mono hS.1) (fun v H1 locs1 hv hP1 hS1 => ?_) (fun E q9 ce H1 locs1 hv => by cases hv)
  cases hv
  exact kk H1 locs1 ls hP1 hS1 hh
theorem r_callVv (O : g_ok X cc own ret R) {idx nL na ci b : Nat} {y : MethodName} {cy : ByteArray} {rt : Option FieldType} {Rm : Room} {As : (Nat → Nat) → List Value} {m' : Nat → Int32} {q' : g_q} (av rest : List Value) (hM : g_SM (g_xl X) y cy nL rt Rm As m q (.inl (none), (m', q'))) (L : g_LV own idx y cy nL rt na ci) (hb : g_obj ci b) (hAs : As (g_ad X) = .ref (g_ad X b) :: av) (hna : av.length = na) (hrest : Nat.ble (rest.map fun v => v.category).sum 8 = true) (hd : decode cc pc = .ok (.invokevirtual idx, 3)) (hfit : g_fit R Rm nL k n = true) {st0 : List Value} (hst : st0 = av.reverse ++ .ref (g_ad X b) :: rest) (kk : g_V X emb r (k + Rm.cells) (n + Rm.slots) m' q' (pc + 3) lc rest) : g_V X emb r k n m q pc lc st0 := by
  intro H locs ls hP hS hh
  refine g_run (g_goV O hM L hb hAs hna hrest hd hfit hst hP hS hh) hS (g_A_mono hS.1) (fun v H1 locs1 hv hP1 hS1 => ?_) (fun E q9 ce H1 locs1 hv => by cases hv)
  cases hv
  exact kk H1 locs1 ls hP1 hS1 hh
theorem r_callVl (O : g_ok X cc own ret R) {idx nL na ci b : Nat} {y : MethodName} {cy : ByteArray} {rt : Option FieldType} {Rm : Room} {As : (Nat → Nat) → List Value} {m' : Nat → Int32} {q' : g_q} {x : Int64} (av rest : List Value) (hM : g_SM (g_xl X) y cy nL rt Rm As m q (.inl (some (.long x)), (m', q'))) (L : g_LV own idx y cy nL rt na ci) (hb : g_obj ci b) (hAs : As (g_ad X) = .ref (g_ad X b) :: av) (hna : av.length = na) (hrest : Nat.ble (rest.map fun v => v.category).sum 8 = true) (hd : decode cc pc = .ok (.invokevirtual idx, 3)) (hfit : g_fit R Rm nL k n = true) {st0 : List Value} (hst : st0 = av.reverse ++ .ref (g_ad X b) :: rest) (kk : g_V X emb r (k + Rm.cells) (n + Rm.slots) m' q' (pc + 3) lc (.long x :: rest)) : g_V X emb r k n m q pc lc st0 := by
  intro H locs ls hP hS hh
  refine g_run (g_goV O hM L hb hAs hna hrest hd hfit hst hP hS hh) hS (g_A_mono hS.1) (fun v H1 locs1 hv hP1 hS1 => ?_) (fun E q9 ce H1 locs1 hv => by cases hv)
  cases hv
  exact kk H1 locs1 ls hP1 hS1 hh
theorem r_callVd (O : g_ok X cc own ret R) {idx nL na ci b : Nat} {y : MethodName} {cy : ByteArray} {rt : Option FieldType} {Rm : Room} {As : (Nat → Nat) → List Value} {m' : Nat → Int32} {q' : g_q} {x : UInt64} (av rest : List Value) (hM : g_SM (g_xl X) y cy nL rt Rm As m q (.inl (some (.double x)), (m', q'))) (L : g_LV own idx y cy nL rt na ci) (hb : g_obj ci b) (hAs : As (g_ad X) = .ref (g_ad X b) :: av) (hna : av.length = na) (hrest : Nat.ble (rest.map fun v => v.category).sum 8 = true) (hd : decode cc pc = .ok (.invokevirtual idx, 3)) (hfit : g_fit R Rm nL k n = true) {st0 : List Value} (hst : st0 = av.reverse ++ .ref (g_ad X b) :: rest) (kk : g_V X emb r (k + Rm.cells) (n + Rm.slots) m' q' (pc + 3) lc (.double x :: rest)) : g_V X emb r k n m q pc lc st0 := by
  intro H locs ls hP hS hh
  refine g_run (g_goV O hM L hb hAs hna hrest hd hfit hst hP hS hh) hS (g_A_mono hS.1) (fun v H1 locs1 hv hP1 hS1 => ?_) (fun E q9 ce H1 locs1 hv => by cases hv)
  cases hv
  exact kk H1 locs1 ls hP1 hS1 hh
theorem r_callSi (O : g_ok X cc own ret R) {idx nL na : Nat} {y : MethodName} {cy : ByteArray} {rt : Option FieldType} {Rm : Room} {As : (Nat → Nat) → List Value} {m' : Nat → Int32} {q' : g_q} {x : Int32} (av rest : List Value) (hM : g_SM (g_xl X) y cy nL rt Rm As m q (.inl (some (.int x)), (m', q'))) (L : g_LS own idx y cy nL rt na) (hAs : As (g_ad X) = av) (hna : av.length = na) (hrest : Nat.ble (rest.map fun v => v.category).sum 8 = true) (hd : decode cc pc = .ok (.invokestatic idx, 3)) (hfit : g_fit R Rm nL k n = true) {st0 : List Value} (hst : st0 = av.reverse ++ rest) (kk : g_V X emb r (k + Rm.cells) (n + Rm.slots) m' q' (pc + 3) lc (.int x :: rest)) : g_V X emb r k n m q pc lc st0 := by
  intro H locs ls hP hS hh
  refine g_run (g_goS O hM L hAs hna hrest hd hfit hst hP hS hh) hS (g_A_mono hS.1) (fun v H1 locs1 hv hP1 hS1 => ?_) (fun E q9 ce H1 locs1 hv => by cases hv)
  cases hv
  exact kk H1 locs1 ls hP1 hS1 hh
theorem r_callSv (O : g_ok X cc own ret R) {idx nL na : Nat} {y : MethodName} {cy : ByteArray} {rt : Option FieldType} {Rm : Room} {As : (Nat → Nat) → List Value} {m' : Nat → Int32} {q' : g_q} (av rest : List Value) (hM : g_SM (g_xl X) y cy nL rt Rm As m q (.inl (none), (m', q'))) (L : g_LS own idx y cy nL rt na) (hAs : As (g_ad X) = av) (hna : av.length = na) (hrest : Nat.ble (rest.map fun v => v.category).sum 8 = true) (hd : decode cc pc = .ok (.invokestatic idx, 3)) (hfit : g_fit R Rm nL k n = true) {st0 : List Value} (hst : st0 = av.reverse ++ rest) (kk : g_V X emb r (k + Rm.cells) (n + Rm.slots) m' q' (pc + 3) lc rest) : g_V X emb r k n m q pc lc st0 := by
  intro H locs ls hP hS hh
  refine g_run (g_goS O hM L hAs hna hrest hd hfit hst hP hS hh) hS (g_A_mono hS.1) (fun v H1 locs1 hv hP1 hS1 => ?_) (fun E q9 ce H1 locs1 hv => by cases hv)
  cases hv
  exact kk H1 locs1 ls hP1 hS1 hh
theorem r_callSl (O : g_ok X cc own ret R) {idx nL na : Nat} {y : MethodName} {cy : ByteArray} {rt : Option FieldType} {Rm : Room} {As : (Nat → Nat) → List Value} {m' : Nat → Int32} {q' : g_q} {x : Int64} (av rest : List Value) (hM : g_SM (g_xl X) y cy nL rt Rm As m q (.inl (some (.long x)), (m', q'))) (L : g_LS own idx y cy nL rt na) (hAs : As (g_ad X) = av) (hna : av.length = na) (hrest : Nat.ble (rest.map fun v => v.category).sum 8 = true) (hd : decode cc pc = .ok (.invokestatic idx, 3)) (hfit : g_fit R Rm nL k n = true) {st0 : List Value} (hst : st0 = av.reverse ++ rest) (kk : g_V X emb r (k + Rm.cells) (n + Rm.slots) m' q' (pc + 3) lc (.long x :: rest)) : g_V X emb r k n m q pc lc st0 := by
  intro H locs ls hP hS hh
  refine g_run (g_goS O hM L hAs hna hrest hd hfit hst hP hS hh) hS (g_A_mono hS.1) (fun v H1 locs1 hv hP1 hS1 => ?_) (fun E q9 ce H1 locs1 hv => by cases hv)
  cases hv
  exact kk H1 locs1 ls hP1 hS1 hh
theorem r_callSd (O : g_ok X cc own ret R) {idx nL na : Nat} {y : MethodName} {cy : ByteArray} {rt : Option FieldType} {Rm : Room} {As : (Nat → Nat) → List Value} {m' : Nat → Int32} {q' : g_q} {x : UInt64} (av rest : List Value) (hM : g_SM (g_xl X) y cy nL rt Rm As m q (.inl (some (.double x)), (m', q'))) (L : g_LS own idx y cy nL rt na) (hAs : As (g_ad X) = av) (hna : av.length = na) (hrest : Nat.ble (rest.map fun v => v.category).sum 8 = true) (hd : decode cc pc = .ok (.invokestatic idx, 3)) (hfit : g_fit R Rm nL k n = true) {st0 : List Value} (hst : st0 = av.reverse ++ rest) (kk : g_V X emb r (k + Rm.cells) (n + Rm.slots) m' q' (pc + 3) lc (.double x :: rest)) : g_V X emb r k n m q pc lc st0 := by
  intro H locs ls hP hS hh
  refine g_run (g_goS O hM L hAs hna hrest hd hfit hst hP hS hh) hS (g_A_mono hS.1) (fun v H1 locs1 hv hP1 hS1 => ?_) (fun E q9 ce H1 locs1 hv => by cases hv)
  cases hv
  exact kk H1 locs1 ls hP1 hS1 hh
/-- a call that throws, which is not caught here -/
theorem r_callVx (O : g_ok X cc own ret R) {idx nL na ci b : Nat} {y : MethodName} {cy : ByteArray} {rt : Option FieldType} {Rm : Room} {As : (Nat → Nat) → List Value} {m' : Nat → Int32} {q' : g_q} {E : String} (av rest : List Value) (hM : g_SM (g_xl X) y cy nL rt Rm As m q (.inr E, (m', q'))) (L : g_LV own idx y cy nL rt na ci) (hb : g_obj ci b) (hAs : As (g_ad X) = .ref (g_ad X b) :: av) (hna : av.length = na) (hrest : Nat.ble (rest.map fun v => v.category).sum 8 = true) (hd : decode cc pc = .ok (.invokevirtual idx, 3)) (hfit : g_fit R Rm nL k n = true) {st0 : List Value} (hst : st0 = av.reverse ++ .ref (g_ad X b) :: rest) (he : emb r = (.inr E, (m', q'))) : g_V X emb r k n m q pc lc st0 := by
  intro H locs ls hP hS hh
  have hf := (g_fit_of hfit).2
  rw [← O.room] at hf
  refine g_run (g_goV O hM L hb hAs hna hrest hd hfit hst hP hS hh) hS (g_A_mono hS.1) (fun v H1 locs1 hv => by cases hv) (fun E1 q9 ce H1 locs1 hv hP1 hS1 h1 h2 h3 => ?_)
  cases hv
  exact vx_out (fun x hx => (O.table x hx).elim) O.locks h1 h2 h3 (fun t ht _ => ⟨by rw [he], by rw [he, ht]; exact hP1, hS1.F ht⟩) hS1.2.2 hf.1 hf.2
/-- a call that throws, which is not caught here -/
theorem r_callSx (O : g_ok X cc own ret R) {idx nL na : Nat} {y : MethodName} {cy : ByteArray} {rt : Option FieldType} {Rm : Room} {As : (Nat → Nat) → List Value} {m' : Nat → Int32} {q' : g_q} {E : String} (av rest : List Value) (hM : g_SM (g_xl X) y cy nL rt Rm As m q (.inr E, (m', q'))) (L : g_LS own idx y cy nL rt na) (hAs : As (g_ad X) = av) (hna : av.length = na) (hrest : Nat.ble (rest.map fun v => v.category).sum 8 = true) (hd : decode cc pc = .ok (.invokestatic idx, 3)) (hfit : g_fit R Rm nL k n = true) {st0 : List Value} (hst : st0 = av.reverse ++ rest) (he : emb r = (.inr E, (m', q'))) : g_V X emb r k n m q pc lc st0 := by
  intro H locs ls hP hS hh
  have hf := (g_fit_of hfit).2
  rw [← O.room] at hf
  refine g_run (g_goS O hM L hAs hna hrest hd hfit hst hP hS hh) hS (g_A_mono hS.1) (fun v H1 locs1 hv => by cases hv) (fun E1 q9 ce H1 locs1 hv hP1 hS1 h1 h2 h3 => ?_)
  cases hv
  exact vx_out (fun x hx => (O.table x hx).elim) O.locks h1 h2 h3 (fun t ht _ => ⟨by rw [he], by rw [he, ht]; exact hP1, hS1.F ht⟩) hS1.2.2 hf.1 hf.2
end GR
end
