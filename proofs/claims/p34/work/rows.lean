section
-- ===== PART A: goes FIRST, ahead of the names: the tables' words, and 'selects' of the private methods out of them =====
/-- a private method of a class that the tables say can be made, by its rows of tables_1 -/
def lw_okq (q : MethodName × Nat) : Prop := (q.1.cls ≠ "java/lang/invoke/MethodHandle" ∧ q.1.cls ≠ "java/lang/invoke/VarHandle") ∧ Cond.instantiable q.1.cls q.2 ∈ tables_1 ∧ Cond.privateMethod q.1 ∈ tables_1 ∧ Cond.instanceMethod q.1 ∈ tables_1
theorem lw_p0 : lw_okq (⟨"DoorPaints$Tape", "skip", "(II)Z"⟩, 6) := ⟨⟨by decide +kernel, by decide +kernel⟩, List.mem_of_getElem? (i := 161) (by decide +kernel), List.mem_of_getElem? (i := 347) (by decide +kernel), List.mem_of_getElem? (i := 348) (by decide +kernel)⟩
theorem lw_p1 : lw_okq (⟨"DoorPaints$Tape", "takeNumber", "()V"⟩, 6) := ⟨⟨by decide +kernel, by decide +kernel⟩, List.mem_of_getElem? (i := 161) (by decide +kernel), List.mem_of_getElem? (i := 351) (by decide +kernel), List.mem_of_getElem? (i := 352) (by decide +kernel)⟩
theorem lw_p2 : lw_okq (⟨"DoorPaints$Reader", "readLine", "()V"⟩, 5) := ⟨⟨by decide +kernel, by decide +kernel⟩, List.mem_of_getElem? (i := 26) (by decide +kernel), List.mem_of_getElem? (i := 355) (by decide +kernel), List.mem_of_getElem? (i := 356) (by decide +kernel)⟩
theorem lw_p3 : lw_okq (⟨"DoorPaints$Reader", "stands", "(I)Z"⟩, 5) := ⟨⟨by decide +kernel, by decide +kernel⟩, List.mem_of_getElem? (i := 26) (by decide +kernel), List.mem_of_getElem? (i := 359) (by decide +kernel), List.mem_of_getElem? (i := 360) (by decide +kernel)⟩
theorem lw_p4 : lw_okq (⟨"DoorPaints$Reader", "fail", "(I)V"⟩, 5) := ⟨⟨by decide +kernel, by decide +kernel⟩, List.mem_of_getElem? (i := 26) (by decide +kernel), List.mem_of_getElem? (i := 363) (by decide +kernel), List.mem_of_getElem? (i := 364) (by decide +kernel)⟩
theorem lw_p5 : lw_okq (⟨"DoorPaints$Reader", "readDoor", "()V"⟩, 5) := ⟨⟨by decide +kernel, by decide +kernel⟩, List.mem_of_getElem? (i := 26) (by decide +kernel), List.mem_of_getElem? (i := 420) (by decide +kernel), List.mem_of_getElem? (i := 421) (by decide +kernel)⟩
theorem lw_p6 : lw_okq (⟨"DoorPaints$Reader", "numberStands", "(I)Z"⟩, 5) := ⟨⟨by decide +kernel, by decide +kernel⟩, List.mem_of_getElem? (i := 26) (by decide +kernel), List.mem_of_getElem? (i := 425) (by decide +kernel), List.mem_of_getElem? (i := 426) (by decide +kernel)⟩
theorem lw_p7 : lw_okq (⟨"DoorPaints$Reader", "endLine", "()V"⟩, 5) := ⟨⟨by decide +kernel, by decide +kernel⟩, List.mem_of_getElem? (i := 26) (by decide +kernel), List.mem_of_getElem? (i := 433) (by decide +kernel), List.mem_of_getElem? (i := 434) (by decide +kernel)⟩
theorem lw_p8 : lw_okq (⟨"DoorPaints$Reader", "readNot", "()V"⟩, 5) := ⟨⟨by decide +kernel, by decide +kernel⟩, List.mem_of_getElem? (i := 26) (by decide +kernel), List.mem_of_getElem? (i := 438) (by decide +kernel), List.mem_of_getElem? (i := 439) (by decide +kernel)⟩
theorem lw_p9 : lw_okq (⟨"DoorPaints$Reader", "readPlan", "()V"⟩, 5) := ⟨⟨by decide +kernel, by decide +kernel⟩, List.mem_of_getElem? (i := 26) (by decide +kernel), List.mem_of_getElem? (i := 451) (by decide +kernel), List.mem_of_getElem? (i := 452) (by decide +kernel)⟩
theorem lw_p10 : lw_okq (⟨"DoorPaints$Reader", "kindNamed", "()I"⟩, 5) := ⟨⟨by decide +kernel, by decide +kernel⟩, List.mem_of_getElem? (i := 26) (by decide +kernel), List.mem_of_getElem? (i := 465) (by decide +kernel), List.mem_of_getElem? (i := 466) (by decide +kernel)⟩
theorem lw_p11 : lw_okq (⟨"DoorPaints$Reader", "readVisitor", "(I)V"⟩, 5) := ⟨⟨by decide +kernel, by decide +kernel⟩, List.mem_of_getElem? (i := 26) (by decide +kernel), List.mem_of_getElem? (i := 473) (by decide +kernel), List.mem_of_getElem? (i := 474) (by decide +kernel)⟩
theorem lw_p12 : lw_okq (⟨"DoorPaints", "rehearse", "()I"⟩, 13) := ⟨⟨by decide +kernel, by decide +kernel⟩, List.mem_of_getElem? (i := 18) (by decide +kernel), List.mem_of_getElem? (i := 656) (by decide +kernel), List.mem_of_getElem? (i := 657) (by decide +kernel)⟩
theorem lw_p13 : lw_okq (⟨"DoorPaints", "actInTrial", "(II)I"⟩, 13) := ⟨⟨by decide +kernel, by decide +kernel⟩, List.mem_of_getElem? (i := 18) (by decide +kernel), List.mem_of_getElem? (i := 661) (by decide +kernel), List.mem_of_getElem? (i := 662) (by decide +kernel)⟩
theorem lw_p14 : lw_okq (⟨"DoorPaints", "takenInTrial", "()I"⟩, 13) := ⟨⟨by decide +kernel, by decide +kernel⟩, List.mem_of_getElem? (i := 18) (by decide +kernel), List.mem_of_getElem? (i := 674) (by decide +kernel), List.mem_of_getElem? (i := 675) (by decide +kernel)⟩
theorem lw_p15 : lw_okq (⟨"DoorPaints$Search", "begin", "(LDoorPaints$Town;I)V"⟩, 7) := ⟨⟨by decide +kernel, by decide +kernel⟩, List.mem_of_getElem? (i := 215) (by decide +kernel), List.mem_of_getElem? (i := 701) (by decide +kernel), List.mem_of_getElem? (i := 702) (by decide +kernel)⟩
def lw_privs_1 : List (MethodName × Nat) := [(⟨"DoorPaints$Tape", "skip", "(II)Z"⟩, 6), (⟨"DoorPaints$Tape", "takeNumber", "()V"⟩, 6), (⟨"DoorPaints$Reader", "readLine", "()V"⟩, 5), (⟨"DoorPaints$Reader", "stands", "(I)Z"⟩, 5), (⟨"DoorPaints$Reader", "fail", "(I)V"⟩, 5), (⟨"DoorPaints$Reader", "readDoor", "()V"⟩, 5), (⟨"DoorPaints$Reader", "numberStands", "(I)Z"⟩, 5), (⟨"DoorPaints$Reader", "endLine", "()V"⟩, 5), (⟨"DoorPaints$Reader", "readNot", "()V"⟩, 5), (⟨"DoorPaints$Reader", "readPlan", "()V"⟩, 5), (⟨"DoorPaints$Reader", "kindNamed", "()I"⟩, 5), (⟨"DoorPaints$Reader", "readVisitor", "(I)V"⟩, 5), (⟨"DoorPaints", "rehearse", "()I"⟩, 13), (⟨"DoorPaints", "actInTrial", "(II)I"⟩, 13), (⟨"DoorPaints", "takenInTrial", "()I"⟩, 13), (⟨"DoorPaints$Search", "begin", "(LDoorPaints$Town;I)V"⟩, 7)]
theorem lw_r1 : ∀ q ∈ lw_privs_1, lw_okq q := List.forall_mem_cons.mpr ⟨lw_p0, List.forall_mem_cons.mpr ⟨lw_p1, List.forall_mem_cons.mpr ⟨lw_p2, List.forall_mem_cons.mpr ⟨lw_p3, List.forall_mem_cons.mpr ⟨lw_p4, List.forall_mem_cons.mpr ⟨lw_p5, List.forall_mem_cons.mpr ⟨lw_p6, List.forall_mem_cons.mpr ⟨lw_p7, List.forall_mem_cons.mpr ⟨lw_p8, List.forall_mem_cons.mpr ⟨lw_p9, List.forall_mem_cons.mpr ⟨lw_p10, List.forall_mem_cons.mpr ⟨lw_p11, List.forall_mem_cons.mpr ⟨lw_p12, List.forall_mem_cons.mpr ⟨lw_p13, List.forall_mem_cons.mpr ⟨lw_p14, List.forall_mem_cons.mpr ⟨lw_p15, fun _ h => absurd h List.not_mem_nil⟩⟩⟩⟩⟩⟩⟩⟩⟩⟩⟩⟩⟩⟩⟩⟩
theorem lw_p16 : lw_okq (⟨"DoorPaints$Search", "tryFrom", "(III)V"⟩, 7) := ⟨⟨by decide +kernel, by decide +kernel⟩, List.mem_of_getElem? (i := 215) (by decide +kernel), List.mem_of_getElem? (i := 717) (by decide +kernel), List.mem_of_getElem? (i := 718) (by decide +kernel)⟩
theorem lw_p17 : lw_okq (⟨"DoorPaints$Search", "isBetter", "(II)Z"⟩, 7) := ⟨⟨by decide +kernel, by decide +kernel⟩, List.mem_of_getElem? (i := 215) (by decide +kernel), List.mem_of_getElem? (i := 721) (by decide +kernel), List.mem_of_getElem? (i := 722) (by decide +kernel)⟩
theorem lw_p18 : lw_okq (⟨"DoorPaints$Search", "take", "(II)V"⟩, 7) := ⟨⟨by decide +kernel, by decide +kernel⟩, List.mem_of_getElem? (i := 215) (by decide +kernel), List.mem_of_getElem? (i := 725) (by decide +kernel), List.mem_of_getElem? (i := 726) (by decide +kernel)⟩
theorem lw_p19 : lw_okq (⟨"DoorPaints$Search", "mayImprove", "(III)Z"⟩, 7) := ⟨⟨by decide +kernel, by decide +kernel⟩, List.mem_of_getElem? (i := 215) (by decide +kernel), List.mem_of_getElem? (i := 729) (by decide +kernel), List.mem_of_getElem? (i := 730) (by decide +kernel)⟩
theorem lw_p20 : lw_okq (⟨"DoorPaints$Search", "tryVisit", "(IIIII)V"⟩, 7) := ⟨⟨by decide +kernel, by decide +kernel⟩, List.mem_of_getElem? (i := 215) (by decide +kernel), List.mem_of_getElem? (i := 736) (by decide +kernel), List.mem_of_getElem? (i := 737) (by decide +kernel)⟩
theorem lw_p21 : lw_okq (⟨"DoorPaints", "arrange", "(II)V"⟩, 13) := ⟨⟨by decide +kernel, by decide +kernel⟩, List.mem_of_getElem? (i := 18) (by decide +kernel), List.mem_of_getElem? (i := 801) (by decide +kernel), List.mem_of_getElem? (i := 802) (by decide +kernel)⟩
theorem lw_p22 : lw_okq (⟨"DoorPaints", "judgeOrder", "(I)V"⟩, 13) := ⟨⟨by decide +kernel, by decide +kernel⟩, List.mem_of_getElem? (i := 18) (by decide +kernel), List.mem_of_getElem? (i := 805) (by decide +kernel), List.mem_of_getElem? (i := 806) (by decide +kernel)⟩
theorem lw_p23 : lw_okq (⟨"DoorPaints", "actChosen", "(I)V"⟩, 13) := ⟨⟨by decide +kernel, by decide +kernel⟩, List.mem_of_getElem? (i := 18) (by decide +kernel), List.mem_of_getElem? (i := 822) (by decide +kernel), List.mem_of_getElem? (i := 823) (by decide +kernel)⟩
theorem lw_p24 : lw_okq (⟨"DoorPaintsModel", "firstDraft", "()V"⟩, 33) := ⟨⟨by decide +kernel, by decide +kernel⟩, List.mem_of_getElem? (i := 903) (by decide +kernel), List.mem_of_getElem? (i := 909) (by decide +kernel), List.mem_of_getElem? (i := 910) (by decide +kernel)⟩
theorem lw_p25 : lw_okq (⟨"DoorPaintsModel", "keepDraft", "()V"⟩, 33) := ⟨⟨by decide +kernel, by decide +kernel⟩, List.mem_of_getElem? (i := 903) (by decide +kernel), List.mem_of_getElem? (i := 913) (by decide +kernel), List.mem_of_getElem? (i := 914) (by decide +kernel)⟩
theorem lw_p26 : lw_okq (⟨"DoorPaintsModel", "next", "()V"⟩, 33) := ⟨⟨by decide +kernel, by decide +kernel⟩, List.mem_of_getElem? (i := 903) (by decide +kernel), List.mem_of_getElem? (i := 1033) (by decide +kernel), List.mem_of_getElem? (i := 1034) (by decide +kernel)⟩
theorem lw_p27 : lw_okq (⟨"DoorPaintsModel", "byteAt", "(I)I"⟩, 33) := ⟨⟨by decide +kernel, by decide +kernel⟩, List.mem_of_getElem? (i := 903) (by decide +kernel), List.mem_of_getElem? (i := 1037) (by decide +kernel), List.mem_of_getElem? (i := 1038) (by decide +kernel)⟩
theorem lw_p28 : lw_okq (⟨"DoorPaintsModel", "needs", "(ZI)V"⟩, 33) := ⟨⟨by decide +kernel, by decide +kernel⟩, List.mem_of_getElem? (i := 903) (by decide +kernel), List.mem_of_getElem? (i := 1045) (by decide +kernel), List.mem_of_getElem? (i := 1046) (by decide +kernel)⟩
theorem lw_p29 : lw_okq (⟨"DoorPaintsModel", "readLine", "()V"⟩, 33) := ⟨⟨by decide +kernel, by decide +kernel⟩, List.mem_of_getElem? (i := 903) (by decide +kernel), List.mem_of_getElem? (i := 1049) (by decide +kernel), List.mem_of_getElem? (i := 1050) (by decide +kernel)⟩
theorem lw_p30 : lw_okq (⟨"DoorPaintsModel", "lineNow", "()I"⟩, 33) := ⟨⟨by decide +kernel, by decide +kernel⟩, List.mem_of_getElem? (i := 903) (by decide +kernel), List.mem_of_getElem? (i := 1053) (by decide +kernel), List.mem_of_getElem? (i := 1054) (by decide +kernel)⟩
theorem lw_p31 : lw_okq (⟨"DoorPaintsModel", "is", "(IIII)Z"⟩, 33) := ⟨⟨by decide +kernel, by decide +kernel⟩, List.mem_of_getElem? (i := 903) (by decide +kernel), List.mem_of_getElem? (i := 1057) (by decide +kernel), List.mem_of_getElem? (i := 1058) (by decide +kernel)⟩
def lw_privs_2 : List (MethodName × Nat) := [(⟨"DoorPaints$Search", "tryFrom", "(III)V"⟩, 7), (⟨"DoorPaints$Search", "isBetter", "(II)Z"⟩, 7), (⟨"DoorPaints$Search", "take", "(II)V"⟩, 7), (⟨"DoorPaints$Search", "mayImprove", "(III)Z"⟩, 7), (⟨"DoorPaints$Search", "tryVisit", "(IIIII)V"⟩, 7), (⟨"DoorPaints", "arrange", "(II)V"⟩, 13), (⟨"DoorPaints", "judgeOrder", "(I)V"⟩, 13), (⟨"DoorPaints", "actChosen", "(I)V"⟩, 13), (⟨"DoorPaintsModel", "firstDraft", "()V"⟩, 33), (⟨"DoorPaintsModel", "keepDraft", "()V"⟩, 33), (⟨"DoorPaintsModel", "next", "()V"⟩, 33), (⟨"DoorPaintsModel", "byteAt", "(I)I"⟩, 33), (⟨"DoorPaintsModel", "needs", "(ZI)V"⟩, 33), (⟨"DoorPaintsModel", "readLine", "()V"⟩, 33), (⟨"DoorPaintsModel", "lineNow", "()I"⟩, 33), (⟨"DoorPaintsModel", "is", "(IIII)Z"⟩, 33)]
theorem lw_r2 : ∀ q ∈ lw_privs_2, lw_okq q := List.forall_mem_cons.mpr ⟨lw_p16, List.forall_mem_cons.mpr ⟨lw_p17, List.forall_mem_cons.mpr ⟨lw_p18, List.forall_mem_cons.mpr ⟨lw_p19, List.forall_mem_cons.mpr ⟨lw_p20, List.forall_mem_cons.mpr ⟨lw_p21, List.forall_mem_cons.mpr ⟨lw_p22, List.forall_mem_cons.mpr ⟨lw_p23, List.forall_mem_cons.mpr ⟨lw_p24, List.forall_mem_cons.mpr ⟨lw_p25, List.forall_mem_cons.mpr ⟨lw_p26, List.forall_mem_cons.mpr ⟨lw_p27, List.forall_mem_cons.mpr ⟨lw_p28, List.forall_mem_cons.mpr ⟨lw_p29, List.forall_mem_cons.mpr ⟨lw_p30, List.forall_mem_cons.mpr ⟨lw_p31, fun _ h => absurd h List.not_mem_nil⟩⟩⟩⟩⟩⟩⟩⟩⟩⟩⟩⟩⟩⟩⟩⟩
theorem lw_p32 : lw_okq (⟨"DoorPaintsModel", "ends", "(III)Z"⟩, 33) := ⟨⟨by decide +kernel, by decide +kernel⟩, List.mem_of_getElem? (i := 903) (by decide +kernel), List.mem_of_getElem? (i := 1061) (by decide +kernel), List.mem_of_getElem? (i := 1062) (by decide +kernel)⟩
theorem lw_p33 : lw_okq (⟨"DoorPaintsModel", "readLineOf", "(I)V"⟩, 33) := ⟨⟨by decide +kernel, by decide +kernel⟩, List.mem_of_getElem? (i := 903) (by decide +kernel), List.mem_of_getElem? (i := 1065) (by decide +kernel), List.mem_of_getElem? (i := 1066) (by decide +kernel)⟩
theorem lw_p34 : lw_okq (⟨"DoorPaintsModel", "readDoor", "()V"⟩, 33) := ⟨⟨by decide +kernel, by decide +kernel⟩, List.mem_of_getElem? (i := 903) (by decide +kernel), List.mem_of_getElem? (i := 1069) (by decide +kernel), List.mem_of_getElem? (i := 1070) (by decide +kernel)⟩
theorem lw_p35 : lw_okq (⟨"DoorPaintsModel", "readNumber", "(II)I"⟩, 33) := ⟨⟨by decide +kernel, by decide +kernel⟩, List.mem_of_getElem? (i := 903) (by decide +kernel), List.mem_of_getElem? (i := 1073) (by decide +kernel), List.mem_of_getElem? (i := 1074) (by decide +kernel)⟩
theorem lw_p36 : lw_okq (⟨"DoorPaintsModel", "looked", "(II)I"⟩, 33) := ⟨⟨by decide +kernel, by decide +kernel⟩, List.mem_of_getElem? (i := 903) (by decide +kernel), List.mem_of_getElem? (i := 1077) (by decide +kernel), List.mem_of_getElem? (i := 1078) (by decide +kernel)⟩
theorem lw_p37 : lw_okq (⟨"DoorPaintsModel", "readNot", "()V"⟩, 33) := ⟨⟨by decide +kernel, by decide +kernel⟩, List.mem_of_getElem? (i := 903) (by decide +kernel), List.mem_of_getElem? (i := 1081) (by decide +kernel), List.mem_of_getElem? (i := 1082) (by decide +kernel)⟩
theorem lw_p38 : lw_okq (⟨"DoorPaintsModel", "readPlan", "()V"⟩, 33) := ⟨⟨by decide +kernel, by decide +kernel⟩, List.mem_of_getElem? (i := 903) (by decide +kernel), List.mem_of_getElem? (i := 1085) (by decide +kernel), List.mem_of_getElem? (i := 1086) (by decide +kernel)⟩
theorem lw_p39 : lw_okq (⟨"DoorPaintsModel", "readVisitor", "(I)V"⟩, 33) := ⟨⟨by decide +kernel, by decide +kernel⟩, List.mem_of_getElem? (i := 903) (by decide +kernel), List.mem_of_getElem? (i := 1095) (by decide +kernel), List.mem_of_getElem? (i := 1096) (by decide +kernel)⟩
theorem lw_p40 : lw_okq (⟨"DoorPaintsModel", "starts", "()V"⟩, 33) := ⟨⟨by decide +kernel, by decide +kernel⟩, List.mem_of_getElem? (i := 903) (by decide +kernel), List.mem_of_getElem? (i := 1107) (by decide +kernel), List.mem_of_getElem? (i := 1108) (by decide +kernel)⟩
theorem lw_p41 : lw_okq (⟨"DoorPaintsModel", "ofDoor", "(II)I"⟩, 33) := ⟨⟨by decide +kernel, by decide +kernel⟩, List.mem_of_getElem? (i := 903) (by decide +kernel), List.mem_of_getElem? (i := 1111) (by decide +kernel), List.mem_of_getElem? (i := 1112) (by decide +kernel)⟩
theorem lw_p42 : lw_okq (⟨"DoorPaintsModel", "of", "(II)I"⟩, 33) := ⟨⟨by decide +kernel, by decide +kernel⟩, List.mem_of_getElem? (i := 903) (by decide +kernel), List.mem_of_getElem? (i := 1115) (by decide +kernel), List.mem_of_getElem? (i := 1116) (by decide +kernel)⟩
theorem lw_p43 : lw_okq (⟨"DoorPaintsModel", "wrong", "()I"⟩, 33) := ⟨⟨by decide +kernel, by decide +kernel⟩, List.mem_of_getElem? (i := 903) (by decide +kernel), List.mem_of_getElem? (i := 1119) (by decide +kernel), List.mem_of_getElem? (i := 1120) (by decide +kernel)⟩
theorem lw_p44 : lw_okq (⟨"DoorPaintsModel", "isWrong", "(I)Z"⟩, 33) := ⟨⟨by decide +kernel, by decide +kernel⟩, List.mem_of_getElem? (i := 903) (by decide +kernel), List.mem_of_getElem? (i := 1123) (by decide +kernel), List.mem_of_getElem? (i := 1124) (by decide +kernel)⟩
theorem lw_p45 : lw_okq (⟨"DoorPaintsModel", "showsOf", "(I)I"⟩, 33) := ⟨⟨by decide +kernel, by decide +kernel⟩, List.mem_of_getElem? (i := 903) (by decide +kernel), List.mem_of_getElem? (i := 1127) (by decide +kernel), List.mem_of_getElem? (i := 1128) (by decide +kernel)⟩
theorem lw_p46 : lw_okq (⟨"DoorPaintsModel", "layerOf", "(II)I"⟩, 33) := ⟨⟨by decide +kernel, by decide +kernel⟩, List.mem_of_getElem? (i := 903) (by decide +kernel), List.mem_of_getElem? (i := 1131) (by decide +kernel), List.mem_of_getElem? (i := 1132) (by decide +kernel)⟩
theorem lw_p47 : lw_okq (⟨"DoorPaintsModel", "isVisitor", "(I)Z"⟩, 33) := ⟨⟨by decide +kernel, by decide +kernel⟩, List.mem_of_getElem? (i := 903) (by decide +kernel), List.mem_of_getElem? (i := 1142) (by decide +kernel), List.mem_of_getElem? (i := 1143) (by decide +kernel)⟩
def lw_privs_3 : List (MethodName × Nat) := [(⟨"DoorPaintsModel", "ends", "(III)Z"⟩, 33), (⟨"DoorPaintsModel", "readLineOf", "(I)V"⟩, 33), (⟨"DoorPaintsModel", "readDoor", "()V"⟩, 33), (⟨"DoorPaintsModel", "readNumber", "(II)I"⟩, 33), (⟨"DoorPaintsModel", "looked", "(II)I"⟩, 33), (⟨"DoorPaintsModel", "readNot", "()V"⟩, 33), (⟨"DoorPaintsModel", "readPlan", "()V"⟩, 33), (⟨"DoorPaintsModel", "readVisitor", "(I)V"⟩, 33), (⟨"DoorPaintsModel", "starts", "()V"⟩, 33), (⟨"DoorPaintsModel", "ofDoor", "(II)I"⟩, 33), (⟨"DoorPaintsModel", "of", "(II)I"⟩, 33), (⟨"DoorPaintsModel", "wrong", "()I"⟩, 33), (⟨"DoorPaintsModel", "isWrong", "(I)Z"⟩, 33), (⟨"DoorPaintsModel", "showsOf", "(I)I"⟩, 33), (⟨"DoorPaintsModel", "layerOf", "(II)I"⟩, 33), (⟨"DoorPaintsModel", "isVisitor", "(I)Z"⟩, 33)]
theorem lw_r3 : ∀ q ∈ lw_privs_3, lw_okq q := List.forall_mem_cons.mpr ⟨lw_p32, List.forall_mem_cons.mpr ⟨lw_p33, List.forall_mem_cons.mpr ⟨lw_p34, List.forall_mem_cons.mpr ⟨lw_p35, List.forall_mem_cons.mpr ⟨lw_p36, List.forall_mem_cons.mpr ⟨lw_p37, List.forall_mem_cons.mpr ⟨lw_p38, List.forall_mem_cons.mpr ⟨lw_p39, List.forall_mem_cons.mpr ⟨lw_p40, List.forall_mem_cons.mpr ⟨lw_p41, List.forall_mem_cons.mpr ⟨lw_p42, List.forall_mem_cons.mpr ⟨lw_p43, List.forall_mem_cons.mpr ⟨lw_p44, List.forall_mem_cons.mpr ⟨lw_p45, List.forall_mem_cons.mpr ⟨lw_p46, List.forall_mem_cons.mpr ⟨lw_p47, fun _ h => absurd h List.not_mem_nil⟩⟩⟩⟩⟩⟩⟩⟩⟩⟩⟩⟩⟩⟩⟩⟩
theorem lw_p48 : lw_okq (⟨"DoorPaintsModel", "brushOf", "(I)I"⟩, 33) := ⟨⟨by decide +kernel, by decide +kernel⟩, List.mem_of_getElem? (i := 903) (by decide +kernel), List.mem_of_getElem? (i := 1147) (by decide +kernel), List.mem_of_getElem? (i := 1148) (by decide +kernel)⟩
theorem lw_p49 : lw_okq (⟨"DoorPaintsModel", "ownBrush", "(I)I"⟩, 33) := ⟨⟨by decide +kernel, by decide +kernel⟩, List.mem_of_getElem? (i := 903) (by decide +kernel), List.mem_of_getElem? (i := 1151) (by decide +kernel), List.mem_of_getElem? (i := 1152) (by decide +kernel)⟩
theorem lw_p50 : lw_okq (⟨"DoorPaintsModel", "isDoor", "(I)Z"⟩, 33) := ⟨⟨by decide +kernel, by decide +kernel⟩, List.mem_of_getElem? (i := 903) (by decide +kernel), List.mem_of_getElem? (i := 1159) (by decide +kernel), List.mem_of_getElem? (i := 1160) (by decide +kernel)⟩
theorem lw_p51 : lw_okq (⟨"DoorPaintsModel", "usesOf", "(II)I"⟩, 33) := ⟨⟨by decide +kernel, by decide +kernel⟩, List.mem_of_getElem? (i := 903) (by decide +kernel), List.mem_of_getElem? (i := 1172) (by decide +kernel), List.mem_of_getElem? (i := 1173) (by decide +kernel)⟩
theorem lw_p52 : lw_okq (⟨"DoorPaintsModel", "keepsOut", "(II)I"⟩, 33) := ⟨⟨by decide +kernel, by decide +kernel⟩, List.mem_of_getElem? (i := 903) (by decide +kernel), List.mem_of_getElem? (i := 1180) (by decide +kernel), List.mem_of_getElem? (i := 1181) (by decide +kernel)⟩
theorem lw_p53 : lw_okq (⟨"DoorPaintsModel", "visits", "(II)I"⟩, 33) := ⟨⟨by decide +kernel, by decide +kernel⟩, List.mem_of_getElem? (i := 903) (by decide +kernel), List.mem_of_getElem? (i := 1184) (by decide +kernel), List.mem_of_getElem? (i := 1185) (by decide +kernel)⟩
theorem lw_p54 : lw_okq (⟨"DoorPaintsModel", "becomesDoor", "(III)V"⟩, 33) := ⟨⟨by decide +kernel, by decide +kernel⟩, List.mem_of_getElem? (i := 903) (by decide +kernel), List.mem_of_getElem? (i := 1188) (by decide +kernel), List.mem_of_getElem? (i := 1189) (by decide +kernel)⟩
theorem lw_p55 : lw_okq (⟨"DoorPaintsModel", "settles", "()V"⟩, 33) := ⟨⟨by decide +kernel, by decide +kernel⟩, List.mem_of_getElem? (i := 903) (by decide +kernel), List.mem_of_getElem? (i := 1192) (by decide +kernel), List.mem_of_getElem? (i := 1193) (by decide +kernel)⟩
theorem lw_p56 : lw_okq (⟨"DoorPaintsModel", "goesBy", "(I)V"⟩, 33) := ⟨⟨by decide +kernel, by decide +kernel⟩, List.mem_of_getElem? (i := 903) (by decide +kernel), List.mem_of_getElem? (i := 1201) (by decide +kernel), List.mem_of_getElem? (i := 1202) (by decide +kernel)⟩
theorem lw_p57 : lw_okq (⟨"DoorPaintsModel", "rains", "(I)V"⟩, 33) := ⟨⟨by decide +kernel, by decide +kernel⟩, List.mem_of_getElem? (i := 903) (by decide +kernel), List.mem_of_getElem? (i := 1205) (by decide +kernel), List.mem_of_getElem? (i := 1206) (by decide +kernel)⟩
theorem lw_p58 : lw_okq (⟨"DoorPaintsModel", "layers", "()I"⟩, 33) := ⟨⟨by decide +kernel, by decide +kernel⟩, List.mem_of_getElem? (i := 903) (by decide +kernel), List.mem_of_getElem? (i := 1209) (by decide +kernel), List.mem_of_getElem? (i := 1210) (by decide +kernel)⟩
theorem lw_p59 : lw_okq (⟨"DoorPaintsModel", "becomes", "(II)I"⟩, 33) := ⟨⟨by decide +kernel, by decide +kernel⟩, List.mem_of_getElem? (i := 903) (by decide +kernel), List.mem_of_getElem? (i := 1224) (by decide +kernel), List.mem_of_getElem? (i := 1225) (by decide +kernel)⟩
theorem lw_p60 : lw_okq (⟨"DoorPaintsModel", "isAct", "(I)Z"⟩, 33) := ⟨⟨by decide +kernel, by decide +kernel⟩, List.mem_of_getElem? (i := 903) (by decide +kernel), List.mem_of_getElem? (i := 1236) (by decide +kernel), List.mem_of_getElem? (i := 1237) (by decide +kernel)⟩
theorem lw_p61 : lw_okq (⟨"DoorPaintsModel", "acts", "(I)V"⟩, 33) := ⟨⟨by decide +kernel, by decide +kernel⟩, List.mem_of_getElem? (i := 903) (by decide +kernel), List.mem_of_getElem? (i := 1248) (by decide +kernel), List.mem_of_getElem? (i := 1249) (by decide +kernel)⟩
theorem lw_p62 : lw_okq (⟨"DoorPaintsModel", "plansGo", "()V"⟩, 33) := ⟨⟨by decide +kernel, by decide +kernel⟩, List.mem_of_getElem? (i := 903) (by decide +kernel), List.mem_of_getElem? (i := 1256) (by decide +kernel), List.mem_of_getElem? (i := 1257) (by decide +kernel)⟩
theorem lw_p63 : lw_okq (⟨"DoorPaintsModel", "kindsOfVisit", "()I"⟩, 33) := ⟨⟨by decide +kernel, by decide +kernel⟩, List.mem_of_getElem? (i := 903) (by decide +kernel), List.mem_of_getElem? (i := 1271) (by decide +kernel), List.mem_of_getElem? (i := 1272) (by decide +kernel)⟩
def lw_privs_4 : List (MethodName × Nat) := [(⟨"DoorPaintsModel", "brushOf", "(I)I"⟩, 33), (⟨"DoorPaintsModel", "ownBrush", "(I)I"⟩, 33), (⟨"DoorPaintsModel", "isDoor", "(I)Z"⟩, 33), (⟨"DoorPaintsModel", "usesOf", "(II)I"⟩, 33), (⟨"DoorPaintsModel", "keepsOut", "(II)I"⟩, 33), (⟨"DoorPaintsModel", "visits", "(II)I"⟩, 33), (⟨"DoorPaintsModel", "becomesDoor", "(III)V"⟩, 33), (⟨"DoorPaintsModel", "settles", "()V"⟩, 33), (⟨"DoorPaintsModel", "goesBy", "(I)V"⟩, 33), (⟨"DoorPaintsModel", "rains", "(I)V"⟩, 33), (⟨"DoorPaintsModel", "layers", "()I"⟩, 33), (⟨"DoorPaintsModel", "becomes", "(II)I"⟩, 33), (⟨"DoorPaintsModel", "isAct", "(I)Z"⟩, 33), (⟨"DoorPaintsModel", "acts", "(I)V"⟩, 33), (⟨"DoorPaintsModel", "plansGo", "()V"⟩, 33), (⟨"DoorPaintsModel", "kindsOfVisit", "()I"⟩, 33)]
theorem lw_r4 : ∀ q ∈ lw_privs_4, lw_okq q := List.forall_mem_cons.mpr ⟨lw_p48, List.forall_mem_cons.mpr ⟨lw_p49, List.forall_mem_cons.mpr ⟨lw_p50, List.forall_mem_cons.mpr ⟨lw_p51, List.forall_mem_cons.mpr ⟨lw_p52, List.forall_mem_cons.mpr ⟨lw_p53, List.forall_mem_cons.mpr ⟨lw_p54, List.forall_mem_cons.mpr ⟨lw_p55, List.forall_mem_cons.mpr ⟨lw_p56, List.forall_mem_cons.mpr ⟨lw_p57, List.forall_mem_cons.mpr ⟨lw_p58, List.forall_mem_cons.mpr ⟨lw_p59, List.forall_mem_cons.mpr ⟨lw_p60, List.forall_mem_cons.mpr ⟨lw_p61, List.forall_mem_cons.mpr ⟨lw_p62, List.forall_mem_cons.mpr ⟨lw_p63, fun _ h => absurd h List.not_mem_nil⟩⟩⟩⟩⟩⟩⟩⟩⟩⟩⟩⟩⟩⟩⟩⟩
theorem lw_p64 : lw_okq (⟨"DoorPaintsModel", "rowsOf", "(I)I"⟩, 33) := ⟨⟨by decide +kernel, by decide +kernel⟩, List.mem_of_getElem? (i := 903) (by decide +kernel), List.mem_of_getElem? (i := 1276) (by decide +kernel), List.mem_of_getElem? (i := 1277) (by decide +kernel)⟩
theorem lw_p65 : lw_okq (⟨"DoorPaintsModel", "goesRow", "(II)V"⟩, 33) := ⟨⟨by decide +kernel, by decide +kernel⟩, List.mem_of_getElem? (i := 903) (by decide +kernel), List.mem_of_getElem? (i := 1280) (by decide +kernel), List.mem_of_getElem? (i := 1281) (by decide +kernel)⟩
theorem lw_p66 : lw_okq (⟨"DoorPaintsModel", "actAt", "(I)I"⟩, 33) := ⟨⟨by decide +kernel, by decide +kernel⟩, List.mem_of_getElem? (i := 903) (by decide +kernel), List.mem_of_getElem? (i := 1284) (by decide +kernel), List.mem_of_getElem? (i := 1285) (by decide +kernel)⟩
theorem lw_p67 : lw_okq (⟨"DoorPaintsModel", "visitIn", "(III)I"⟩, 33) := ⟨⟨by decide +kernel, by decide +kernel⟩, List.mem_of_getElem? (i := 903) (by decide +kernel), List.mem_of_getElem? (i := 1291) (by decide +kernel), List.mem_of_getElem? (i := 1292) (by decide +kernel)⟩
theorem lw_p68 : lw_okq (⟨"DoorPaintsModel", "isSo", "()Z"⟩, 33) := ⟨⟨by decide +kernel, by decide +kernel⟩, List.mem_of_getElem? (i := 903) (by decide +kernel), List.mem_of_getElem? (i := 1315) (by decide +kernel), List.mem_of_getElem? (i := 1316) (by decide +kernel)⟩
theorem lw_p69 : lw_okq (⟨"DoorPaintsModel", "isOrder", "(I)Z"⟩, 33) := ⟨⟨by decide +kernel, by decide +kernel⟩, List.mem_of_getElem? (i := 903) (by decide +kernel), List.mem_of_getElem? (i := 1327) (by decide +kernel), List.mem_of_getElem? (i := 1328) (by decide +kernel)⟩
theorem lw_p70 : lw_okq (⟨"DoorPaintsModel", "findOdds", "(II)V"⟩, 33) := ⟨⟨by decide +kernel, by decide +kernel⟩, List.mem_of_getElem? (i := 903) (by decide +kernel), List.mem_of_getElem? (i := 1337) (by decide +kernel), List.mem_of_getElem? (i := 1338) (by decide +kernel)⟩
theorem lw_p71 : lw_okq (⟨"DoorPaintsModel", "copies", "(II)V"⟩, 33) := ⟨⟨by decide +kernel, by decide +kernel⟩, List.mem_of_getElem? (i := 903) (by decide +kernel), List.mem_of_getElem? (i := 1361) (by decide +kernel), List.mem_of_getElem? (i := 1362) (by decide +kernel)⟩
def lw_privs_5 : List (MethodName × Nat) := [(⟨"DoorPaintsModel", "rowsOf", "(I)I"⟩, 33), (⟨"DoorPaintsModel", "goesRow", "(II)V"⟩, 33), (⟨"DoorPaintsModel", "actAt", "(I)I"⟩, 33), (⟨"DoorPaintsModel", "visitIn", "(III)I"⟩, 33), (⟨"DoorPaintsModel", "isSo", "()Z"⟩, 33), (⟨"DoorPaintsModel", "isOrder", "(I)Z"⟩, 33), (⟨"DoorPaintsModel", "findOdds", "(II)V"⟩, 33), (⟨"DoorPaintsModel", "copies", "(II)V"⟩, 33)]
theorem lw_r5 : ∀ q ∈ lw_privs_5, lw_okq q := List.forall_mem_cons.mpr ⟨lw_p64, List.forall_mem_cons.mpr ⟨lw_p65, List.forall_mem_cons.mpr ⟨lw_p66, List.forall_mem_cons.mpr ⟨lw_p67, List.forall_mem_cons.mpr ⟨lw_p68, List.forall_mem_cons.mpr ⟨lw_p69, List.forall_mem_cons.mpr ⟨lw_p70, List.forall_mem_cons.mpr ⟨lw_p71, fun _ h => absurd h List.not_mem_nil⟩⟩⟩⟩⟩⟩⟩⟩
def lw_privs : List (MethodName × Nat) := lw_privs_1 ++ (lw_privs_2 ++ (lw_privs_3 ++ (lw_privs_4 ++ (lw_privs_5))))
def lw_tbl : List Cond := k2_sels lw_privs ++ tables_1
theorem lw_privs_ok : ∀ q ∈ lw_privs, lw_okq q := by
  show ∀ q ∈ lw_privs_1 ++ (lw_privs_2 ++ (lw_privs_3 ++ (lw_privs_4 ++ (lw_privs_5)))), lw_okq q
  exact List.forall_mem_append.mpr ⟨lw_r1, List.forall_mem_append.mpr ⟨lw_r2, List.forall_mem_append.mpr ⟨lw_r3, List.forall_mem_append.mpr ⟨lw_r4, lw_r5⟩⟩⟩⟩
-- ===== end of PART A; then your names; then what follows =====
end
section
/-! THE SMALL MACHINE: a run of the bytecode over a list of cells, as a function. What it answers, the machine answers (the parts behind). -/
/-- a cell: an object (number of its class, fields), a row of ints (kind, contents), a row of references (kind, contents) -/
abbrev MC : Type := (Nat × List Value) ⊕ (Nat × List Int32) ⊕ (Nat × List (Option Nat))
abbrev MH : Type := List MC
abbrev LVs : Type := List (Nat × Value)
/-- an instruction as it is listed: pc, the instruction, its length, and three numbers that it is resolved to -/
abbrev MI : Type := Nat × Instr × Nat × Nat × Nat × Int
def m_get (lv : LVs) (i : Nat) : Option Value := (lv.find? (fun q => q.1 == i)).map (fun q => q.2)
def m_put1 (lv : LVs) (i : Nat) (v : Value) : LVs := (i, v) :: lv.filter (fun q => !(q.1 == i) && !(q.1 + 1 == i && q.2.category == 2))
def m_put2 (lv : LVs) (i : Nat) (v : Value) : LVs := (i, v) :: lv.filter (fun q => !(q.1 == i) && (!(q.1 == i + 1) && !(q.1 + 1 == i && q.2.category == 2)))
def m_isI (v : Value) : Bool := match v with | .int _ => true | _ => false
def m_isL (v : Value) : Bool := match v with | .long _ => true | _ => false
def m_isA (v : Value) : Bool := match v with | .null => true | .ref _ => true | _ => false
/-- what an instruction pushes that reads constants or locals alone -/
def m_push (E : MI) (lv : LVs) : Option Value := match E.2.1 with
  | .iconst n => some (.int (Int32.ofInt n))
  | .bipush n => some (.int (Int8.ofInt n).toInt32)
  | .sipush n => some (.int (Int16.ofInt n).toInt32)
  | .lconst n => some (.long (Int64.ofNat (n : Nat)))
  | .aconst_null => some .null
  | .iload i => (m_get lv i).filter m_isI
  | .iload_n i => (m_get lv i).filter m_isI
  | .lload i => (m_get lv i).filter m_isL
  | .lload_n i => (m_get lv i).filter m_isL
  | .aload i => (m_get lv i).filter m_isA
  | .aload_n i => (m_get lv i).filter m_isA
  | _ => none
def m_b32 (i : Instr) : Option (Int32 → Int32 → Int32) := match i with
  | .iadd => some fun x y => x + y
  | .isub => some fun x y => x - y
  | .imul => some fun x y => x * y
  | .iand => some fun x y => x &&& y
  | .ior => some fun x y => x ||| y
  | .ixor => some fun x y => x ^^^ y
  | .ishl => some fun x y => x <<< (y &&& 31)
  | .ishr => some fun x y => x >>> (y &&& 31)
  | .iushr => some fun x y => (x.toUInt32 >>> (y.toUInt32 &&& Int32.toUInt32 31)).toInt32
  | _ => none
def m_d32 (i : Instr) : Option (Int32 → Int32 → Int32) := match i with
  | .idiv => some fun x y => x / y
  | .irem => some fun x y => x - x / y * y
  | _ => none
def m_b64 (i : Instr) : Option (Int64 → Int64 → Int64) := match i with
  | .ladd => some fun x y => x + y
  | .lsub => some fun x y => x - y
  | .lmul => some fun x y => x * y
  | .land => some fun x y => x &&& y
  | .lor => some fun x y => x ||| y
  | .lxor => some fun x y => x ^^^ y
  | _ => none
def m_d64 (i : Instr) : Option (Int64 → Int64 → Int64) := match i with
  | .ldiv => some fun x y => x / y
  | .lrem => some fun x y => x - x / y * y
  | _ => none
def m_u32 (i : Instr) : Option (Int32 → Value) := match i with
  | .ineg => some fun x => .int (-x)
  | .i2b => some fun x => .int x.toInt8.toInt32
  | .i2s => some fun x => .int x.toInt16.toInt32
  | .i2c => some fun x => .int (x.toUInt32 % 65536).toInt32
  | .i2l => some fun x => .long x.toInt64
  | _ => none
def m_cmp (c : ClassFile.Cond) (x y : Int32) : Bool := match c with
  | .eq => decide (x = y)
  | .ne => decide (¬ x = y)
  | .lt => decide (x < y)
  | .ge => decide (y ≤ x)
  | .gt => decide (y < x)
  | .le => decide (x ≤ y)
/-- the operand stack alone: what is neither arithmetic of two ints nor of two longs -/
def m_stk (i : Instr) (st : List Value) : Option (List Value) := match i with
  | .l2i => (match st with | .long x :: r => some (.int x.toInt32 :: r) | _ => none)
  | .lcmp => (match st with | .long y :: .long x :: r => some (.int (lg_cmp x y) :: r) | _ => none)
  | .dup => (match st with | a :: r => if a.category = 1 then some (a :: a :: r) else none | _ => none)
  | .pop => (match st with | a :: r => if a.category = 1 then some r else none | _ => none)
  | .pop2 => (match st with | a :: r => if a.category = 2 then some r else none | _ => none)
  | .dup_x1 => (match st with | a :: b :: r => if a.category = 1 ∧ b.category = 1 then some (a :: b :: a :: r) else none | _ => none)
  | .dup_x2 => (match st with | a :: b :: d :: r => if a.category = 1 ∧ b.category = 1 ∧ d.category = 1 then some (a :: b :: d :: a :: r) else none | _ => none)
  | .dup2 => (match st with | a :: b :: r => if a.category = 1 ∧ b.category = 1 then some (a :: b :: a :: b :: r) else none | _ => none)
  | _ => none
def m_alu (i : Instr) (st : List Value) : Option (List Value) :=
  match m_b32 i with
  | some f => (match st with | .int y :: .int x :: r => some (.int (f x y) :: r) | _ => none)
  | none => match m_d32 i with
  | some f => (match st with | .int y :: .int x :: r => if y = 0 then none else some (.int (f x y) :: r) | _ => none)
  | none => match m_b64 i with
  | some f => (match st with | .long y :: .long x :: r => some (.long (f x y) :: r) | _ => none)
  | none => match m_d64 i with
  | some f => (match st with | .long y :: .long x :: r => if y = 0 then none else some (.long (f x y) :: r) | _ => none)
  | none => match m_u32 i with
  | some f => (match st with | .int x :: r => some (f x :: r) | _ => none)
  | none => m_stk i st
def m_to (pc : Nat) (off : Int) : Option Nat := if 0 ≤ (pc : Int) + off then some ((pc : Int) + off).toNat else none
def m_if (pc : Nat) (off : Int) (b : Bool) (r : List Value) : Option (Nat × List Value) := (m_to pc off).map fun t => (if b = true then t else pc + 3, r)
/-- where a branch goes, and the operand stack there -/
def m_br (E : MI) (st : List Value) : Option (Nat × List Value) := match E.2.1 with
  | .goto off => (m_to E.1 off).map fun t => (t, st)
  | .ifCond c off => (match st with | .int x :: r => m_if E.1 off (m_cmp c x 0) r | _ => none)
  | .if_icmp c off => (match st with | .int y :: .int x :: r => m_if E.1 off (m_cmp c x y) r | _ => none)
  | .tableswitch d lo hi offs => (match st with
    | .int x :: r => if x.toInt < lo ∨ hi < x.toInt then (m_to E.1 d).map (fun t => (t, r)) else (match offs[(x.toInt - lo).toNat]? with | some off => (m_to E.1 off).map (fun t => (t, r)) | none => none)
    | _ => none)
  | .lookupswitch d ps => (match st with
    | .int x :: r => if (ps.toList.zip (ps.toList.drop 1)).all (fun q => decide (q.1.1 < q.2.1)) = true then (m_to E.1 (Op.lookupswitch.offset ps.toList d x.toInt)).map (fun t => (t, r)) else none
    | _ => none)
  | _ => none
/-- a local that is stored -/
def m_store (E : MI) (lv : LVs) (st : List Value) : Option (LVs × List Value) := match E.2.1 with
  | .istore i => (match st with | .int x :: r => some (m_put1 lv i (.int x), r) | _ => none)
  | .istore_n i => (match st with | .int x :: r => some (m_put1 lv i (.int x), r) | _ => none)
  | .lstore i => (match st with | .long x :: r => some (m_put2 lv i (.long x), r) | _ => none)
  | .lstore_n i => (match st with | .long x :: r => some (m_put2 lv i (.long x), r) | _ => none)
  | .astore i => (match st with | .ref x :: r => some (m_put1 lv i (.ref x), r) | .null :: r => some (m_put1 lv i .null, r) | _ => none)
  | .astore_n i => (match st with | .ref x :: r => some (m_put1 lv i (.ref x), r) | .null :: r => some (m_put1 lv i .null, r) | _ => none)
  | .iinc i n => (match m_get lv i with | some (.int x) => some (m_put1 lv i (.int (x + Int32.ofInt n)), st) | _ => none)
  | _ => none
/-- addresses from here on are of cells that nobody writes: the script, the texts -/
def KB : Nat := 1000000
def m_cell (ro : Nat → Option MC) (F : MH) (a : Nat) : Option MC := if a < KB then F[a]? else ro (a - KB)
/-- a method: its name, its code, its locals, what it returns, its listing -/
abbrev MM : Type := MethodName × ByteArray × Nat × Option FieldType × List MI
def m_in (i : Int32) (n : Nat) : Bool := decide (0 ≤ i.toInt ∧ i.toInt < n)
/-- what is read of the cells -/
def m_rd (ro : Nat → Option MC) (F : MH) (E : MI) (st : List Value) : Option (List Value) := match E.2.1 with
  | .getfield _ => (match st with
    | .ref a :: r => (match m_cell ro F a with
      | some (.inl (ci, fs)) => if ci = E.2.2.2.1 then (match fs[E.2.2.2.2.1]? with | some v => some (v :: r) | none => none) else none
      | _ => none)
    | _ => none)
  | .arraylength => (match st with
    | .ref a :: r => if a < KB then none else (match ro (a - KB) with
      | some (.inr (.inl (_, xs))) => some (.int (Int32.ofNat xs.length) :: r)
      | _ => none)
    | _ => none)
  | .iaload => (match st with
    | .int i :: .ref a :: r => (match m_cell ro F a with
      | some (.inr (.inl (k, xs))) => if k = 0 ∧ m_in i xs.length = true then some (.int (xs.getD i.toNatClampNeg 0) :: r) else none
      | _ => none)
    | _ => none)
  | .baload => (match st with
    | .int i :: .ref a :: r => (match m_cell ro F a with
      | some (.inr (.inl (k, xs))) => if (k = 1 ∨ k = 2) ∧ m_in i xs.length = true then some (.int (xs.getD i.toNatClampNeg 0) :: r) else none
      | _ => none)
    | _ => none)
  | .aaload => (match st with
    | .int i :: .ref a :: r => (match m_cell ro F a with
      | some (.inr (.inr (k, os))) => if a < KB ∧ 3 ≤ k ∧ k ≤ 6 ∧ m_in i os.length = true then some (va_rf (os.getD i.toNatClampNeg none) :: r) else none
      | _ => none)
    | _ => none)
  | _ => none
/-- what is written to the cells, or made -/
def m_wr (fty : Nat → Nat → FieldType) (dfl : Nat → List Value) (F : MH) (E : MI) (st : List Value) : Option (MH × List Value) := match E.2.1 with
  | .putfield _ => (match st with
    | v :: .ref a :: r => (match F[a]? with
      | some (.inl (ci, fs)) => if a < KB ∧ ci = E.2.2.2.1 ∧ E.2.2.2.2.1 < fs.length ∧ narrow (fty ci E.2.2.2.2.1) v = v ∧ fits (fty ci E.2.2.2.2.1) v = true then some (F.set a (.inl (ci, fs.set E.2.2.2.2.1 v)), r) else none
      | _ => none)
    | _ => none)
  | .iastore => (match st with
    | .int x :: .int i :: .ref a :: r => (match F[a]? with
      | some (.inr (.inl (k, xs))) => if a < KB ∧ k = 0 ∧ m_in i xs.length = true then some (F.set a (.inr (.inl (k, xs.set i.toNatClampNeg x))), r) else none
      | _ => none)
    | _ => none)
  | .bastore => (match st with
    | .int x :: .int i :: .ref a :: r => (match F[a]? with
      | some (.inr (.inl (k, xs))) => if a < KB ∧ k = 1 ∧ m_in i xs.length = true then some (F.set a (.inr (.inl (k, xs.set i.toNatClampNeg (vp_nar .boolean x)))), r) else none
      | _ => none)
    | _ => none)
  | .aastore => (match st with
    | .ref o :: .int i :: .ref a :: r => (match F[a]?, F[o]? with
      | some (.inr (.inr (k, os))), some (.inl (ci, _)) => if a < KB ∧ o < KB ∧ E.2.2.2.1 = ci ∧ E.2.2.2.2.1 = k ∧ m_in i os.length = true then some (F.set a (.inr (.inr (k, os.set i.toNatClampNeg (some o)))), r) else none
      | _, _ => none)
    | _ => none)
  | .new _ => if F.length < KB then some (F ++ [.inl (E.2.2.2.1, dfl E.2.2.2.1)], .ref F.length :: st) else none
  | .newarray t => (match st with
    | .int n :: r => if F.length < KB ∧ 0 ≤ n.toInt ∧ n.toInt ≤ 100000 ∧ ((t = .int ∧ E.2.2.2.1 = 0) ∨ (t = .boolean ∧ E.2.2.2.1 = 1)) then some (F ++ [.inr (.inl (E.2.2.2.1, List.replicate n.toNatClampNeg 0))], .ref F.length :: r) else none
    | _ => none)
  | .anewarray _ => (match st with
    | .int n :: r => if F.length < KB ∧ 0 ≤ n.toInt ∧ n.toInt ≤ 100000 then some (F ++ [.inr (.inr (E.2.2.2.1, List.replicate n.toNatClampNeg none))], .ref F.length :: r) else none
    | _ => none)
  | _ => none
/-- constants of the pools: the third number says which -/
def m_cst (E : MI) : Option Value := match E.2.1 with
  | .ldc _ => if E.2.2.2.1 = 0 then some (.int (Int32.ofInt E.2.2.2.2.2)) else some (.ref (KB + E.2.2.2.2.1))
  | .ldc_w _ => some (.int (Int32.ofInt E.2.2.2.2.2))
  | .ldc2_w _ => some (.long (Int64.ofInt E.2.2.2.2.2))
  | .getstatic _ => if E.2.2.2.1 = 0 then some (.int (Int32.ofInt E.2.2.2.2.2)) else some (.ref (KB + E.2.2.2.2.1))
  | _ => none
/-- a call: which method, its arguments, what stays on the stack -/
def m_iv (E : MI) (st : List Value) (ok : Nat → Bool) : Option (Nat × List Value × List Value) :=
  if 1 ≤ E.2.2.2.2.1 ∧ E.2.2.2.2.1 ≤ st.length ∧ ((st.drop E.2.2.2.2.1).map fun v => v.category).sum ≤ 8 then (match (st.take E.2.2.2.2.1).reverse with
    | .ref a :: As => if ok a = true then some (E.2.2.2.1, .ref a :: As, st.drop E.2.2.2.2.1) else none
    | _ => none) else none
def m_rc (ro : Nat → Option MC) (F : MH) (E : MI) (a : Nat) : Bool := match m_cell ro F a with
  | some (.inl o) => decide ((o.1 : Int) = E.2.2.2.2.2)
  | _ => false
def m_inv (ro : Nat → Option MC) (F : MH) (E : MI) (st : List Value) : Option (Nat × List Value × List Value) := match E.2.1 with
  | .invokestatic _ => if E.2.2.2.2.1 ≤ st.length ∧ ((st.drop E.2.2.2.2.1).map fun v => v.category).sum ≤ 8 then some (E.2.2.2.1, (st.take E.2.2.2.2.1).reverse, st.drop E.2.2.2.2.1) else none
  | .invokespecial _ => m_iv E st (fun a => decide (a < KB))
  | .invokevirtual _ => m_iv E st (m_rc ro F E)
  | _ => none
/-- a return: what is answered -/
def m_ret (rt : Option FieldType) (E : MI) (st : List Value) : Option (Option Value) := match E.2.1 with
  | .ireturn => (match st with | [.int x] => (match rt with | some ty => if narrow ty (.int x) = .int x then some (some (.int x)) else none | none => none) | _ => none)
  | .lreturn => (match st with | [.long x] => if rt = some .long then some (some (.long x)) else none | _ => none)
  | .return_ => (match st with | [] => if rt = none then some none else none | _ => none)
  | _ => none
abbrev MS : Type := MH × Nat × LVs × List Value
/-- one step that is neither a call nor a return -/
def m_one (ro : Nat → Option MC) (fty : Nat → Nat → FieldType) (dfl : Nat → List Value) (E : MI) (F : MH) (lv : LVs) (st : List Value) : Option MS :=
  match m_push E lv with
  | some v => some (F, E.1 + E.2.2.1, lv, v :: st)
  | none => match m_cst E with
  | some v => some (F, E.1 + E.2.2.1, lv, v :: st)
  | none => match m_store E lv st with
  | some q => some (F, E.1 + E.2.2.1, q.1, q.2)
  | none => match m_alu E.2.1 st with
  | some st1 => some (F, E.1 + E.2.2.1, lv, st1)
  | none => match m_br E st with
  | some q => some (F, q.1, lv, q.2)
  | none => match m_rd ro F E st with
  | some st1 => some (F, E.1 + E.2.2.1, lv, st1)
  | none => match m_wr fty dfl F E st with
  | some q => some (q.1, E.1 + E.2.2.1, lv, q.2)
  | none => none
def m_at (MT : List MM) (mi pc : Nat) : Option (MI × Option FieldType) := match MT[mi]? with
  | some M => (M.2.2.2.2.find? (fun E => E.1 == pc)).map fun E => (E, M.2.2.2.1)
  | none => none
def m_room (MT : List MM) (mi : Nat) (as : List Value) : Bool := match MT[mi]? with
  | some M => decide (0 < mi ∧ (as.map fun v => v.category).sum ≤ M.2.2.1)
  | none => false
/-- a run: fuel, depth of calls that is left, method, cells, pc, locals, stack: what is answered, and the cells then -/
def ex (MT : List MM) (ro : Nat → Option MC) (fty : Nat → Nat → FieldType) (dfl : Nat → List Value) : Nat → Nat → Nat → MH → Nat → LVs → List Value → Option (Option Value × MH)
  | 0, _, _, _, _, _, _ => none
  | n + 1, d, mi, F, pc, lv, st =>
    match m_at MT mi pc with
    | none => none
    | some E =>
      match m_one ro fty dfl E.1 F lv st with
      | some q => ex MT ro fty dfl n d mi q.1 q.2.1 q.2.2.1 q.2.2.2
      | none =>
        match m_ret E.2 E.1 st with
        | some v => some (v, F)
        | none =>
          match m_inv ro F E.1 st with
          | none => none
          | some q =>
            if q.1 = 9999 then (match q.2.1 with | [.ref a] => if a < KB then ex MT ro fty dfl n d mi F (pc + 3) lv q.2.2 else none | _ => none)
            else if q.1 = 9998 then (match q.2.1 with | [.int x, .int y] => ex MT ro fty dfl n d mi F (pc + 3) lv (.int (if x < y then y else x) :: q.2.2) | _ => none)
            else if m_room MT q.1 q.2.1 = true then (match d with
              | 0 => none
              | d' + 1 =>
                match ex MT ro fty dfl n d' q.1 F 0 (lv_args 0 q.2.1) [] with
                | none => none
                | some z => ex MT ro fty dfl n (d' + 1) mi z.2 (pc + 3) lv (z.1.toList ++ q.2.2))
            else none
end
section
/-! THE SMALL MACHINE IS THE MACHINE, I: values, cells, worlds -/
section SimA
/-- a value of the small machine, as the machine has it: rA says where its cells lie, sio what the one unknown reference is -/
def trv (rA : Nat → Nat) (sio : Value) (v : Value) : Value := match v with
  | .ref a => if a = KB + 100 then sio else .ref (rA a)
  | w => w
theorem trv_int (rA : Nat → Nat) (sio : Value) (x : Int32) : trv rA sio (.int x) = .int x := rfl
theorem trv_long (rA : Nat → Nat) (sio : Value) (x : Int64) : trv rA sio (.long x) = .long x := rfl
theorem trv_null (rA : Nat → Nat) (sio : Value) : trv rA sio .null = .null := rfl
theorem trv_ref (rA : Nat → Nat) (sio : Value) {a : Nat} (h : a < KB) : trv rA sio (.ref a) = .ref (rA a) := by
  have h2 : ¬ a = KB + 100 := by omega
  simp only [trv, if_neg h2]
def sioOK (sio : Value) : Prop := sio = .null ∨ ∃ a, sio = .ref a
theorem trv_cat {rA : Nat → Nat} {sio : Value} (hs : sioOK sio) (v : Value) : (trv rA sio v).category = v.category := by
  cases v with
  | ref a =>
    by_cases h : a = KB + 100
    · simp only [trv, if_pos h]
      rcases hs with rfl | ⟨b, rfl⟩ <;> rfl
    · simp only [trv, if_neg h]; rfl
  | _ => rfl
def trE (rA : Nat → Nat) (sio : Value) (cA : Nat → ClassId) (c : MC) : va_E := match c with
  | .inl o => .inr (o.1, o.2.map (trv rA sio))
  | .inr (.inl q) => .inl (cA q.1, q.2.length, .inl (fun j => q.2.getD j 0))
  | .inr (.inr q) => .inl (cA q.1, q.2.length, .inr (.inr (.inr (.inr (fun j => (q.2.getD j none).map rA)))))
/-- the cells as a world of the kit, from an address on -/
def wsF (tr : MC → va_E) : Nat → MH → va_W
  | _, [] => []
  | b, c :: t => (b, tr c) :: wsF tr (b + 1) t
theorem wsF_get (tr : MC → va_E) : ∀ (F : MH) (b i : Nat), (wsF tr b F)[i]? = (F[i]?).map (fun c => (b + i, tr c))
  | [], b, i => by simp [wsF]
  | c :: t, b, 0 => by simp [wsF]
  | c :: t, b, i + 1 => by
    rw [wsF, List.getElem?_cons_succ, wsF_get tr t (b + 1) i, List.getElem?_cons_succ]
    rw [show b + 1 + i = b + (i + 1) by omega]
theorem wsF_set (tr : MC → va_E) : ∀ (F : MH) (b i : Nat) (c : MC), (wsF tr b F).set i (b + i, tr c) = wsF tr b (F.set i c)
  | [], b, i, c => by simp [wsF]
  | c0 :: t, b, 0, c => by simp [wsF]
  | c0 :: t, b, i + 1, c => by
    rw [wsF, List.set_cons_succ, List.set_cons_succ, wsF, ← wsF_set tr t (b + 1) i c]
    rw [show b + 1 + i = b + (i + 1) by omega]
theorem wsF_app (tr : MC → va_E) (c : MC) : ∀ (F : MH) (b : Nat), wsF tr b (F ++ [c]) = wsF tr b F ++ [(b + F.length, tr c)]
  | [], b => by simp [wsF]
  | c0 :: t, b => by
    rw [List.cons_append, wsF, wsF, wsF_app tr c t (b + 1), List.cons_append, List.length_cons]
    rw [show b + 1 + t.length = b + (t.length + 1) by omega]
theorem wsF_D (tr : MC → va_E) {A : Nat → Prop} {b : Nat} (hA : ∀ q, b ≤ q → A q) (F : MH) : va_D A (wsF tr b F) := by
  refine ⟨fun i j x y hi hj hxy => ?_, fun k q hk => ?_⟩
  · rw [wsF_get] at hi hj
    cases h1 : F[i]? with
    | none => rw [h1] at hi; cases hi
    | some c1 =>
      cases h2 : F[j]? with
      | none => rw [h2] at hj; cases hj
      | some c2 =>
        rw [h1] at hi; rw [h2] at hj
        cases hi; cases hj
        simp only at hxy
        omega
  · rw [wsF_get] at hk
    cases h1 : F[k]? with
    | none => rw [h1] at hk; cases hk
    | some c1 =>
      rw [h1] at hk; cases hk
      exact hA _ (Nat.le_add_right _ _)
end SimA
end
section
/-! THE SMALL MACHINE IS THE MACHINE, II: pushes, stores, arithmetic, branches -/
def m_len (i : Instr) : Nat := match i with
  | .tableswitch _ _ _ _ => 0
  | .lookupswitch _ _ => 0
  | .bipush _ | .iload _ | .lload _ | .aload _ | .istore _ | .lstore _ | .astore _ | .ldc _ | .newarray _ => 2
  | .sipush _ | .ldc_w _ | .ldc2_w _ | .iinc _ _ | .ifCond _ _ | .if_icmp _ _ | .goto _ | .ifnull _ | .ifnonnull _ | .getfield _ | .putfield _ | .getstatic _ | .invokestatic _ | .invokevirtual _ | .invokespecial _ | .new _ | .anewarray _ => 3
  | _ => 1
section SimB
variable {p : Program} {l : Launch} {e : Env} {R : Room} {s : State} {m : MethodId} {args : Array Value} {below : List Frame} {meth : Method} {c : Code} {H : Heap} {locs : List Loc} {cells slots : Nat} {Q : State → Prop}
variable {cc : ByteArray} {ls : Array Slot} {nL : Nat} {rA : Nat → Nat} {sio : Value}
def trl (rA : Nat → Nat) (sio : Value) (lv : LVs) : LVs := lv.map (fun q => (q.1, trv rA sio q.2))
def trs (rA : Nat → Nat) (sio : Value) (st : List Value) : List Value := st.map (trv rA sio)
theorem m_get_mem {lv : LVs} {i : Nat} {v : Value} (h : m_get lv i = some v) : (i, v) ∈ lv := by
  unfold m_get at h
  cases hf : lv.find? (fun q => q.1 == i) with
  | none => rw [hf] at h; cases h
  | some q =>
    rw [hf] at h
    have h1 := List.mem_of_find?_eq_some hf
    have h2 : (q.1 == i) = true := by have := List.find?_some hf; exact this
    have h3 : q.2 = v := Option.some.inj h
    have h4 : q.1 = i := by simpa using h2
    rw [← h3, ← h4]; exact h1
theorem trl_get {lv : LVs} {i : Nat} {v : Value} (hl : lv_has ls nL (trl rA sio lv)) (h : m_get lv i = some v) : ls[i]? = some (.val (trv rA sio v)) :=
  hl.2.2 (i, trv rA sio v) (List.mem_map.mpr ⟨(i, v), m_get_mem h, rfl⟩)
theorem filt_get {lv : LVs} {i : Nat} {v : Value} {P : Value → Bool} (h : (m_get lv i).filter P = some v) : m_get lv i = some v ∧ P v = true := by
  cases hg : m_get lv i with
  | none => rw [hg] at h; cases h
  | some w =>
    rw [hg] at h
    simp only [Option.filter] at h
    split at h
    · cases h; exact ⟨rfl, by assumption⟩
    · cases h
theorem s_push (hx : p.tables.exec = Jvm.exec) (hb : c.code = cc) {E : MI} {lv : LVs} {v : Value} {rest : List Value} (hs : sioOK sio) (hdg : decode cc E.1 = .ok (E.2.1, E.2.2.1)) (hlen : m_len E.2.1 = 0 ∨ m_len E.2.1 = E.2.2.1) (hl : lv_has ls nL (trl rA sio lv)) (h : m_push E lv = some v)
    (k : W p l e R s m args below meth c H locs cells slots Q (F0 m (E.1 + E.2.2.1) ls (trv rA sio v :: rest))) : W p l e R s m args below meth c H locs cells slots Q (F0 m E.1 ls rest) := by
  obtain ⟨pc, i, len, a, b, z⟩ := E
  simp only at hdg hlen k h ⊢
  cases i
  case iconst n =>
    simp only [m_len] at hlen
    obtain rfl : len = 1 := by omega
    simp only [m_push] at h; cases h
    exact lv_iconst hx hb hdg rfl k
  case bipush n =>
    simp only [m_len] at hlen
    obtain rfl : len = 2 := by omega
    simp only [m_push] at h; cases h
    exact lv_bipush hx hb hdg rfl k
  case sipush n =>
    simp only [m_len] at hlen
    obtain rfl : len = 3 := by omega
    simp only [m_push] at h; cases h
    exact lv_sipush hx hb hdg rfl k
  case lconst n =>
    simp only [m_len] at hlen
    obtain rfl : len = 1 := by omega
    simp only [m_push] at h; cases h
    exact lv_lconst hx hb hdg rfl k
  case aconst_null =>
    simp only [m_len] at hlen
    obtain rfl : len = 1 := by omega
    simp only [m_push] at h; cases h
    exact lv_null hx hb hdg k
  case iload n =>
    simp only [m_len] at hlen
    obtain rfl : len = 2 := by omega
    simp only [m_push] at h
    obtain ⟨h1, h2⟩ := filt_get h
    have h3 := trl_get hl h1
    cases v <;> simp only [m_isI, Bool.false_eq_true] at h2
    exact lv_iload hx hb hdg h3 k
  case iload_n n =>
    simp only [m_len] at hlen
    obtain rfl : len = 1 := by omega
    simp only [m_push] at h
    obtain ⟨h1, h2⟩ := filt_get h
    have h3 := trl_get hl h1
    cases v <;> simp only [m_isI, Bool.false_eq_true] at h2
    exact lv_iload_n hx hb hdg rfl h3 k
  case lload n =>
    simp only [m_len] at hlen
    obtain rfl : len = 2 := by omega
    simp only [m_push] at h
    obtain ⟨h1, h2⟩ := filt_get h
    have h3 := trl_get hl h1
    cases v <;> simp only [m_isL, Bool.false_eq_true] at h2
    exact lv_lload hx hb hdg h3 k
  case lload_n n =>
    simp only [m_len] at hlen
    obtain rfl : len = 1 := by omega
    simp only [m_push] at h
    obtain ⟨h1, h2⟩ := filt_get h
    have h3 := trl_get hl h1
    cases v <;> simp only [m_isL, Bool.false_eq_true] at h2
    exact lv_lload_n hx hb hdg rfl h3 k
  case aload n =>
    simp only [m_len] at hlen
    obtain rfl : len = 2 := by omega
    simp only [m_push] at h
    obtain ⟨h1, h2⟩ := filt_get h
    have h3 := trl_get hl h1
    have h4 : sioOK (trv rA sio v) := by
      cases v <;> simp only [m_isA, Bool.false_eq_true] at h2
      · exact Or.inl rfl
      · rename_i a
        by_cases q : a = KB + 100
        · simp only [trv, if_pos q]; exact hs
        · simp only [trv, if_neg q]; exact Or.inr ⟨_, rfl⟩
    rcases h4 with h4 | ⟨y, h4⟩
    · rw [h4] at h3 k; exact lv_aloadN hx hb hdg h3 k
    · rw [h4] at h3 k; exact lv_aload hx hb hdg h3 k
  case aload_n n =>
    simp only [m_len] at hlen
    obtain rfl : len = 1 := by omega
    simp only [m_push] at h
    obtain ⟨h1, h2⟩ := filt_get h
    have h3 := trl_get hl h1
    have h4 : sioOK (trv rA sio v) := by
      cases v <;> simp only [m_isA, Bool.false_eq_true] at h2
      · exact Or.inl rfl
      · rename_i a
        by_cases q : a = KB + 100
        · simp only [trv, if_pos q]; exact hs
        · simp only [trv, if_neg q]; exact Or.inr ⟨_, rfl⟩
    rcases h4 with h4 | ⟨y, h4⟩
    · rw [h4] at h3 k; exact lv_aload_nN hx hb hdg rfl h3 k
    · rw [h4] at h3 k; exact lv_aload_n hx hb hdg rfl h3 k
  all_goals (simp only [m_push, reduceCtorEq] at h)
end SimB
end
section
/-! THE SMALL MACHINE IS THE MACHINE, III: stores into locals, arithmetic -/
def m_sl (i : Instr) (nL : Nat) : Bool := match i with
  | .istore i => decide (i < nL)
  | .istore_n i => decide ((i : Nat) < nL)
  | .astore i => decide (i < nL)
  | .astore_n i => decide ((i : Nat) < nL)
  | .lstore i => decide (i + 1 < nL)
  | .lstore_n i => decide ((i : Nat) + 1 < nL)
  | .iinc i _ => decide (i < nL)
  | _ => true
section SimC
variable {p : Program} {l : Launch} {e : Env} {R : Room} {s : State} {m : MethodId} {args : Array Value} {below : List Frame} {meth : Method} {c : Code} {H : Heap} {locs : List Loc} {cells slots : Nat} {Q : State → Prop}
variable {cc : ByteArray} {ls : Array Slot} {nL : Nat} {rA : Nat → Nat} {sio : Value}
theorem trl_put1 (hs : sioOK sio) (lv : LVs) (i : Nat) (v : Value) : (i, trv rA sio v) :: (trl rA sio lv).filter (fun q => !(q.1 == i) && !(q.1 + 1 == i && q.2.category == 2)) = trl rA sio (m_put1 lv i v) := by
  unfold trl m_put1
  rw [List.map_cons, List.filter_map]
  congr 2
  apply List.filter_congr
  intro q hq
  simp only [Function.comp, trv_cat hs]
theorem trl_put2 (hs : sioOK sio) (lv : LVs) (i : Nat) (v : Value) : (i, trv rA sio v) :: (trl rA sio lv).filter (fun q => !(q.1 == i) && (!(q.1 == i + 1) && !(q.1 + 1 == i && q.2.category == 2))) = trl rA sio (m_put2 lv i v) := by
  unfold trl m_put2
  rw [List.map_cons, List.filter_map]
  congr 2
  apply List.filter_congr
  intro q hq
  simp only [Function.comp, trv_cat hs]
theorem s_astore (hx : p.tables.exec = Jvm.exec) (hb : c.code = cc) {pc i : Nat} {lv : LVs} {v : Value} {r : List Value} (hs : sioOK sio) (hv : sioOK (trv rA sio v)) (hdg : decode cc pc = .ok (.astore i, 2)) (hi : i < nL) (hl : lv_has ls nL (trl rA sio lv))
    (k : ∀ ls', lv_has ls' nL (trl rA sio (m_put1 lv i v)) → W p l e R s m args below meth c H locs cells slots Q (F0 m (pc + 2) ls' r)) : W p l e R s m args below meth c H locs cells slots Q (F0 m pc ls (trv rA sio v :: r)) := by
  have e1 := trl_put1 (rA := rA) hs lv i v
  rcases hv with h | ⟨y, h⟩
  · rw [h] at e1 ⊢; exact lv_astoreN hx hb hdg hl hi e1 k
  · rw [h] at e1 ⊢; exact lv_astore hx hb hdg hl hi e1 k
theorem s_astore_n (hx : p.tables.exec = Jvm.exec) (hb : c.code = cc) {pc : Nat} {i : Fin 4} {lv : LVs} {v : Value} {r : List Value} (hs : sioOK sio) (hv : sioOK (trv rA sio v)) (hdg : decode cc pc = .ok (.astore_n i, 1)) (hi : (i : Nat) < nL) (hl : lv_has ls nL (trl rA sio lv))
    (k : ∀ ls', lv_has ls' nL (trl rA sio (m_put1 lv i v)) → W p l e R s m args below meth c H locs cells slots Q (F0 m (pc + 1) ls' r)) : W p l e R s m args below meth c H locs cells slots Q (F0 m pc ls (trv rA sio v :: r)) := by
  have e1 := trl_put1 (rA := rA) hs lv i v
  rcases hv with h | ⟨y, h⟩
  · rw [h] at e1 ⊢; exact lv_astore_nN hx hb hdg rfl hl hi e1 k
  · rw [h] at e1 ⊢; exact lv_astore_n hx hb hdg rfl hl hi e1 k
theorem trv_sio (hs : sioOK sio) (a : Nat) : sioOK (trv rA sio (.ref a)) := by
  by_cases q : a = KB + 100
  · simp only [trv, if_pos q]; exact hs
  · simp only [trv, if_neg q]; exact Or.inr ⟨_, rfl⟩
theorem s_store (hx : p.tables.exec = Jvm.exec) (hb : c.code = cc) {E : MI} {lv : LVs} {st : List Value} {q : LVs × List Value} (hs : sioOK sio) (hdg : decode cc E.1 = .ok (E.2.1, E.2.2.1)) (hlen : m_len E.2.1 = 0 ∨ m_len E.2.1 = E.2.2.1) (hsl : m_sl E.2.1 nL = true) (hl : lv_has ls nL (trl rA sio lv)) (h : m_store E lv st = some q)
    (k : ∀ ls', lv_has ls' nL (trl rA sio q.1) → W p l e R s m args below meth c H locs cells slots Q (F0 m (E.1 + E.2.2.1) ls' (trs rA sio q.2))) : W p l e R s m args below meth c H locs cells slots Q (F0 m E.1 ls (trs rA sio st)) := by
  obtain ⟨pc, i, len, a, b, z⟩ := E
  simp only at hdg hlen hsl k h ⊢
  cases i
  case istore n =>
    simp only [m_len] at hlen
    obtain rfl : len = 2 := by omega
    simp only [m_sl, decide_eq_true_eq] at hsl
    simp only [m_store] at h
    split at h
    · cases h
      exact lv_istore hx hb hdg hl hsl (trl_put1 hs lv n (.int _)) k
    · cases h
  case istore_n n =>
    simp only [m_len] at hlen
    obtain rfl : len = 1 := by omega
    simp only [m_sl, decide_eq_true_eq] at hsl
    simp only [m_store] at h
    split at h
    · cases h
      exact lv_istore_n hx hb hdg rfl hl hsl (trl_put1 hs lv n (.int _)) k
    · cases h
  case lstore n =>
    simp only [m_len] at hlen
    obtain rfl : len = 2 := by omega
    simp only [m_sl, decide_eq_true_eq] at hsl
    simp only [m_store] at h
    split at h
    · cases h
      exact lv_lstore hx hb hdg hl hsl (trl_put2 hs lv n (.long _)) k
    · cases h
  case lstore_n n =>
    simp only [m_len] at hlen
    obtain rfl : len = 1 := by omega
    simp only [m_sl, decide_eq_true_eq] at hsl
    simp only [m_store] at h
    split at h
    · cases h
      exact lv_lstore_n hx hb hdg rfl hl hsl (trl_put2 hs lv n (.long _)) k
    · cases h
  case astore n =>
    simp only [m_len] at hlen
    obtain rfl : len = 2 := by omega
    simp only [m_sl, decide_eq_true_eq] at hsl
    simp only [m_store] at h
    split at h
    · cases h
      exact s_astore hx hb hs (trv_sio hs _) hdg hsl hl k
    · cases h
      exact s_astore (v := .null) hx hb hs (Or.inl rfl) hdg hsl hl k
    · cases h
  case astore_n n =>
    simp only [m_len] at hlen
    obtain rfl : len = 1 := by omega
    simp only [m_sl, decide_eq_true_eq] at hsl
    simp only [m_store] at h
    split at h
    · cases h
      exact s_astore_n hx hb hs (trv_sio hs _) hdg hsl hl k
    · cases h
      exact s_astore_n (v := .null) hx hb hs (Or.inl rfl) hdg hsl hl k
    · cases h
  case iinc n z =>
    simp only [m_len] at hlen
    obtain rfl : len = 3 := by omega
    simp only [m_sl, decide_eq_true_eq] at hsl
    simp only [m_store] at h
    split at h
    · rename_i x hg
      cases h
      have h1 : (n, Value.int x) ∈ trl rA sio lv := List.mem_map.mpr ⟨(n, .int x), m_get_mem hg, rfl⟩
      obtain ⟨j, hj⟩ := List.getElem?_of_mem h1
      exact lv_iinc hx hb hdg hl hj rfl hsl (trl_put1 hs lv n (.int _)) k
    · cases h
  all_goals (simp only [m_store, reduceCtorEq] at h)
theorem s_b32 (hx : p.tables.exec = Jvm.exec) (hb : c.code = cc) {pc len : Nat} {i : Instr} {f : Int32 → Int32 → Int32} {x y : Int32} {r : List Value} (hdg : decode cc pc = .ok (i, len)) (hlen : m_len i = 0 ∨ m_len i = len) (h : m_b32 i = some f)
    (k : W p l e R s m args below meth c H locs cells slots Q (F0 m (pc + len) ls (.int (f x y) :: r))) : W p l e R s m args below meth c H locs cells slots Q (F0 m pc ls (.int y :: .int x :: r)) := by
  cases i <;> simp only [m_b32, reduceCtorEq] at h <;> (simp only [m_len] at hlen; obtain rfl : len = 1 := by omega) <;> cases h
  · exact lv_iadd hx hb hdg k
  · exact lv_iand hx hb hdg k
  · exact lv_imul hx hb hdg k
  · exact lv_ior hx hb hdg k
  · exact lv_ishl hx hb hdg k
  · exact lv_ishr hx hb hdg k
  · exact lv_isub hx hb hdg k
  · exact lv_iushr hx hb hdg rfl k
  · exact lv_ixor hx hb hdg k
theorem s_d32 (hx : p.tables.exec = Jvm.exec) (hb : c.code = cc) {pc len : Nat} {i : Instr} {f : Int32 → Int32 → Int32} {x y : Int32} {r : List Value} (hdg : decode cc pc = .ok (i, len)) (hlen : m_len i = 0 ∨ m_len i = len) (h : m_d32 i = some f) (hy : ¬ y = 0)
    (k : W p l e R s m args below meth c H locs cells slots Q (F0 m (pc + len) ls (.int (f x y) :: r))) : W p l e R s m args below meth c H locs cells slots Q (F0 m pc ls (.int y :: .int x :: r)) := by
  cases i <;> simp only [m_d32, reduceCtorEq] at h <;> (simp only [m_len] at hlen; obtain rfl : len = 1 := by omega) <;> cases h
  · exact lv_idiv hx hb hdg hy k
  · exact lv_irem hx hb hdg hy k
theorem s_b64 (hx : p.tables.exec = Jvm.exec) (hb : c.code = cc) {pc len : Nat} {i : Instr} {f : Int64 → Int64 → Int64} {x y : Int64} {r : List Value} (hdg : decode cc pc = .ok (i, len)) (hlen : m_len i = 0 ∨ m_len i = len) (h : m_b64 i = some f)
    (k : W p l e R s m args below meth c H locs cells slots Q (F0 m (pc + len) ls (.long (f x y) :: r))) : W p l e R s m args below meth c H locs cells slots Q (F0 m pc ls (.long y :: .long x :: r)) := by
  cases i <;> simp only [m_b64, reduceCtorEq] at h <;> (simp only [m_len] at hlen; obtain rfl : len = 1 := by omega) <;> cases h
  · exact lv_ladd hx hb hdg k
  · exact lv_land hx hb hdg k
  · exact lv_lmul hx hb hdg k
  · exact lv_lor hx hb hdg k
  · exact lv_lsub hx hb hdg k
  · exact lv_lxor hx hb hdg k
theorem s_d64 (hx : p.tables.exec = Jvm.exec) (hb : c.code = cc) {pc len : Nat} {i : Instr} {f : Int64 → Int64 → Int64} {x y : Int64} {r : List Value} (hdg : decode cc pc = .ok (i, len)) (hlen : m_len i = 0 ∨ m_len i = len) (h : m_d64 i = some f) (hy : ¬ y = 0)
    (k : W p l e R s m args below meth c H locs cells slots Q (F0 m (pc + len) ls (.long (f x y) :: r))) : W p l e R s m args below meth c H locs cells slots Q (F0 m pc ls (.long y :: .long x :: r)) := by
  cases i <;> simp only [m_d64, reduceCtorEq] at h <;> (simp only [m_len] at hlen; obtain rfl : len = 1 := by omega) <;> cases h
  · exact lv_ldiv hx hb hdg hy k
  · exact lv_lrem hx hb hdg hy k
theorem s_u32 (hx : p.tables.exec = Jvm.exec) (hb : c.code = cc) {pc len : Nat} {i : Instr} {f : Int32 → Value} {x : Int32} {r : List Value} (hdg : decode cc pc = .ok (i, len)) (hlen : m_len i = 0 ∨ m_len i = len) (h : m_u32 i = some f)
    (k : W p l e R s m args below meth c H locs cells slots Q (F0 m (pc + len) ls (trv rA sio (f x) :: r))) : W p l e R s m args below meth c H locs cells slots Q (F0 m pc ls (.int x :: r)) := by
  cases i <;> simp only [m_u32, reduceCtorEq] at h <;> (simp only [m_len] at hlen; obtain rfl : len = 1 := by omega) <;> cases h
  · exact lv_i2b hx hb hdg rfl k
  · exact lv_i2c hx hb hdg rfl k
  · exact lv_i2l hx hb hdg rfl k
  · exact lv_i2s hx hb hdg rfl k
  · exact lv_ineg hx hb hdg k
theorem s_stk (hx : p.tables.exec = Jvm.exec) (hb : c.code = cc) {pc len : Nat} {i : Instr} {st st1 : List Value} (hs : sioOK sio) (hdg : decode cc pc = .ok (i, len)) (hlen : m_len i = 0 ∨ m_len i = len) (h : m_stk i st = some st1)
    (k : W p l e R s m args below meth c H locs cells slots Q (F0 m (pc + len) ls (trs rA sio st1))) : W p l e R s m args below meth c H locs cells slots Q (F0 m pc ls (trs rA sio st)) := by
  cases i <;> simp only [m_stk, reduceCtorEq] at h <;> (simp only [m_len] at hlen; obtain rfl : len = 1 := by omega)
  case dup =>
    split at h
    · split at h
      · cases h
        exact lv_dup hx hb hdg ((trv_cat hs _).trans (by assumption)) k
      · cases h
    · cases h
  case dup_x1 =>
    split at h
    · split at h
      · rename_i hc
        cases h
        exact lv_dup_x1 hx hb hdg ((trv_cat hs _).trans hc.1) ((trv_cat hs _).trans hc.2) k
      · cases h
    · cases h
  case dup_x2 =>
    split at h
    · split at h
      · rename_i hc
        cases h
        exact lv_dup_x2 hx hb hdg ((trv_cat hs _).trans hc.1) ((trv_cat hs _).trans hc.2.1) ((trv_cat hs _).trans hc.2.2) k
      · cases h
    · cases h
  case dup2 =>
    split at h
    · split at h
      · rename_i hc
        cases h
        exact lv_dup2_11 hx hb hdg ((trv_cat hs _).trans hc.1) ((trv_cat hs _).trans hc.2) k
      · cases h
    · cases h
  case l2i =>
    split at h
    · cases h
      exact lv_l2i hx hb hdg rfl k
    · cases h
  case lcmp =>
    split at h
    · cases h
      exact W.lcmp hx hb hdg k
    · cases h
  case pop =>
    split at h
    · split at h
      · cases h
        exact lv_pop hx hb hdg ((trv_cat hs _).trans (by assumption)) k
      · cases h
    · cases h
  case pop2 =>
    split at h
    · split at h
      · cases h
        exact lv_pop2_2 hx hb hdg ((trv_cat hs _).trans (by assumption)) k
      · cases h
    · cases h
theorem s_alu (hx : p.tables.exec = Jvm.exec) (hb : c.code = cc) {pc len : Nat} {i : Instr} {st st1 : List Value} (hs : sioOK sio) (hdg : decode cc pc = .ok (i, len)) (hlen : m_len i = 0 ∨ m_len i = len) (h : m_alu i st = some st1)
    (k : W p l e R s m args below meth c H locs cells slots Q (F0 m (pc + len) ls (trs rA sio st1))) : W p l e R s m args below meth c H locs cells slots Q (F0 m pc ls (trs rA sio st)) := by
  unfold m_alu at h
  split at h
  · split at h
    · cases h
      exact s_b32 hx hb hdg hlen (by assumption) k
    · cases h
  · split at h
    · split at h
      · split at h
        · cases h
        · cases h
          exact s_d32 hx hb hdg hlen (by assumption) (by assumption) k
      · cases h
    · split at h
      · split at h
        · cases h
          exact s_b64 hx hb hdg hlen (by assumption) k
        · cases h
      · split at h
        · split at h
          · split at h
            · cases h
            · cases h
              exact s_d64 hx hb hdg hlen (by assumption) (by assumption) k
          · cases h
        · split at h
          · split at h
            · cases h
              exact s_u32 (rA := rA) (sio := sio) hx hb hdg hlen (by assumption) k
            · cases h
          · exact s_stk hx hb hs hdg hlen h k
end SimC
end
section
/-! THE SMALL MACHINE IS THE MACHINE, IV: branches -/
section SimD
variable {p : Program} {l : Launch} {e : Env} {R : Room} {s : State} {m : MethodId} {args : Array Value} {below : List Frame} {meth : Method} {c : Code} {H : Heap} {locs : List Loc} {cells slots : Nat} {Q : State → Prop}
variable {cc : ByteArray} {ls : Array Slot} {nL : Nat} {rA : Nat → Nat} {sio : Value}
theorem m_to_spec {pc t : Nat} {off : Int} (h : m_to pc off = some t) : (pc : Int) + off = (t : Int) := by
  unfold m_to at h
  split at h
  · cases h; omega
  · cases h
theorem m_jmp {pc : Nat} {off : Int} {r : List Value} {q : Nat × List Value} (h : (m_to pc off).map (fun t => (t, r)) = some q) : (pc : Int) + off = (q.1 : Int) ∧ q.2 = r := by
  cases ht : m_to pc off with
  | none => rw [ht] at h; cases h
  | some t => rw [ht] at h; cases h; exact ⟨m_to_spec ht, rfl⟩
theorem m_if_spec {pc : Nat} {off : Int} {b : Bool} {r : List Value} {q : Nat × List Value} (h : m_if pc off b r = some q) : ∃ t : Nat, (pc : Int) + off = (t : Int) ∧ q.1 = (if b = true then t else pc + 3) ∧ q.2 = r := by
  unfold m_if at h
  cases ht : m_to pc off with
  | none => rw [ht] at h; cases h
  | some t => rw [ht] at h; cases h; exact ⟨t, m_to_spec ht, rfl, rfl⟩
theorem s_if (hx : p.tables.exec = Jvm.exec) (hb : c.code = cc) {pc : Nat} {cd : ClassFile.Cond} {off : Int} {x : Int32} {r : List Value} {q : Nat × List Value} (hdg : decode cc pc = .ok (.ifCond cd off, 3)) (h : m_if pc off (m_cmp cd x 0) r = some q)
    (k : W p l e R s m args below meth c H locs cells slots Q (F0 m q.1 ls (trs rA sio q.2))) : W p l e R s m args below meth c H locs cells slots Q (F0 m pc ls (.int x :: trs rA sio r)) := by
  obtain ⟨t, h1, h2, h3⟩ := m_if_spec h
  rw [h2, h3] at k
  cases cd <;> simp only [m_cmp, decide_eq_true_eq] at k
  · exact lv_if_eq hx hb hdg h1 (fun n => by rw [if_pos n] at k; exact k) (fun n => by rw [if_neg n] at k; exact k)
  · exact lv_if_ne hx hb hdg h1 (fun n => by rw [if_pos n] at k; exact k) (fun n => by rw [if_neg (fun z => z n)] at k; exact k)
  · exact lv_if_lt hx hb hdg h1 (fun n => by rw [if_pos n] at k; exact k) (fun n => by rw [if_neg n] at k; exact k)
  · exact lv_if_ge hx hb hdg h1 (fun n => by rw [if_pos n] at k; exact k) (fun n => by rw [if_neg n] at k; exact k)
  · exact lv_if_gt hx hb hdg h1 (fun n => by rw [if_pos n] at k; exact k) (fun n => by rw [if_neg n] at k; exact k)
  · exact lv_if_le hx hb hdg h1 (fun n => by rw [if_pos n] at k; exact k) (fun n => by rw [if_neg n] at k; exact k)
theorem s_icmp (hx : p.tables.exec = Jvm.exec) (hb : c.code = cc) {pc : Nat} {cd : ClassFile.Cond} {off : Int} {x y : Int32} {r : List Value} {q : Nat × List Value} (hdg : decode cc pc = .ok (.if_icmp cd off, 3)) (h : m_if pc off (m_cmp cd x y) r = some q)
    (k : W p l e R s m args below meth c H locs cells slots Q (F0 m q.1 ls (trs rA sio q.2))) : W p l e R s m args below meth c H locs cells slots Q (F0 m pc ls (.int y :: .int x :: trs rA sio r)) := by
  obtain ⟨t, h1, h2, h3⟩ := m_if_spec h
  rw [h2, h3] at k
  cases cd <;> simp only [m_cmp, decide_eq_true_eq] at k
  · exact lv_icmp_eq hx hb hdg h1 (fun n => by rw [if_pos n] at k; exact k) (fun n => by rw [if_neg n] at k; exact k)
  · exact lv_icmp_ne hx hb hdg h1 (fun n => by rw [if_pos n] at k; exact k) (fun n => by rw [if_neg (fun z => z n)] at k; exact k)
  · exact lv_icmp_lt hx hb hdg h1 (fun n => by rw [if_pos n] at k; exact k) (fun n => by rw [if_neg n] at k; exact k)
  · exact lv_icmp_ge hx hb hdg h1 (fun n => by rw [if_pos n] at k; exact k) (fun n => by rw [if_neg n] at k; exact k)
  · exact lv_icmp_gt hx hb hdg h1 (fun n => by rw [if_pos n] at k; exact k) (fun n => by rw [if_neg n] at k; exact k)
  · exact lv_icmp_le hx hb hdg h1 (fun n => by rw [if_pos n] at k; exact k) (fun n => by rw [if_neg n] at k; exact k)
theorem s_br (hx : p.tables.exec = Jvm.exec) (hb : c.code = cc) {E : MI} {st : List Value} {q : Nat × List Value} (hs : sioOK sio) (hdg : decode cc E.1 = .ok (E.2.1, E.2.2.1)) (hlen : m_len E.2.1 = 0 ∨ m_len E.2.1 = E.2.2.1) (h : m_br E st = some q)
    (k : W p l e R s m args below meth c H locs cells slots Q (F0 m q.1 ls (trs rA sio q.2))) : W p l e R s m args below meth c H locs cells slots Q (F0 m E.1 ls (trs rA sio st)) := by
  obtain ⟨pc, i, len, a, b, z⟩ := E
  simp only at hdg hlen k h ⊢
  cases i
  case goto off =>
    simp only [m_len] at hlen
    obtain rfl : len = 3 := by omega
    simp only [m_br] at h
    obtain ⟨h1, h2⟩ := m_jmp h
    rw [h2] at k
    exact lv_goto hx hb hdg h1 k
  case ifCond cd off =>
    simp only [m_len] at hlen
    obtain rfl : len = 3 := by omega
    simp only [m_br] at h
    split at h
    · exact s_if hx hb hdg h k
    · cases h
  case if_icmp cd off =>
    simp only [m_len] at hlen
    obtain rfl : len = 3 := by omega
    simp only [m_br] at h
    split at h
    · exact s_icmp hx hb hdg h k
    · cases h
  case tableswitch d lo hi offs =>
    simp only [m_br] at h
    split at h
    · split at h
      · rename_i hc
        obtain ⟨h1, h2⟩ := m_jmp h
        rw [h2] at k
        exact lv_tableOut hx hb hdg hc h1 k
      · rename_i hc
        split at h
        · rename_i off ho
          obtain ⟨h1, h2⟩ := m_jmp h
          rw [h2] at k
          exact lv_tableIn hx hb hdg (fun n => hc (Or.inl n)) (fun n => hc (Or.inr n)) ho h1 k
        · cases h
    · cases h
  case lookupswitch d ps =>
    simp only [m_br] at h
    split at h
    · split at h
      · rename_i hc
        obtain ⟨h1, h2⟩ := m_jmp h
        rw [h2] at k
        exact lv_lookup hx hb hdg hc rfl h1 k
      · cases h
    · cases h
  all_goals (simp only [m_br, reduceCtorEq] at h)
end SimD
end
section
/-! THE SMALL MACHINE IS THE MACHINE, V: reads of cells -/
def tysL (cA : Nat → ClassId) : List (ClassId × FieldType) := [(cA 0, .int), (cA 1, .boolean), (cA 2, .byte), (cA 3, .object "DoorPaints$Visitor"), (cA 4, .object "DoorPaints$Door"), (cA 5, .object "DoorPaints$Told"), (cA 6, .object "DoorPaints$Sheet")]
/-- a cell that nobody writes -/
def roC (rA : Nat → Nat) (sio : Value) (A : Nat → Prop) (U : State) (G : Heap) (j : Nat) (c : MC) : Prop := match c with
  | .inl o => o.1 = 99 ∧ ∃ v, o.2 = [v, .int 0] ∧ va_O "java/lang/String" (rA (KB + j)) A U G ∧ va_OF "java/lang/String" "value" "[B" (trv rA sio v) (rA (KB + j)) A U G ∧ va_OF "java/lang/String" "coder" "B" (.int 0) (rA (KB + j)) A U G
  | .inr (.inl q) => (q.1 = 0 ∧ va_T .int (rA (KB + j)) q.2.length (fun i => .int (q.2.getD i 0)) A U G) ∨ (q.1 = 2 ∧ va_T .byte (rA (KB + j)) q.2.length (fun i => .int (q.2.getD i 0)) A U G)
  | .inr (.inr _) => False
/-- what is checked of an instruction that reads or writes a field: class, place, the link's word -/
def fldOK (cls : List vw_C) (own : String) (E : MI) (ws : List Cond) (idx : Nat) : Prop :=
  (∃ (C : String) (T : u_T) (N : Nat), cls[E.2.2.2.1]? = some (C, T, N) ∧ E.2.2.2.2.1 < N ∧ Cond.fieldLink own idx (T E.2.2.2.2.1).1 (T E.2.2.2.2.1).2.1 (T E.2.2.2.2.1).2.2.1 ∈ ws) ∨
  (E.2.2.2.1 = 99 ∧ ((E.2.2.2.2.1 = 0 ∧ Cond.fieldLink own idx "java/lang/String" "value" "[B" ∈ ws) ∨ (E.2.2.2.2.1 = 1 ∧ Cond.fieldLink own idx "java/lang/String" "coder" "B" ∈ ws)))
section SimE
variable {p : Program} {l : Launch} {e : Env} {R : Room} {s : State} {m : MethodId} {args : Array Value} {below : List Frame} {meth : Method} {c : Code} {H : Heap} {locs : List Loc} {cells slots : Nat} {Q : State → Prop}
variable {cc : ByteArray} {ls : Array Slot} {nL : Nat} {rA : Nat → Nat} {sio : Value} {A : Nat → Prop} {cA : Nat → ClassId} {dC : Nat → ClassId} {dI : Nat → Nat → Nat} {cls : List vw_C} {b0 : Nat} {ro : Nat → Option MC}
theorem m_in_spec {i : Int32} {n : Nat} (h : m_in i n = true) : vp_in i n := vp_in_iff.mpr (by simpa [m_in] using h)
theorem s_cell {F : MH} {a : Nat} {x : MC} (h : F[a]? = some x) : (wsF (trE rA sio cA) b0 F)[a]? = some (b0 + a, trE rA sio cA x) := by rw [wsF_get, h]; rfl
theorem s_ro_int {i : Int32} {t : Nat} {xs : List Int32} {r : List Value} {pc : Nat} (hx : p.tables.exec = Jvm.exec) (hb : c.code = cc) (hT : va_T .int t xs.length (fun i => .int (xs.getD i 0)) A s s.heap) (hS : va_S A s.heap H locs) (hin : vp_in i xs.length) (hdg : decode cc pc = .ok (.iaload, 1))
    (k : W p l e R s m args below meth c H locs cells slots Q (F0 m (pc + 1) ls (.int (xs.getD i.toNatClampNeg 0) :: r))) : W p l e R s m args below meth c H locs cells slots Q (F0 m pc ls (.int i :: .ref t :: r)) := by
  obtain ⟨cell, h1, h2, h3, h4, h5, h6, h7⟩ := hT.kept hS.2.1
  have hlt : i.toNatClampNeg < xs.length := Nat.not_le.mp fun q => hin (Or.inr q)
  exact W.iald hx hb h1 h2 h3 (fun q => by rcases q with q | q; exact hin (Or.inl q); omega) (h6 _ hlt) rfl rfl hdg k
theorem s_ro_byte {i : Int32} {t : Nat} {xs : List Int32} {r : List Value} {pc : Nat} (hx : p.tables.exec = Jvm.exec) (hb : c.code = cc) (hT : va_T .byte t xs.length (fun i => .int (xs.getD i 0)) A s s.heap) (hS : va_S A s.heap H locs) (hin : vp_in i xs.length) (hdg : decode cc pc = .ok (.baload, 1))
    (k : W p l e R s m args below meth c H locs cells slots Q (F0 m (pc + 1) ls (.int (xs.getD i.toNatClampNeg 0) :: r))) : W p l e R s m args below meth c H locs cells slots Q (F0 m pc ls (.int i :: .ref t :: r)) := by
  obtain ⟨cell, h1, h2, h3, h4, h5, h6, h7⟩ := hT.kept hS.2.1
  have hlt : i.toNatClampNeg < xs.length := Nat.not_le.mp fun q => hin (Or.inr q)
  exact W.bald hx hb h1 h2 h3 (fun q => by rcases q with q | q; exact hin (Or.inl q); omega) (h6 _ hlt) rfl rfl hdg k
theorem s_ro_len {ty : FieldType} {t : Nat} {xs : List Int32} {r : List Value} {pc : Nat} (hx : p.tables.exec = Jvm.exec) (hb : c.code = cc) (hT : va_T ty t xs.length (fun i => .int (xs.getD i 0)) A s s.heap) (hS : va_S A s.heap H locs) (hdg : decode cc pc = .ok (.arraylength, 1))
    (k : W p l e R s m args below meth c H locs cells slots Q (F0 m (pc + 1) ls (.int (Int32.ofNat xs.length) :: r))) : W p l e R s m args below meth c H locs cells slots Q (F0 m pc ls (.ref t :: r)) := by
  obtain ⟨cell, h1, h2, h3, h4, h5, h6, h7⟩ := hT.kept hS.2.1
  exact W.alen hx hb h1 h2 h5 rfl rfl hdg k
theorem trv_ro {a : Nat} {x : MC} (hA : ∀ j y, ro j = some y → j ≠ 100) (ha : ¬ a < KB) (h : ro (a - KB) = some x) : trv rA sio (.ref a) = .ref (rA (KB + (a - KB))) := by
  have h1 := hA _ _ h
  have h2 : ¬ a = KB + 100 := by omega
  simp only [trv, if_neg h2]
  rw [show KB + (a - KB) = a by omega]
theorem trv_rf (hrA : ∀ a, a < KB → rA a = b0 + a) {os : List (Option Nat)} (ho : ∀ o ∈ os, ∀ a, o = some a → a < KB) {j : Nat} (hj : j < os.length) : trv rA sio (va_rf (os.getD j none)) = va_rf ((os.getD j none).map rA) := by
  have hm : os.getD j none ∈ os := by
    rw [List.getD_eq_getElem?_getD, List.getElem?_eq_getElem hj]; exact List.getElem_mem hj
  cases hv : os.getD j none with
  | none => rfl
  | some a =>
    rw [hv] at hm
    exact trv_ref rA sio (ho _ hm a rfl)
/-- references in rows are of cells that are made -/
def rowsOK (F : MH) : Prop := ∀ (a k : Nat) (os : List (Option Nat)), F[a]? = some (.inr (.inr (k, os))) → ∀ o ∈ os, ∀ x, o = some x → x < KB
theorem s_rd (hx : p.tables.exec = Jvm.exec) (hb : c.code = cc) {ws : List Cond} {own : String} (hts : ∀ w ∈ ws, w.before args s = true) (hown : s.vm.findClass own = some m.cls) {E : MI} {F : MH} {st st1 : List Value} (hs : sioOK sio) (hdg : decode cc E.1 = .ok (E.2.1, E.2.2.1)) (hlen : m_len E.2.1 = 0 ∨ m_len E.2.1 = E.2.2.1)
    (hK : va_K (dC, dI) cls (tysL cA) s) (hcl : ∀ (ci : Nat) (q : vw_C), cls[ci]? = some q → ∀ w ∈ u_ws q.1 q.2.1 q.2.2, w ∈ ws) (h99 : cls.length ≤ 99) (hrA : ∀ a, a < KB → rA a = b0 + a) (hR : rowsOK F) (hro : ∀ j x, ro j = some x → roC rA sio A s s.heap j x) (hr1 : ∀ j y, ro j = some y → j ≠ 100)
    (hP : va_P (dC, dI) cls (wsF (trE rA sio cA) b0 F) H) (hS : va_S A s.heap H locs) (hf : ∀ idx, E.2.1 = .getfield idx → fldOK cls own E ws idx) (h : m_rd ro F E st = some st1)
    (k : W p l e R s m args below meth c H locs cells slots Q (F0 m (E.1 + E.2.2.1) ls (trs rA sio st1))) : W p l e R s m args below meth c H locs cells slots Q (F0 m E.1 ls (trs rA sio st)) := by
  obtain ⟨pc, i, len, a0, b1, z⟩ := E
  simp only at hdg hlen k h hf ⊢
  cases i
  case getfield idx =>
    simp only [m_len] at hlen
    obtain rfl : len = 3 := by omega
    have hf := hf idx rfl
    simp only [m_rd] at h
    split at h
    · rename_i a r
      split at h
      · rename_i ci fs hc
        split at h
        · rename_i hci
          split at h
          · rename_i v hv
            cases h
            unfold m_cell at hc
            split at hc
            · rename_i ha
              rcases hf with ⟨C, T, N, q1, q2, q3⟩ | ⟨q1, -⟩
              · simp only at q1 q2 q3
                subst hci
                have e1 : (fs.map (trv rA sio))[b1]? = some (trv rA sio v) := by rw [List.getElem?_map, hv]; rfl
                show W p l e R s m args below meth c H locs cells slots Q (F0 m pc ls (trv rA sio (.ref a) :: trs rA sio r))
                rw [trv_ref rA sio ha, hrA a ha]
                exact va_get (D := (dC, dI)) (ref := (T b1).1) hx hb hts (hcl _ _ q1) hown hK hP a (s_cell hc) q1 b1 q2 (hts _ q3) (fun _ h9 => h9) e1 hdg k
              · simp only at q1
                have := (hP a _ (s_cell hc))
                obtain ⟨rr, g1, -⟩ := this
                have := (List.getElem?_eq_some_iff.mp g1).1
                simp only at this
                omega
            · rename_i ha
              obtain ⟨g1, v0, g2, -, g3, g4⟩ := hro _ _ hc
              simp only at g1 g2
              show W p l e R s m args below meth c H locs cells slots Q (F0 m pc ls (trv rA sio (.ref a) :: trs rA sio r))
              rw [trv_ro hr1 ha hc]
              rcases hf with ⟨C, T, N, q1, -⟩ | ⟨-, ⟨q1, q2⟩ | ⟨q1, q2⟩⟩
              · simp only at q1
                have := (List.getElem?_eq_some_iff.mp q1).1
                omega
              · simp only at q1 q2
                subst q1
                rw [g2] at hv
                simp only [List.getElem?_cons_zero, Option.some.injEq] at hv
                subst hv
                exact vk_getf hx hb g3 hS hown (hts _ q2) (fun _ h9 => h9) hdg k
              · simp only at q1 q2
                subst q1
                rw [g2] at hv
                simp only [List.getElem?_cons_succ, List.getElem?_cons_zero, Option.some.injEq] at hv
                subst hv
                exact vk_getf hx hb g4 hS hown (hts _ q2) (fun _ h9 => h9) hdg k
          · cases h
        · cases h
      · cases h
    · cases h
  case arraylength =>
    simp only [m_len] at hlen
    obtain rfl : len = 1 := by omega
    simp only [m_rd] at h
    split at h
    · rename_i a r
      split at h
      · cases h
      · rename_i ha
        split at h
        · rename_i kk xs hc
          cases h
          show W p l e R s m args below meth c H locs cells slots Q (F0 m pc ls (trv rA sio (.ref a) :: trs rA sio r))
          rw [trv_ro hr1 ha hc]
          rcases hro _ _ hc with ⟨-, g⟩ | ⟨-, g⟩
          · exact s_ro_len hx hb g hS hdg k
          · exact s_ro_len hx hb g hS hdg k
        · cases h
    · cases h
  case iaload =>
    simp only [m_len] at hlen
    obtain rfl : len = 1 := by omega
    simp only [m_rd] at h
    split at h
    · rename_i i a r
      split at h
      · rename_i kk xs hc
        split at h
        · rename_i hq
          cases h
          obtain ⟨rfl, hin⟩ := hq
          show W p l e R s m args below meth c H locs cells slots Q (F0 m pc ls (.int i :: trv rA sio (.ref a) :: trs rA sio r))
          unfold m_cell at hc
          split at hc
          · rename_i ha
            rw [trv_ref rA sio ha, hrA a ha]
            exact va_iald (D := (dC, dI)) hx hb hK hP a 0 (s_cell hc) rfl (m_in_spec hin) hdg k
          · rename_i ha
            rw [trv_ro hr1 ha hc]
            rcases hro _ _ hc with ⟨-, g⟩ | ⟨g0, -⟩
            · exact s_ro_int hx hb g hS (m_in_spec hin) hdg k
            · cases g0
        · cases h
      · cases h
    · cases h
  case baload =>
    simp only [m_len] at hlen
    obtain rfl : len = 1 := by omega
    simp only [m_rd] at h
    split at h
    · rename_i i a r
      split at h
      · rename_i kk xs hc
        split at h
        · rename_i hq
          cases h
          obtain ⟨hk2, hin⟩ := hq
          show W p l e R s m args below meth c H locs cells slots Q (F0 m pc ls (.int i :: trv rA sio (.ref a) :: trs rA sio r))
          unfold m_cell at hc
          split at hc
          · rename_i ha
            rw [trv_ref rA sio ha, hrA a ha]
            rcases hk2 with rfl | rfl
            · exact va_zald (D := (dC, dI)) hx hb hK hP a 1 (s_cell hc) rfl (m_in_spec hin) hdg k
            · exact va_bald (D := (dC, dI)) hx hb hK hP a 2 (s_cell hc) rfl (m_in_spec hin) hdg k
          · rename_i ha
            rw [trv_ro hr1 ha hc]
            rcases hro _ _ hc with ⟨g0, -⟩ | ⟨-, g⟩
            · simp only at g0; omega
            · exact s_ro_byte hx hb g hS (m_in_spec hin) hdg k
        · cases h
      · cases h
    · cases h
  case aaload =>
    simp only [m_len] at hlen
    obtain rfl : len = 1 := by omega
    simp only [m_rd] at h
    split at h
    · rename_i i a r
      split at h
      · rename_i kk os hc
        split at h
        · rename_i hq
          cases h
          obtain ⟨ha, k3, k6, hin⟩ := hq
          unfold m_cell at hc
          rw [if_pos ha] at hc
          have hv := m_in_spec hin
          have hlt : i.toNatClampNeg < os.length := Nat.not_le.mp fun q => hv (Or.inr q)
          show W p l e R s m args below meth c H locs cells slots Q (F0 m pc ls (.int i :: trv rA sio (.ref a) :: trs rA sio r))
          have k : W p l e R s m args below meth c H locs cells slots Q (F0 m (pc + 1) ls (trv rA sio (va_rf (os.getD i.toNatClampNeg none)) :: trs rA sio r)) := k
          rw [trv_rf hrA (hR _ _ _ hc) hlt] at k
          rw [trv_ref rA sio ha, hrA a ha]
          have hc' := s_cell (rA := rA) (sio := sio) (cA := cA) (b0 := b0) hc
          rcases (show kk = 3 ∨ kk = 4 ∨ kk = 5 ∨ kk = 6 by omega) with rfl | rfl | rfl | rfl
          · exact va_aldq (D := (dC, dI)) hx hb hK hP a 3 hc' rfl hv hdg k
          · exact va_aldq (D := (dC, dI)) hx hb hK hP a 4 hc' rfl hv hdg k
          · exact va_aldq (D := (dC, dI)) hx hb hK hP a 5 hc' rfl hv hdg k
          · exact va_aldq (D := (dC, dI)) hx hb hK hP a 6 hc' rfl hv hdg k
        · cases h
      · cases h
    · cases h
  all_goals (simp only [m_rd, reduceCtorEq] at h)
end SimE
end
section
/-! THE SMALL MACHINE IS THE MACHINE, VI: writes, new cells -/
def mzC (c : MC) : Nat := match c with
  | .inl o => o.2.length
  | .inr (.inl q) => q.2.length
  | .inr (.inr q) => q.2.length
def mz (F : MH) : Nat := (F.map mzC).sum
theorem mz_app (F : MH) (c : MC) : mz (F ++ [c]) = mz F + mzC c := by simp [mz]
theorem mz_set : ∀ (F : MH) (a : Nat) (c0 c : MC), F[a]? = some c0 → mzC c = mzC c0 → mz (F.set a c) = mz F
  | [], a, c0, c, h, _ => by simp at h
  | x :: t, 0, c0, c, h, he => by
    simp only [List.getElem?_cons_zero, Option.some.injEq] at h
    subst h
    simp only [List.set_cons_zero, mz, List.map_cons, List.sum_cons, he]
  | x :: t, a + 1, c0, c, h, he => by
    rw [List.getElem?_cons_succ] at h
    have := mz_set t a c0 c h he
    simp only [mz] at this
    simp only [List.set_cons_succ, mz, List.map_cons, List.sum_cons, this]
/-- the classes' tables: types of fields, names apart, what a new object holds, the words -/
def clsOK (cls : List vw_C) (fty : Nat → Nat → FieldType) (dfl : Nat → List Value) (ws : List Cond) : Prop :=
  ∀ (ci : Nat) (q : vw_C), cls[ci]? = some q → (∀ w ∈ u_ws q.1 q.2.1 q.2.2, w ∈ ws) ∧ (∀ k, k < q.2.2 → parseFieldDescriptor (q.2.1 k).2.2.1 = some (fty ci k)) ∧ (∀ a, a < q.2.2 → ∀ b, b < q.2.2 → a ≠ b → (q.2.1 a).2.1 ≠ (q.2.1 b).2.1) ∧
    (dfl ci).length = q.2.2 ∧ (∀ j, j < q.2.2 → (dfl ci)[j]? = some (defaultValue (fty ci j)) ∧ ∀ rA sio, trv rA sio (defaultValue (fty ci j)) = defaultValue (fty ci j)) ∧ Cond.instantiable q.1 q.2.2 ∈ ws ∧ Cond.initialized q.1 ∈ ws
/-- a final field is put in its class's constructor alone -/
def finOK (cls : List vw_C) (y : MethodName) (E : MI) : Prop := ∀ (C : String) (T : u_T) (N : Nat), cls[E.2.2.2.1]? = some (C, T, N) → (T E.2.2.2.2.1).2.2.2 = false ∨ ((T E.2.2.2.2.1).2.2.2 = true ∧ y.name = "<init>" ∧ (T E.2.2.2.2.1).1 = y.cls)
/-- what is checked of an instruction that makes cells -/
def newOK (cls : List vw_C) (own : String) (E : MI) (ws : List Cond) : Prop := match E.2.1 with
  | .new idx => ∃ q, cls[E.2.2.2.1]? = some q ∧ Cond.classLink own idx q.1 ∈ ws
  | .newarray _ => Cond.arrayClass .int ∈ ws ∧ Cond.arrayClass .boolean ∈ ws
  | .anewarray idx => (E.2.2.2.1 = 3 ∧ Cond.classLink own idx "DoorPaints$Visitor" ∈ ws) ∨ (E.2.2.2.1 = 4 ∧ Cond.classLink own idx "DoorPaints$Door" ∈ ws) ∨ (E.2.2.2.1 = 5 ∧ Cond.classLink own idx "DoorPaints$Told" ∈ ws) ∨ (E.2.2.2.1 = 6 ∧ Cond.classLink own idx "DoorPaints$Sheet" ∈ ws)
  | .aastore => ∃ q, cls[E.2.2.2.1]? = some q ∧ ((E.2.2.2.2.1 = 3 ∧ q.1 = "DoorPaints$Visitor") ∨ (E.2.2.2.2.1 = 4 ∧ q.1 = "DoorPaints$Door") ∨ (E.2.2.2.2.1 = 5 ∧ q.1 = "DoorPaints$Told") ∨ (E.2.2.2.2.1 = 6 ∧ q.1 = "DoorPaints$Sheet"))
  | _ => True
section SimF
variable {p : Program} {l : Launch} {e : Env} {R : Room} {s : State} {m : MethodId} {args : Array Value} {below : List Frame} {meth : Method} {c : Code} {H : Heap} {locs : List Loc} {cells slots : Nat} {Q : State → Prop}
variable {cc : ByteArray} {ls : Array Slot} {nL : Nat} {rA : Nat → Nat} {sio : Value} {cA : Nat → ClassId} {dC : Nat → ClassId} {dI : Nat → Nat → Nat} {cls : List vw_C} {b0 : Nat}
theorem W.size {g : JFrame} (k : H.size ≤ s.heap.size + cells → W p l e R s m args below meth c H locs cells slots Q g) : W p l e R s m args below meth c H locs cells slots Q g :=
  fun T hT X => k (by rw [← hT]; exact X.heapSize) T hT X
theorem fits_trv (hs : sioOK sio) {ty : FieldType} {v : Value} (hf : fits ty v = true) (hn : narrow ty v = v) : fits ty (trv rA sio v) = true ∧ narrow ty (trv rA sio v) = trv rA sio v := by
  cases v with
  | ref a =>
    have h4 : sioOK (trv rA sio (.ref a)) := trv_sio hs a
    rcases h4 with h4 | ⟨y, h4⟩ <;> rw [h4] <;> cases ty <;> simp_all [fits, narrow]
  | _ => exact ⟨hf, hn⟩
theorem va_S.own {A : Nat → Prop} {H0 : Heap} (h : va_S A H0 H locs) : va_S A H H locs := ⟨Nat.le_refl _, fun _ _ _ => rfl, h.2.2⟩
theorem va_S.thru {A : Nat → Prop} {H0 H1 : Heap} {l1 : List Loc} (h : va_S A H0 H locs) (h1 : va_S A H H1 l1) : va_S A H0 H1 l1 := ⟨Nat.le_trans h.1 h1.1, fun q a b => (h1.2.1 q (Nat.lt_of_lt_of_le a h.1) b).trans (h.2.1 q a b), h1.2.2⟩
theorem s_putf (hx : p.tables.exec = Jvm.exec) (hb : c.code = cc) {ws : List Cond} {y : MethodName} (hts : ∀ w ∈ ws, w.before args s = true) (hown : s.vm.findClass y.cls = some m.cls) (hmn : meth.name = y.name) {pc idx a ci kf : Nat} {fs : List Value} {F : MH} {v : Value} {r : List Value} {fty : Nat → Nat → FieldType} {dfl : Nat → List Value} (hs : sioOK sio) (hdg : decode cc pc = .ok (.putfield idx, 3))
    (hK : va_K (dC, dI) cls (tysL cA) s) (hcl : clsOK cls fty dfl ws) {C : String} {T : u_T} {N : Nat} (q1 : cls[ci]? = some (C, T, N)) (q2 : kf < N) (q3 : Cond.fieldLink y.cls idx (T kf).1 (T kf).2.1 (T kf).2.2.1 ∈ ws)
    (hfin : (T kf).2.2.2 = false ∨ ((T kf).2.2.2 = true ∧ y.name = "<init>" ∧ (T kf).1 = y.cls)) (hrA : ∀ a, a < KB → rA a = b0 + a) (hP : va_P (dC, dI) cls (wsF (trE rA sio cA) b0 F) H) (hS : va_S (fun q => b0 ≤ q) s.heap H locs) (ha : a < KB) (hc : F[a]? = some (.inl (ci, fs))) (hkf : kf < fs.length) (hn : narrow (fty ci kf) v = v) (hf : fits (fty ci kf) v = true) (hsz : b0 + F.length ≤ H.size)
    (k : ∀ (H1 : Heap) (l1 : List Loc), va_P (dC, dI) cls (wsF (trE rA sio cA) b0 (F.set a (.inl (ci, fs.set kf v)))) H1 → b0 + (F.set a (.inl (ci, fs.set kf v))).length ≤ H1.size → va_S (fun q => b0 ≤ q) s.heap H1 l1 → W p l e R s m args below meth c H1 l1 cells slots Q (F0 m (pc + 3) ls (trs rA sio r))) :
    W p l e R s m args below meth c H locs cells slots Q (F0 m pc ls (trs rA sio (v :: .ref a :: r))) := by
  obtain ⟨g1, g2, g3, -⟩ := hcl ci _ q1
  simp only at g1 g2 g3
  obtain ⟨hf', hn'⟩ := fits_trv (rA := rA) (sio := sio) hs hf hn
  have hl : kf < (fs.map (trv rA sio)).length := by rw [List.length_map]; exact hkf
  have hD := wsF_D (trE rA sio cA) (A := fun q => b0 ≤ q) (b := b0) (fun _ h => h) F
  have e1 : (wsF (trE rA sio cA) b0 F).set a (b0 + a, .inr (ci, (fs.map (trv rA sio)).set kf (trv rA sio v))) = wsF (trE rA sio cA) b0 (F.set a (.inl (ci, fs.set kf v))) := by
    rw [← wsF_set]
    show _ = (wsF (trE rA sio cA) b0 F).set a (b0 + a, .inr (ci, (fs.set kf v).map (trv rA sio)))
    rw [List.map_set]
  show W p l e R s m args below meth c H locs cells slots Q (F0 m pc ls (trv rA sio v :: trv rA sio (.ref a) :: trs rA sio r))
  rw [trv_ref rA sio ha, hrA a ha]
  have kk : ∀ (H1 : Heap) (l1 : List Loc), va_P (dC, dI) cls ((wsF (trE rA sio cA) b0 F).set a (b0 + a, .inr (ci, (fs.map (trv rA sio)).set kf (trv rA sio v)))) H1 → va_D (fun q => b0 ≤ q) ((wsF (trE rA sio cA) b0 F).set a (b0 + a, .inr (ci, (fs.map (trv rA sio)).set kf (trv rA sio v)))) → va_S (fun q => b0 ≤ q) H H1 l1 → W p l e R s m args below meth c H1 l1 cells slots Q (F0 m (pc + 3) ls (trs rA sio r)) := by
    intro H1 l1 h1 h2 h3
    rw [e1] at h1
    exact k H1 l1 h1 (by rw [List.length_set]; exact Nat.le_trans hsz h3.1) (hS.thru h3)
  rcases hfin with z | ⟨z1, z2, z3⟩
  · exact va_put (D := (dC, dI)) (ref := (T kf).1) hx hb hts g1 (fty ci) g2 g3 hown hK hP hD hS.own a (s_cell hc) q1 kf q2 (hts _ q3) (fun _ h9 => h9) z (g2 kf q2) hn' hf' hl hdg kk
  · exact va_putF (D := (dC, dI)) (ref := (T kf).1) hx hb hts g1 (fty ci) g2 g3 hown hK hP hD hS.own a (s_cell hc) q1 kf q2 (hts _ q3) (fun _ h9 => h9) z1 (hmn.trans z2) z3 (g2 kf q2) hn' hf' hl hdg kk
theorem s_iast (hx : p.tables.exec = Jvm.exec) (hb : c.code = cc) {pc a : Nat} {i x : Int32} {xs : List Int32} {F : MH} {r : List Value} (hdg : decode cc pc = .ok (.iastore, 1)) (hK : va_K (dC, dI) cls (tysL cA) s) (hrA : ∀ a, a < KB → rA a = b0 + a) (hP : va_P (dC, dI) cls (wsF (trE rA sio cA) b0 F) H) (hS : va_S (fun q => b0 ≤ q) s.heap H locs) (ha : a < KB) (hc : F[a]? = some (.inr (.inl (0, xs)))) (hin : m_in i xs.length = true) (hsz : b0 + F.length ≤ H.size)
    (k : ∀ (H1 : Heap) (l1 : List Loc), va_P (dC, dI) cls (wsF (trE rA sio cA) b0 (F.set a (.inr (.inl (0, xs.set i.toNatClampNeg x))))) H1 → b0 + (F.set a (.inr (.inl (0, xs.set i.toNatClampNeg x)))).length ≤ H1.size → va_S (fun q => b0 ≤ q) s.heap H1 l1 → W p l e R s m args below meth c H1 l1 cells slots Q (F0 m (pc + 1) ls (trs rA sio r))) :
    W p l e R s m args below meth c H locs cells slots Q (F0 m pc ls (trs rA sio (.int x :: .int i :: .ref a :: r))) := by
  have hv := m_in_spec hin
  have hlt : i.toNatClampNeg < xs.length := Nat.not_le.mp fun q => hv (Or.inr q)
  have hD := wsF_D (trE rA sio cA) (A := fun q => b0 ≤ q) (b := b0) (fun _ h => h) F
  have e0 : upd (fun j => xs.getD j 0) i.toNatClampNeg x = fun j => (xs.set i.toNatClampNeg x).getD j 0 := by
    funext j
    rw [set_getD x hlt]
    rfl
  show W p l e R s m args below meth c H locs cells slots Q (F0 m pc ls (.int x :: .int i :: trv rA sio (.ref a) :: trs rA sio r))
  rw [trv_ref rA sio ha, hrA a ha]
  refine va_iast (D := (dC, dI)) hx hb hK hP hD hS.own a 0 (s_cell hc) rfl hv hdg fun H1 l1 h1 h2 h3 => ?_
  refine k H1 l1 ?_ (by rw [List.length_set]; exact Nat.le_trans hsz h3.1) (hS.thru h3)
  rw [← wsF_set]
  show va_P (dC, dI) cls ((wsF (trE rA sio cA) b0 F).set a (b0 + a, .inl (cA 0, (xs.set i.toNatClampNeg x).length, .inl (fun j => (xs.set i.toNatClampNeg x).getD j 0)))) H1
  rw [← e0, List.length_set]
  exact h1
theorem s_zast (hx : p.tables.exec = Jvm.exec) (hb : c.code = cc) {pc a : Nat} {i x : Int32} {xs : List Int32} {F : MH} {r : List Value} (hdg : decode cc pc = .ok (.bastore, 1)) (hK : va_K (dC, dI) cls (tysL cA) s) (hrA : ∀ a, a < KB → rA a = b0 + a) (hP : va_P (dC, dI) cls (wsF (trE rA sio cA) b0 F) H) (hS : va_S (fun q => b0 ≤ q) s.heap H locs) (ha : a < KB) (hc : F[a]? = some (.inr (.inl (1, xs)))) (hin : m_in i xs.length = true) (hsz : b0 + F.length ≤ H.size)
    (k : ∀ (H1 : Heap) (l1 : List Loc), va_P (dC, dI) cls (wsF (trE rA sio cA) b0 (F.set a (.inr (.inl (1, xs.set i.toNatClampNeg (vp_nar .boolean x)))))) H1 → b0 + (F.set a (.inr (.inl (1, xs.set i.toNatClampNeg (vp_nar .boolean x))))).length ≤ H1.size → va_S (fun q => b0 ≤ q) s.heap H1 l1 → W p l e R s m args below meth c H1 l1 cells slots Q (F0 m (pc + 1) ls (trs rA sio r))) :
    W p l e R s m args below meth c H locs cells slots Q (F0 m pc ls (trs rA sio (.int x :: .int i :: .ref a :: r))) := by
  have hv := m_in_spec hin
  have hlt : i.toNatClampNeg < xs.length := Nat.not_le.mp fun q => hv (Or.inr q)
  have hD := wsF_D (trE rA sio cA) (A := fun q => b0 ≤ q) (b := b0) (fun _ h => h) F
  have e0 : upd (fun j => xs.getD j 0) i.toNatClampNeg (vp_nar .boolean x) = fun j => (xs.set i.toNatClampNeg (vp_nar .boolean x)).getD j 0 := by
    funext j
    rw [set_getD _ hlt]
    rfl
  show W p l e R s m args below meth c H locs cells slots Q (F0 m pc ls (.int x :: .int i :: trv rA sio (.ref a) :: trs rA sio r))
  rw [trv_ref rA sio ha, hrA a ha]
  refine va_zast (D := (dC, dI)) hx hb hK hP hD hS.own a 1 (s_cell hc) rfl hv hdg fun H1 l1 h1 h2 h3 => ?_
  refine k H1 l1 ?_ (by rw [List.length_set]; exact Nat.le_trans hsz h3.1) (hS.thru h3)
  rw [← wsF_set]
  show va_P (dC, dI) cls ((wsF (trE rA sio cA) b0 F).set a (b0 + a, .inl (cA 1, (xs.set i.toNatClampNeg (vp_nar .boolean x)).length, .inl (fun j => (xs.set i.toNatClampNeg (vp_nar .boolean x)).getD j 0)))) H1
  rw [← e0, List.length_set]
  exact h1
theorem s_aast (hx : p.tables.exec = Jvm.exec) (hb : c.code = cc) {pc a o kk ci : Nat} {i : Int32} {os : List (Option Nat)} {vs : List Value} {F : MH} {r : List Value} (hdg : decode cc pc = .ok (.aastore, 1)) (hK : va_K (dC, dI) cls (tysL cA) s) (hrA : ∀ a, a < KB → rA a = b0 + a) (hP : va_P (dC, dI) cls (wsF (trE rA sio cA) b0 F) H) (hS : va_S (fun q => b0 ≤ q) s.heap H locs) (ha : a < KB) (ho : o < KB) (hc : F[a]? = some (.inr (.inr (kk, os)))) (hco : F[o]? = some (.inl (ci, vs))) {q : vw_C} (hq : cls[ci]? = some q) (ht : (tysL cA)[kk]? = some (cA kk, .object q.1)) (hin : m_in i os.length = true) (hsz : b0 + F.length ≤ H.size)
    (k : ∀ (H1 : Heap) (l1 : List Loc), va_P (dC, dI) cls (wsF (trE rA sio cA) b0 (F.set a (.inr (.inr (kk, os.set i.toNatClampNeg (some o)))))) H1 → b0 + (F.set a (.inr (.inr (kk, os.set i.toNatClampNeg (some o))))).length ≤ H1.size → va_S (fun q => b0 ≤ q) s.heap H1 l1 → W p l e R s m args below meth c H1 l1 cells slots Q (F0 m (pc + 1) ls (trs rA sio r))) :
    W p l e R s m args below meth c H locs cells slots Q (F0 m pc ls (trs rA sio (.ref o :: .int i :: .ref a :: r))) := by
  have hv := m_in_spec hin
  have hlt : i.toNatClampNeg < os.length := Nat.not_le.mp fun q => hv (Or.inr q)
  have hD := wsF_D (trE rA sio cA) (A := fun q => b0 ≤ q) (b := b0) (fun _ h => h) F
  have e0 : va_up (fun j => (os.getD j none).map rA) i.toNatClampNeg (some (b0 + o)) = fun j => ((os.set i.toNatClampNeg (some o)).getD j none).map rA := by
    funext j
    simp only [va_up, List.getD_eq_getElem?_getD, List.getElem?_set]
    by_cases hj : j = i.toNatClampNeg
    · subst hj
      rw [if_pos rfl, if_pos rfl, if_pos hlt]
      show some (b0 + o) = some (rA o)
      rw [hrA o ho]
    · rw [if_neg hj, if_neg (fun z => hj z.symm)]
  show W p l e R s m args below meth c H locs cells slots Q (F0 m pc ls (trv rA sio (.ref o) :: .int i :: trv rA sio (.ref a) :: trs rA sio r))
  rw [trv_ref rA sio ha, hrA a ha, trv_ref rA sio ho, hrA o ho]
  refine va_astq (D := (dC, dI)) hx hb hK hP hD hS.own a kk o ci (s_cell hc) ht (s_cell hco) hq hv hdg fun H1 l1 h1 h2 h3 => ?_
  refine k H1 l1 ?_ (by rw [List.length_set]; exact Nat.le_trans hsz h3.1) (hS.thru h3)
  rw [← wsF_set]
  show va_P (dC, dI) cls ((wsF (trE rA sio cA) b0 F).set a (b0 + a, .inl (cA kk, (os.set i.toNatClampNeg (some o)).length, .inr (.inr (.inr (.inr (fun j => ((os.set i.toNatClampNeg (some o)).getD j none).map rA))))))) H1
  rw [← e0, List.length_set]
  exact h1
end SimF
end
section
/-! THE SMALL MACHINE IS THE MACHINE, VII: new cells; all writes together -/
section SimG
variable {p : Program} {l : Launch} {e : Env} {R : Room} {s : State} {m : MethodId} {args : Array Value} {below : List Frame} {meth : Method} {c : Code} {H : Heap} {locs : List Loc} {cells slots : Nat} {Q : State → Prop}
variable {cc : ByteArray} {ls : Array Slot} {nL : Nat} {rA : Nat → Nat} {sio : Value} {cA : Nat → ClassId} {dC : Nat → ClassId} {dI : Nat → Nat → Nat} {cls : List vw_C} {b0 : Nat}
/-- where a new cell lies -/
theorem new_at {F : MH} {q : Nat} {E : va_E} {H1 : Heap} (hP : va_P (dC, dI) cls (wsF (trE rA sio cA) b0 F ++ [(q, E)]) H1) (hD : va_D (fun q => b0 ≤ q) (wsF (trE rA sio cA) b0 F ++ [(q, E)])) (hz : H1.size ≤ b0 + F.length + 1) : q = b0 + F.length ∧ b0 + F.length + 1 ≤ H1.size := by
  have hl : (wsF (trE rA sio cA) b0 F).length = F.length := by
    have : ∀ (F : MH) (b : Nat), (wsF (trE rA sio cA) b F).length = F.length := by
      intro F
      induction F with
      | nil => intro b; rfl
      | cons x t ih => intro b; simp only [wsF, List.length_cons, ih]
    exact this F b0
  have h1 : (wsF (trE rA sio cA) b0 F ++ [(q, E)])[F.length]? = some (q, E) := by
    rw [List.getElem?_append_right (by omega), hl, Nat.sub_self]; rfl
  have h2 : q < H1.size := (hP _ _ h1).lt
  have h3 : b0 ≤ q := hD.2 _ _ h1
  have h4 : ¬ q < b0 + F.length := by
    intro hlt
    obtain ⟨x, hx⟩ : ∃ x, F[q - b0]? = some x := ⟨_, List.getElem?_eq_getElem (by omega)⟩
    have h5 : (wsF (trE rA sio cA) b0 F ++ [(q, E)])[q - b0]? = some (b0 + (q - b0), trE rA sio cA x) := by
      rw [List.getElem?_append_left (by omega)]; exact s_cell hx
    have := hD.1 _ _ _ _ h5 h1 (by simp only; omega)
    omega
  omega
theorem s_new (hx : p.tables.exec = Jvm.exec) (hb : c.code = cc) {ws : List Cond} {own : String} (hts : ∀ w ∈ ws, w.before args s = true) (hown : s.vm.findClass own = some m.cls) {pc idx ci : Nat} {F : MH} {st : List Value} {fty : Nat → Nat → FieldType} {dfl : Nat → List Value} (hdg : decode cc pc = .ok (.new idx, 3))
    (hK : va_K (dC, dI) cls (tysL cA) s) (hcl : clsOK cls fty dfl ws) {q : vw_C} (q1 : cls[ci]? = some q) (q2 : Cond.classLink own idx q.1 ∈ ws) (hrA : ∀ a, a < KB → rA a = b0 + a) (hP : va_P (dC, dI) cls (wsF (trE rA sio cA) b0 F) H) (hS : va_S (fun q => b0 ≤ q) s.heap H locs) (hF : F.length < KB) (hI : s.heap.size + cells = b0 + F.length) (hsz : b0 + F.length ≤ H.size) (hc1 : cells + 1 ≤ R.cells) (hs1 : slots + (dfl ci).length ≤ R.slots)
    (k : ∀ (H1 : Heap), va_P (dC, dI) cls (wsF (trE rA sio cA) b0 (F ++ [.inl (ci, dfl ci)])) H1 → b0 + (F ++ [(.inl (ci, dfl ci) : MC)]).length ≤ H1.size → va_S (fun q => b0 ≤ q) s.heap H1 locs → W p l e R s m args below meth c H1 locs (cells + 1) (slots + (dfl ci).length) Q (F0 m (pc + 3) ls (trs rA sio (.ref F.length :: st)))) :
    W p l e R s m args below meth c H locs cells slots Q (F0 m pc ls (trs rA sio st)) := by
  obtain ⟨C, T, N⟩ := q
  obtain ⟨g1, g2, g3, g4, g5, g6, g7⟩ := hcl ci _ q1
  simp only at g1 g2 g3 g4 g5 g6 g7 q2
  have hD := wsF_D (trE rA sio cA) (A := fun q => b0 ≤ q) (b := b0) (fun _ h => h) F
  have em : (dfl ci).map (trv rA sio) = dfl ci := by
    apply List.ext_getElem?
    intro j
    rw [List.getElem?_map]
    by_cases hj : j < N
    · rw [(g5 j hj).1]
      show some (trv rA sio _) = _
      rw [(g5 j hj).2 rA sio]
    · rw [List.getElem?_eq_none (by omega)]; rfl
  have hd : ∀ j, j < N → defaultValue (fty ci j) = vp_V (dfl ci) j := by
    intro j hj
    unfold vp_V
    rw [List.getD_eq_getElem?_getD, (g5 j hj).1]; rfl
  rw [g4] at hs1 k
  refine va_new (D := (dC, dI)) hx hb hts g1 (fty ci) g2 hown (hts _ q2) (hts _ g6) (hts _ g7) hK hP hD hS.own (fun x hx => Nat.le_trans (Nat.le_trans (Nat.le_add_right _ _) hsz) hx) q1 hd hc1 hs1 hdg fun q H1 h1 h2 h3 => ?_
  refine W.size fun hz => ?_
  obtain ⟨z1, z2⟩ := new_at h1 h2 (by omega)
  subst z1
  have k := k H1 (by rw [wsF_app]; show va_P (dC, dI) cls (_ ++ [(_, .inr (ci, (dfl ci).map (trv rA sio)))]) H1; rw [em]; exact h1) (by rw [List.length_append]; exact z2) (hS.thru h3)
  have k : W p l e R s m args below meth c H1 locs (cells + 1) (slots + N) Q (F0 m (pc + 3) ls (trv rA sio (.ref F.length) :: trs rA sio st)) := k
  rw [trv_ref rA sio hF, hrA _ hF] at k
  exact k
theorem s_newa (hx : p.tables.exec = Jvm.exec) (hb : c.code = cc) {ws : List Cond} (hts : ∀ w ∈ ws, w.before args s = true) {pc kk : Nat} {at' : ArrayType} {n : Int32} {F : MH} {st : List Value} (hdg : decode cc pc = .ok (.newarray at', 2))
    (hK : va_K (dC, dI) cls (tysL cA) s) (hw : Cond.arrayClass .int ∈ ws ∧ Cond.arrayClass .boolean ∈ ws) (hk : (at' = .int ∧ kk = 0) ∨ (at' = .boolean ∧ kk = 1)) (hn0 : 0 ≤ n.toInt) (hn1 : n.toInt ≤ 100000) (hrA : ∀ a, a < KB → rA a = b0 + a) (hP : va_P (dC, dI) cls (wsF (trE rA sio cA) b0 F) H) (hS : va_S (fun q => b0 ≤ q) s.heap H locs) (hF : F.length < KB) (hI : s.heap.size + cells = b0 + F.length) (hsz : b0 + F.length ≤ H.size) (hc1 : cells + 1 ≤ R.cells) (hs1 : slots + n.toNatClampNeg ≤ R.slots)
    (k : ∀ (H1 : Heap), va_P (dC, dI) cls (wsF (trE rA sio cA) b0 (F ++ [.inr (.inl (kk, List.replicate n.toNatClampNeg 0))])) H1 → b0 + (F ++ [(.inr (.inl (kk, List.replicate n.toNatClampNeg 0)) : MC)]).length ≤ H1.size → va_S (fun q => b0 ≤ q) s.heap H1 locs → W p l e R s m args below meth c H1 locs (cells + 1) (slots + n.toNatClampNeg) Q (F0 m (pc + 2) ls (trs rA sio (.ref F.length :: st)))) :
    W p l e R s m args below meth c H locs cells slots Q (F0 m pc ls (trs rA sio (.int n :: st))) := by
  have hD := wsF_D (trE rA sio cA) (A := fun q => b0 ≤ q) (b := b0) (fun _ h => h) F
  have hneg : ¬ n < 0 := by rw [Int32.lt_iff_toInt_lt, Int32.toInt_zero]; omega
  have hsmall : n.toNatClampNeg ≤ 100000 := by
    have : (n.toNatClampNeg : Int) = n.toInt := by
      show ((n.toInt.toNat : Nat) : Int) = n.toInt
      omega
    omega
  have er : (fun j => (List.replicate n.toNatClampNeg (0 : Int32)).getD j 0) = fun _ => 0 := by
    funext j
    rw [List.getD_eq_getElem?_getD, List.getElem?_replicate]
    split <;> rfl
  have key : ∀ (ty : FieldType) (t0 : Nat), newarray.typeOf at' = ty → (tysL cA)[t0]? = some (cA t0, ty) → t0 = kk → (∀ cA' : ClassId, va_RA s cA' ty = (s.vm.findClass ("[" ++ ty.toString) = some cA')) → Cond.arrayClass (newarray.typeOf at') ∈ ws → (∀ cA' : ClassId, vp_cell cA' (n.toNatClampNeg, .inl (fun _ => 0)) = arrV cA' n.toNatClampNeg (fun _ => defaultValue ty)) → componentBytes ty ≤ 4 → W p l e R s m args below meth c H locs cells slots Q (F0 m pc ls (.int n :: trs rA sio st)) := by
    intro ty t0 e1 e2 e3 e4 e5 e6 e7
    subst e3
    refine va_newa (D := (dC, dI)) hx hb (hts _ e5) e1 hK hP hD hS.own (fun x hx => Nat.le_trans (Nat.le_trans (Nat.le_add_right _ _) hsz) hx) e6 hneg rfl (Nat.le_trans (Nat.mul_le_mul hsmall e7) (by decide)) hc1 hs1 hdg fun q cN H1 hK1 h1 h2 h3 => ?_
    refine W.size fun hz => ?_
    obtain ⟨z1, z2⟩ := new_at h1 h2 (by omega)
    subst z1
    have f1 : cN = cA t0 := by
      have a1 := (hK1.2 7 (cN, ty) rfl).2
      have a2 := (hK.2 t0 _ e2).2
      simp only at a1 a2
      rw [e4] at a1 a2
      exact Option.some.inj (a1.symm.trans a2)
    subst f1
    have k := k H1 (by rw [wsF_app]; show va_P (dC, dI) cls (_ ++ [(_, .inl (cA t0, (List.replicate n.toNatClampNeg (0 : Int32)).length, .inl (fun j => (List.replicate n.toNatClampNeg (0 : Int32)).getD j 0)))]) H1; rw [er, List.length_replicate]; exact h1) (by rw [List.length_append]; exact z2) (hS.thru h3)
    have k : W p l e R s m args below meth c H1 locs (cells + 1) (slots + n.toNatClampNeg) Q (F0 m (pc + 2) ls (trv rA sio (.ref F.length) :: trs rA sio st)) := k
    rw [trv_ref rA sio hF, hrA _ hF] at k
    exact k
  rcases hk with ⟨rfl, rfl⟩ | ⟨rfl, rfl⟩
  · exact key .int 0 rfl rfl rfl (fun _ => rfl) hw.1 (fun _ => rfl) (by decide)
  · exact key .boolean 1 rfl rfl rfl (fun _ => rfl) hw.2 (fun _ => rfl) (by decide)
theorem s_anew (hx : p.tables.exec = Jvm.exec) (hb : c.code = cc) {ws : List Cond} {own C : String} (hts : ∀ w ∈ ws, w.before args s = true) (hown : s.vm.findClass own = some m.cls) {pc kk idx : Nat} {n : Int32} {F : MH} {st : List Value} (hdg : decode cc pc = .ok (.anewarray idx, 3))
    (hK : va_K (dC, dI) cls (tysL cA) s) (hw1 : Cond.classLink own idx C ∈ ws) (hw2 : va_AO C s) (ht : (tysL cA)[kk]? = some (cA kk, .object C)) (hn0 : 0 ≤ n.toInt) (hn1 : n.toInt ≤ 100000) (hrA : ∀ a, a < KB → rA a = b0 + a) (hP : va_P (dC, dI) cls (wsF (trE rA sio cA) b0 F) H) (hS : va_S (fun q => b0 ≤ q) s.heap H locs) (hF : F.length < KB) (hI : s.heap.size + cells = b0 + F.length) (hsz : b0 + F.length ≤ H.size) (hc1 : cells + 1 ≤ R.cells) (hs1 : slots + n.toNatClampNeg ≤ R.slots)
    (k : ∀ (H1 : Heap), va_P (dC, dI) cls (wsF (trE rA sio cA) b0 (F ++ [.inr (.inr (kk, List.replicate n.toNatClampNeg none))])) H1 → b0 + (F ++ [(.inr (.inr (kk, List.replicate n.toNatClampNeg none)) : MC)]).length ≤ H1.size → va_S (fun q => b0 ≤ q) s.heap H1 locs → W p l e R s m args below meth c H1 locs (cells + 1) (slots + n.toNatClampNeg) Q (F0 m (pc + 3) ls (trs rA sio (.ref F.length :: st)))) :
    W p l e R s m args below meth c H locs cells slots Q (F0 m pc ls (trs rA sio (.int n :: st))) := by
  have hD := wsF_D (trE rA sio cA) (A := fun q => b0 ≤ q) (b := b0) (fun _ h => h) F
  have hneg : ¬ n < 0 := by rw [Int32.lt_iff_toInt_lt, Int32.toInt_zero]; omega
  have hsmall : n.toNatClampNeg ≤ 100000 := by
    have : (n.toNatClampNeg : Int) = n.toInt := by
      show ((n.toInt.toNat : Nat) : Int) = n.toInt
      omega
    omega
  have er : (fun j => ((List.replicate n.toNatClampNeg (none : Option Nat)).getD j none).map rA) = fun _ => none := by
    funext j
    rw [List.getD_eq_getElem?_getD, List.getElem?_replicate]
    split <;> rfl
  refine va_newq (D := (dC, dI)) hx hb hown (hts _ hw1) hw2 hK hP hD hS.own (fun x hx => Nat.le_trans (Nat.le_trans (Nat.le_add_right _ _) hsz) hx) hneg rfl (by omega) hc1 hs1 hdg fun q cN H1 hK1 h1 h2 h3 => ?_
  refine W.size fun hz => ?_
  obtain ⟨z1, z2⟩ := new_at h1 h2 (by omega)
  subst z1
  have f1 : cN = cA kk := by
    obtain ⟨_, _, -, -, -, a1⟩ := (hK1.2 7 (cN, .object C) rfl).2
    obtain ⟨_, _, -, -, -, a2⟩ := (hK.2 kk _ ht).2
    exact Option.some.inj (a1.symm.trans a2)
  subst f1
  have k := k H1 (by rw [wsF_app]; show va_P (dC, dI) cls (_ ++ [(_, .inl (cA kk, (List.replicate n.toNatClampNeg (none : Option Nat)).length, .inr (.inr (.inr (.inr (fun j => ((List.replicate n.toNatClampNeg (none : Option Nat)).getD j none).map rA))))))]) H1; rw [er, List.length_replicate]; exact h1) (by rw [List.length_append]; exact z2) (hS.thru h3)
  have k : W p l e R s m args below meth c H1 locs (cells + 1) (slots + n.toNatClampNeg) Q (F0 m (pc + 3) ls (trv rA sio (.ref F.length) :: trs rA sio st)) := k
  rw [trv_ref rA sio hF, hrA _ hF] at k
  exact k
end SimG
end
section
/-! THE SMALL MACHINE IS THE MACHINE, VIII: what holds at every method's start; constants; writes; growth -/
def aoC : List String := ["DoorPaints$Visitor", "DoorPaints$Door", "DoorPaints$Told", "DoorPaints$Sheet"]
abbrev StrT : Type := List (String × Nat × Nat)
abbrev NestT : Type := List (String × Nat × MethodName × String)
def CTX (cls : List vw_C) (strT : StrT) (nestT : NestT) (ro : Nat → Option MC) (rA : Nat → Nat) (sio : Value) (b0 : Nat) (dC : Nat → ClassId) (dI : Nat → Nat → Nat) (cA : Nat → ClassId) (U : State) : Prop :=
  va_K (dC, dI) cls (tysL cA) U ∧ (∀ j x, ro j = some x → roC rA sio (fun q => b0 ≤ q) U U.heap j x) ∧ va_Z "java/lang/String" "COMPACT_STRINGS" "Z" (.int 1) (fun q => b0 ≤ q) U U.heap ∧ va_Z "jdk/internal/util/Preconditions" "SIOOBE_FORMATTER" "Ljava/util/function/BiFunction;" sio (fun q => b0 ≤ q) U U.heap ∧
  (∀ q ∈ strT, ∃ tx, vk_R q.1 q.2.1 tx (rA (KB + q.2.2)) U) ∧ (∀ q ∈ nestT, va_Nw (.methodLinkNest q.1 q.2.1 q.2.2.1 q.2.2.2) U) ∧ (∀ C ∈ aoC, va_AO C U)
theorem roC.go {rA : Nat → Nat} {sio : Value} {A : Nat → Prop} {s U : State} {j : Nat} {x : MC} (h : roC rA sio A s s.heap j x) (hvm : s.vm.Alike U.vm) (hq : ∀ a : Nat, a < s.heap.size → ¬ A a → U.heap[a]? = s.heap[a]?) : roC rA sio A U U.heap j x := by
  match x, h with
  | .inl o, h =>
    obtain ⟨h1, v, h2, h3, h4, h5⟩ := h
    exact ⟨h1, v, h2, (h3.moved hvm).kept hq, (h4.moved hvm).kept hq, (h5.moved hvm).kept hq⟩
  | .inr (.inl q), h =>
    rcases h with ⟨h1, h2⟩ | ⟨h1, h2⟩
    · exact Or.inl ⟨h1, (h2.moved hvm).kept hq⟩
    · exact Or.inr ⟨h1, (h2.moved hvm).kept hq⟩
  | .inr (.inr q), h => exact h.elim
theorem CTX.go {cls : List vw_C} {strT : StrT} {nestT : NestT} {ro : Nat → Option MC} {rA : Nat → Nat} {sio : Value} {b0 : Nat} {dC : Nat → ClassId} {dI : Nat → Nat → Nat} {cA : Nat → ClassId} {s U : State} (h : CTX cls strT nestT ro rA sio b0 dC dI cA s) (hW : s.WarmedH U.vm) (hq : ∀ a : Nat, a < s.heap.size → ¬ b0 ≤ a → U.heap[a]? = s.heap[a]?) : CTX cls strT nestT ro rA sio b0 dC dI cA U := by
  obtain ⟨h1, h2, h3, h4, h5, h6, h7⟩ := h
  exact ⟨h1.moved hW.alike, fun j x hx => (h2 j x hx).go hW.alike hq, (h3.moved hW.alike).kept hq, (h4.moved hW.alike).kept hq, fun q hm => (h5 q hm).imp fun tx hz => hz.warm hW, fun q hm => va_Nw.warmM hW (h6 q hm), fun C hm => (h7 C hm).moved hW.alike⟩
/-- what is checked of a constant -/
def cstOK (own : String) (E : MI) (ws : List Cond) (strT : StrT) : Prop := match E.2.1 with
  | .ldc idx => (E.2.2.2.1 = 0 ∧ Cond.constant own idx (Int32.ofInt E.2.2.2.2.2) ∈ ws) ∨ (¬ E.2.2.2.1 = 0 ∧ ¬ E.2.2.2.2.1 = 100 ∧ (own, idx, E.2.2.2.2.1) ∈ strT)
  | .ldc_w idx => Cond.constant own idx (Int32.ofInt E.2.2.2.2.2) ∈ ws
  | .ldc2_w idx => Cond.constantLong own idx (Int64.ofInt E.2.2.2.2.2) ∈ ws
  | .getstatic idx => (E.2.2.2.1 = 0 ∧ E.2.2.2.2.2 = 1 ∧ Cond.fieldLink own idx "java/lang/String" "COMPACT_STRINGS" "Z" ∈ ws) ∨ (¬ E.2.2.2.1 = 0 ∧ E.2.2.2.2.1 = 100 ∧ Cond.fieldLink own idx "jdk/internal/util/Preconditions" "SIOOBE_FORMATTER" "Ljava/util/function/BiFunction;" ∈ ws)
  | _ => True
section SimH
variable {p : Program} {l : Launch} {e : Env} {R : Room} {s : State} {m : MethodId} {args : Array Value} {below : List Frame} {meth : Method} {c : Code} {H : Heap} {locs : List Loc} {cells slots : Nat} {Q : State → Prop}
variable {cc : ByteArray} {ls : Array Slot} {nL : Nat} {rA : Nat → Nat} {sio : Value} {cA : Nat → ClassId} {dC : Nat → ClassId} {dI : Nat → Nat → Nat} {cls : List vw_C} {b0 : Nat} {strT : StrT} {nestT : NestT} {ro : Nat → Option MC}
theorem s_cst (hx : p.tables.exec = Jvm.exec) (hb : c.code = cc) {ws : List Cond} {own : String} (hts : ∀ w ∈ ws, w.before args s = true) (hown : s.vm.findClass own = some m.cls) {E : MI} {v : Value} {rest : List Value} (hdg : decode cc E.1 = .ok (E.2.1, E.2.2.1)) (hlen : m_len E.2.1 = 0 ∨ m_len E.2.1 = E.2.2.1) (hX : CTX cls strT nestT ro rA sio b0 dC dI cA s) (hok : cstOK own E ws strT) (hS : va_S (fun q => b0 ≤ q) s.heap H locs) (h : m_cst E = some v)
    (k : W p l e R s m args below meth c H locs cells slots Q (F0 m (E.1 + E.2.2.1) ls (trv rA sio v :: rest))) : W p l e R s m args below meth c H locs cells slots Q (F0 m E.1 ls rest) := by
  obtain ⟨pc, i, len, a0, b1, z⟩ := E
  obtain ⟨-, -, hZ1, hZ2, hstr, -, -⟩ := hX
  simp only at hdg hlen k h hok ⊢
  cases i
  case ldc idx =>
    simp only [m_len] at hlen
    obtain rfl : len = 2 := by omega
    simp only [m_cst] at h
    simp only [cstOK] at hok
    split at h
    · rename_i ha
      cases h
      rcases hok with ⟨-, q⟩ | ⟨q, -⟩
      · exact lv_ldc hx hb hown (hts _ q) hdg k
      · exact absurd ha q
    · rename_i ha
      cases h
      rcases hok with ⟨q, -⟩ | ⟨-, q1, q2⟩
      · exact absurd q ha
      · obtain ⟨tx, hR⟩ := hstr _ q2
        have e1 : trv rA sio (.ref (KB + b1)) = .ref (rA (KB + b1)) := by
          have : ¬ KB + b1 = KB + 100 := by omega
          simp only [trv, if_neg this]
        rw [e1] at k
        exact va_ldcS hx hb hown hR hdg k
  case ldc_w idx =>
    simp only [m_len] at hlen
    obtain rfl : len = 3 := by omega
    simp only [m_cst] at h
    simp only [cstOK] at hok
    cases h
    exact lv_ldcw hx hb hown (hts _ hok) hdg k
  case ldc2_w idx =>
    simp only [m_len] at hlen
    obtain rfl : len = 3 := by omega
    simp only [m_cst] at h
    simp only [cstOK] at hok
    cases h
    exact lv_ldc2 hx hb hown (hts _ hok) hdg k
  case getstatic idx =>
    simp only [m_len] at hlen
    obtain rfl : len = 3 := by omega
    simp only [m_cst] at h
    simp only [cstOK] at hok
    split at h
    · rename_i ha
      cases h
      rcases hok with ⟨-, q1, q2⟩ | ⟨q, -⟩
      · subst q1
        exact va_gets hx hb hZ1 hS hown (hts _ q2) (fun _ h9 => h9) hdg k
      · exact absurd ha q
    · rename_i ha
      cases h
      rcases hok with ⟨q, -⟩ | ⟨-, q1, q2⟩
      · exact absurd q ha
      · subst q1
        have e1 : trv rA sio (.ref (KB + 100)) = sio := by simp only [trv, if_true]
        rw [e1] at k
        exact va_gets hx hb hZ2 hS hown (hts _ q2) (fun _ h9 => h9) hdg k
  all_goals (simp only [m_cst, reduceCtorEq] at h)
/-- what a write leaves: as many cells or more, rows of references stay as they should -/
theorem wr_grow {fty : Nat → Nat → FieldType} {dfl : Nat → List Value} {F : MH} {E : MI} {st : List Value} {q : MH × List Value} (h : m_wr fty dfl F E st = some q) : F.length ≤ q.1.length ∧ mz F ≤ mz q.1 ∧ (rowsOK F → rowsOK q.1) := by
  have hset : ∀ (a : Nat) (c0 c1 : MC), F[a]? = some c0 → mzC c1 = mzC c0 → (∀ k os, c1 = .inr (.inr (k, os)) → ∃ o i os0, c0 = .inr (.inr (k, os0)) ∧ os = os0.set i (some o) ∧ o < KB) → F.length ≤ (F.set a c1).length ∧ mz F ≤ mz (F.set a c1) ∧ (rowsOK F → rowsOK (F.set a c1)) := by
    intro a c0 c1 h0 h1 h2
    refine ⟨by rw [List.length_set]; exact Nat.le_refl _, by rw [mz_set F a c0 c1 h0 h1]; exact Nat.le_refl _, fun hR a' k os ha' o ho x hx => ?_⟩
    rw [List.getElem?_set] at ha'
    split at ha'
    · split at ha'
      · have e1 : c1 = .inr (.inr (k, os)) := Option.some.inj ha'
        obtain ⟨oo, i, os0, e2, e3, e4⟩ := h2 k os e1
        rw [e2] at h0
        rw [e3] at ho
        rcases List.mem_or_eq_of_mem_set ho with h5 | h5
        · exact hR a k os0 h0 o h5 x hx
        · rw [h5] at hx; cases hx; exact e4
      · cases ha'
    · exact hR a' k os ha' o ho x hx
  have happ : ∀ (c1 : MC), (∀ k os, c1 = .inr (.inr (k, os)) → ∀ o ∈ os, o = none) → F.length ≤ (F ++ [c1]).length ∧ mz F ≤ mz (F ++ [c1]) ∧ (rowsOK F → rowsOK (F ++ [c1])) := by
    intro c1 h2
    refine ⟨by rw [List.length_append]; exact Nat.le_add_right _ _, by rw [mz_app]; exact Nat.le_add_right _ _, fun hR a' k os ha' o ho x hx => ?_⟩
    by_cases hl : a' < F.length
    · rw [List.getElem?_append_left hl] at ha'
      exact hR a' k os ha' o ho x hx
    · rw [List.getElem?_append_right (by omega)] at ha'
      have hz : a' - F.length < 1 := (List.getElem?_eq_some_iff.mp ha').1
      rw [show a' - F.length = 0 by omega] at ha'
      have e1 : c1 = .inr (.inr (k, os)) := by simpa using ha'
      rw [h2 k os e1 o ho] at hx
      cases hx
  obtain ⟨pc, i, len, a0, b1, z⟩ := E
  unfold m_wr at h
  split at h
  · split at h
    · split at h
      · split at h
        · rename_i hc _
          cases h
          exact hset _ _ _ hc (by simp only [mzC, List.length_set]) (fun k os e => by cases e)
        · cases h
      · cases h
    · cases h
  · split at h
    · split at h
      · split at h
        · rename_i hc _
          cases h
          exact hset _ _ _ hc (by simp only [mzC, List.length_set]) (fun k os e => by cases e)
        · cases h
      · cases h
    · cases h
  · split at h
    · split at h
      · split at h
        · rename_i hc _
          cases h
          exact hset _ _ _ hc (by simp only [mzC, List.length_set]) (fun k os e => by cases e)
        · cases h
      · cases h
    · cases h
  · split at h
    · split at h
      · split at h
        · rename_i hc _ hq
          cases h
          exact hset _ _ _ hc (by simp only [mzC, List.length_set]) (fun k os e => by cases e; exact ⟨_, _, _, rfl, rfl, hq.2.1⟩)
        · cases h
      · cases h
    · cases h
  · split at h
    · cases h
      exact happ _ (fun k os e => by cases e)
    · cases h
  · split at h
    · split at h
      · cases h
        exact happ _ (fun k os e => by cases e)
      · cases h
    · cases h
  · split at h
    · split at h
      · cases h
        exact happ _ (fun k os e => by cases e; intro o ho; exact (List.mem_replicate.mp ho).2)
      · cases h
    · cases h
  · cases h
theorem one_grow {fty : Nat → Nat → FieldType} {dfl : Nat → List Value} {F : MH} {E : MI} {lv : LVs} {st : List Value} {q : MS} (h : m_one ro fty dfl E F lv st = some q) : F.length ≤ q.1.length ∧ mz F ≤ mz q.1 ∧ (rowsOK F → rowsOK q.1) := by
  have same : F.length ≤ F.length ∧ mz F ≤ mz F ∧ (rowsOK F → rowsOK F) := ⟨Nat.le_refl _, Nat.le_refl _, id⟩
  unfold m_one at h
  split at h
  · cases h; exact same
  · split at h
    · cases h; exact same
    · split at h
      · cases h; exact same
      · split at h
        · cases h; exact same
        · split at h
          · cases h; exact same
          · split at h
            · cases h; exact same
            · split at h
              · rename_i hw
                cases h; exact wr_grow hw
              · cases h
theorem ex_grow {MT : List MM} {fty : Nat → Nat → FieldType} {dfl : Nat → List Value} : ∀ (n d mi : Nat) (F : MH) (pc : Nat) (lv : LVs) (st : List Value) (z : Option Value × MH), ex MT ro fty dfl n d mi F pc lv st = some z → F.length ≤ z.2.length ∧ mz F ≤ mz z.2 ∧ (rowsOK F → rowsOK z.2) := by
  intro n
  induction n with
  | zero => intro d mi F pc lv st z h; cases h
  | succ n ih =>
    intro d mi F pc lv st z h
    rw [ex] at h
    split at h
    · cases h
    · split at h
      · rename_i q hq
        have h1 := one_grow hq
        have h2 := ih _ _ _ _ _ _ _ h
        exact ⟨Nat.le_trans h1.1 h2.1, Nat.le_trans h1.2.1 h2.2.1, fun hR => h2.2.2 (h1.2.2 hR)⟩
      · split at h
        · cases h; exact ⟨Nat.le_refl _, Nat.le_refl _, id⟩
        · split at h
          · cases h
          · split at h
            · split at h
              · split at h
                · exact ih _ _ _ _ _ _ _ h
                · cases h
              · cases h
            · split at h
              · split at h
                · exact ih _ _ _ _ _ _ _ h
                · cases h
              · split at h
                rotate_left
                · cases h
                split at h
                · cases h
                · split at h
                  · cases h
                  · rename_i z1 hz
                    have h1 := ih _ _ _ _ _ _ _ hz
                    have h2 := ih _ _ _ _ _ _ _ h
                    exact ⟨Nat.le_trans h1.1 h2.1, Nat.le_trans h1.2.1 h2.2.1, fun hR => h2.2.2 (h1.2.2 hR)⟩
end SimH
end
section
/-! THE SMALL MACHINE IS THE MACHINE, IX: one step -/
/-- what is checked of an instruction: it stands there; its length; its local; its links -/
def lnkOK (cls : List vw_C) (fty : Nat → Nat → FieldType) (y : MethodName) (ws : List Cond) (strT : StrT) (E : MI) : Prop :=
  (∀ idx, E.2.1 = .getfield idx → fldOK cls y.cls E ws idx) ∧ (∀ idx, E.2.1 = .putfield idx → fldOK cls y.cls E ws idx ∧ finOK cls y E) ∧ newOK cls y.cls E ws ∧ cstOK y.cls E ws strT
def insOK (cls : List vw_C) (fty : Nat → Nat → FieldType) (y : MethodName) (cc : ByteArray) (nL : Nat) (ws : List Cond) (strT : StrT) (E : MI) : Prop :=
  decode cc E.1 = .ok (E.2.1, E.2.2.1) ∧ (m_len E.2.1 = 0 ∨ m_len E.2.1 = E.2.2.1) ∧ m_sl E.2.1 nL = true ∧ lnkOK cls fty y ws strT E
section SimI
variable {p : Program} {l : Launch} {e : Env} {R : Room} {s : State} {m : MethodId} {args : Array Value} {below : List Frame} {meth : Method} {c : Code} {H : Heap} {locs : List Loc} {cells slots : Nat} {Q : State → Prop}
variable {cc : ByteArray} {ls : Array Slot} {nL : Nat} {rA : Nat → Nat} {sio : Value} {cA : Nat → ClassId} {dC : Nat → ClassId} {dI : Nat → Nat → Nat} {cls : List vw_C} {b0 : Nat} {strT : StrT} {nestT : NestT} {ro : Nat → Option MC}
theorem s_wr (hx : p.tables.exec = Jvm.exec) (hb : c.code = cc) {ws : List Cond} {y : MethodName} (hts : ∀ w ∈ ws, w.before args s = true) (hown : s.vm.findClass y.cls = some m.cls) (hmn : meth.name = y.name) {E : MI} {F : MH} {st : List Value} {q : MH × List Value} {fty : Nat → Nat → FieldType} {dfl : Nat → List Value} (hs : sioOK sio)
    (hok : insOK cls fty y cc nL ws strT E) (hcl : clsOK cls fty dfl ws) (h99 : cls.length ≤ 99) (hX : CTX cls strT nestT ro rA sio b0 dC dI cA s) (hrA : ∀ a, a < KB → rA a = b0 + a) (hP : va_P (dC, dI) cls (wsF (trE rA sio cA) b0 F) H) (hS : va_S (fun q => b0 ≤ q) s.heap H locs) (hI : s.heap.size + cells = b0 + F.length) (hsz : b0 + F.length ≤ H.size) (h : m_wr fty dfl F E st = some q) (hc1 : cells + q.1.length ≤ R.cells + F.length) (hs1 : slots + mz q.1 ≤ R.slots + mz F)
    (k : ∀ (H1 : Heap) (l1 : List Loc) (c1 s1 : Nat), va_P (dC, dI) cls (wsF (trE rA sio cA) b0 q.1) H1 → b0 + q.1.length ≤ H1.size → va_S (fun q => b0 ≤ q) s.heap H1 l1 → c1 + F.length = cells + q.1.length → s1 + mz F = slots + mz q.1 → W p l e R s m args below meth c H1 l1 c1 s1 Q (F0 m (E.1 + E.2.2.1) ls (trs rA sio q.2))) :
    W p l e R s m args below meth c H locs cells slots Q (F0 m E.1 ls (trs rA sio st)) := by
  obtain ⟨pc, i, len, a0, b1, z⟩ := E
  obtain ⟨hdg, hlen, -, -, hpf, hnw, -⟩ := hok
  obtain ⟨hK, -, -, -, -, -, hAO⟩ := hX
  simp only at hdg hlen hpf k h ⊢
  cases i
  case putfield idx =>
    simp only [m_len] at hlen
    obtain rfl : len = 3 := by omega
    obtain ⟨hfl, hfin⟩ := hpf idx rfl
    simp only [m_wr] at h
    split at h
    · rename_i v a r
      split at h
      · rename_i ci fs hc
        split at h
        · rename_i hq
          obtain ⟨ha, hci, hkf, hn, hf⟩ := hq
          subst hci
          cases h
          rcases hfl with ⟨C, T, N, q1, q2, q3⟩ | ⟨q1, -⟩
          · simp only at q1 q2 q3
            exact s_putf hx hb hts hown hmn hs hdg hK hcl q1 q2 q3 (hfin C T N q1) hrA hP hS ha hc hkf hn hf hsz (fun H1 l1 h1 h2 h3 => k H1 l1 _ _ h1 h2 h3 (by rw [List.length_set]) (by rw [mz_set F a _ _ hc (by simp only [mzC, List.length_set])]))
          · simp only at q1
            obtain ⟨rr, g1, -⟩ := (hP a _ (s_cell hc))
            have := (List.getElem?_eq_some_iff.mp g1).1
            simp only at this
            omega
        · cases h
      · cases h
    · cases h
  case iastore =>
    simp only [m_len] at hlen
    obtain rfl : len = 1 := by omega
    simp only [m_wr] at h
    split at h
    · rename_i x i a r
      split at h
      · rename_i kk xs hc
        split at h
        · rename_i hq
          obtain ⟨ha, rfl, hin⟩ := hq
          cases h
          exact s_iast hx hb hdg hK hrA hP hS ha hc hin hsz (fun H1 l1 h1 h2 h3 => k H1 l1 _ _ h1 h2 h3 (by rw [List.length_set]) (by rw [mz_set F a _ _ hc (by simp only [mzC, List.length_set])]))
        · cases h
      · cases h
    · cases h
  case bastore =>
    simp only [m_len] at hlen
    obtain rfl : len = 1 := by omega
    simp only [m_wr] at h
    split at h
    · rename_i x i a r
      split at h
      · rename_i kk xs hc
        split at h
        · rename_i hq
          obtain ⟨ha, rfl, hin⟩ := hq
          cases h
          exact s_zast hx hb hdg hK hrA hP hS ha hc hin hsz (fun H1 l1 h1 h2 h3 => k H1 l1 _ _ h1 h2 h3 (by rw [List.length_set]) (by rw [mz_set F a _ _ hc (by simp only [mzC, List.length_set])]))
        · cases h
      · cases h
    · cases h
  case aastore =>
    simp only [m_len] at hlen
    obtain rfl : len = 1 := by omega
    simp only [m_wr] at h
    simp only [newOK] at hnw
    split at h
    · rename_i o i a r
      split at h
      · rename_i kk os ci vs hc hco
        split at h
        · rename_i hq
          obtain ⟨ha, ho, e1, e2, hin⟩ := hq
          cases h
          subst e1
          subst e2
          obtain ⟨qq, g1, g2⟩ := hnw
          have ht : (tysL cA)[b1]? = some (cA b1, .object qq.1) := by
            rcases g2 with ⟨u, w⟩ | ⟨u, w⟩ | ⟨u, w⟩ | ⟨u, w⟩ <;> (subst u; rw [w]; rfl)
          exact s_aast hx hb hdg hK hrA hP hS ha ho hc hco g1 ht hin hsz (fun H1 l1 h1 h2 h3 => k H1 l1 _ _ h1 h2 h3 (by rw [List.length_set]) (by rw [mz_set F a _ _ hc (by simp only [mzC, List.length_set])]))
        · cases h
      · cases h
    · cases h
  case new idx =>
    simp only [m_len] at hlen
    obtain rfl : len = 3 := by omega
    simp only [m_wr] at h
    simp only [newOK] at hnw
    obtain ⟨qq, g1, g2⟩ := hnw
    split at h
    · rename_i hF
      cases h
      simp only [List.length_append, List.length_cons, List.length_nil, mz_app, mzC] at hc1 hs1 k
      exact s_new hx hb hts hown hdg hK hcl g1 g2 hrA hP hS hF hI hsz (by omega) (by omega) (fun H1 h1 h2 h3 => k H1 locs _ _ h1 (by rw [List.length_append] at h2; exact h2) h3 (by omega) (by omega))
    · cases h
  case newarray t =>
    simp only [m_len] at hlen
    obtain rfl : len = 2 := by omega
    simp only [m_wr] at h
    simp only [newOK] at hnw
    split at h
    · rename_i n r
      split at h
      · rename_i hq
        obtain ⟨hF, hn0, hn1, hk⟩ := hq
        cases h
        simp only [List.length_append, List.length_cons, List.length_nil, mz_app, mzC, List.length_replicate] at hc1 hs1 k
        exact s_newa hx hb hts hdg hK hnw hk hn0 hn1 hrA hP hS hF hI hsz (by omega) (by omega) (fun H1 h1 h2 h3 => k H1 locs _ _ h1 (by rw [List.length_append] at h2; exact h2) h3 (by omega) (by omega))
      · cases h
    · cases h
  case anewarray idx =>
    simp only [m_len] at hlen
    obtain rfl : len = 3 := by omega
    simp only [m_wr] at h
    simp only [newOK] at hnw
    split at h
    · rename_i n r
      split at h
      · rename_i hq
        obtain ⟨hF, hn0, hn1⟩ := hq
        cases h
        simp only [List.length_append, List.length_cons, List.length_nil, mz_app, mzC, List.length_replicate] at hc1 hs1 k
        have key : ∀ C, C ∈ aoC → Cond.classLink y.cls idx C ∈ ws → (tysL cA)[a0]? = some (cA a0, .object C) → W p l e R s m args below meth c H locs cells slots Q (F0 m pc ls (trs rA sio (.int n :: r))) := fun C g1 g2 g3 =>
          s_anew hx hb hts hown hdg hK g2 (hAO C g1) g3 hn0 hn1 hrA hP hS hF hI hsz (by omega) (by omega) (fun H1 h1 h2 h3 => k H1 locs _ _ h1 (by rw [List.length_append] at h2; exact h2) h3 (by omega) (by omega))
        rcases hnw with ⟨u, w⟩ | ⟨u, w⟩ | ⟨u, w⟩ | ⟨u, w⟩
        · subst u; exact key _ (by decide) w rfl
        · subst u; exact key _ (by decide) w rfl
        · subst u; exact key _ (by decide) w rfl
        · subst u; exact key _ (by decide) w rfl
      · cases h
    · cases h
  all_goals (simp only [m_wr, reduceCtorEq] at h)
theorem s_one (hx : p.tables.exec = Jvm.exec) (hb : c.code = cc) {ws : List Cond} {y : MethodName} (hts : ∀ w ∈ ws, w.before args s = true) (hown : s.vm.findClass y.cls = some m.cls) (hmn : meth.name = y.name) {E : MI} {F : MH} {lv : LVs} {st : List Value} {q : MS} {fty : Nat → Nat → FieldType} {dfl : Nat → List Value} (hs : sioOK sio)
    (hok : insOK cls fty y cc nL ws strT E) (hcl : clsOK cls fty dfl ws) (h99 : cls.length ≤ 99) (hX : CTX cls strT nestT ro rA sio b0 dC dI cA s) (hrA : ∀ a, a < KB → rA a = b0 + a) (hr1 : ∀ j y, ro j = some y → j ≠ 100) (hR : rowsOK F) (hl : lv_has ls nL (trl rA sio lv)) (hP : va_P (dC, dI) cls (wsF (trE rA sio cA) b0 F) H) (hS : va_S (fun q => b0 ≤ q) s.heap H locs) (hI : s.heap.size + cells = b0 + F.length) (hsz : b0 + F.length ≤ H.size) (h : m_one ro fty dfl E F lv st = some q) (hc1 : cells + q.1.length ≤ R.cells + F.length) (hs1 : slots + mz q.1 ≤ R.slots + mz F)
    (k : ∀ (H1 : Heap) (l1 : List Loc) (ls1 : Array Slot) (c1 s1 : Nat), va_P (dC, dI) cls (wsF (trE rA sio cA) b0 q.1) H1 → b0 + q.1.length ≤ H1.size → va_S (fun q => b0 ≤ q) s.heap H1 l1 → lv_has ls1 nL (trl rA sio q.2.2.1) → c1 + F.length = cells + q.1.length → s1 + mz F = slots + mz q.1 → W p l e R s m args below meth c H1 l1 c1 s1 Q (F0 m q.2.1 ls1 (trs rA sio q.2.2.2))) :
    W p l e R s m args below meth c H locs cells slots Q (F0 m E.1 ls (trs rA sio st)) := by
  have hok0 := hok
  obtain ⟨hdg, hlen, hsl, hgf, hpf, hnw, hcs⟩ := hok
  unfold m_one at h
  split at h
  · rename_i v hv
    cases h
    exact s_push hx hb hs hdg hlen hl hv (k H locs ls cells slots hP hsz hS hl rfl rfl)
  · split at h
    · rename_i v hv
      cases h
      exact s_cst hx hb hts hown hdg hlen hX hcs hS hv (k H locs ls cells slots hP hsz hS hl rfl rfl)
    · split at h
      · rename_i v hv
        cases h
        exact s_store hx hb hs hdg hlen hsl hl hv (fun ls1 hl1 => k H locs ls1 cells slots hP hsz hS hl1 rfl rfl)
      · split at h
        · rename_i v hv
          cases h
          exact s_alu hx hb hs hdg hlen hv (k H locs ls cells slots hP hsz hS hl rfl rfl)
        · split at h
          · rename_i v hv
            cases h
            exact s_br hx hb hs hdg hlen hv (k H locs ls cells slots hP hsz hS hl rfl rfl)
          · split at h
            · rename_i v hv
              cases h
              exact s_rd hx hb hts hown hs hdg hlen hX.1 (fun ci q hq => (hcl ci q hq).1) h99 hrA hR hX.2.1 hr1 hP hS hgf hv (k H locs ls cells slots hP hsz hS hl rfl rfl)
            · split at h
              · rename_i v hv
                cases h
                exact s_wr hx hb hts hown hmn hs hok0 hcl h99 hX hrA hP hS hI hsz hv hc1 hs1 (fun H1 l1 c1 s1 g1 g2 g3 g4 g5 => k H1 l1 ls c1 s1 g1 g2 g3 hl g4 g5)
              · cases h
end SimI
end
section
/-! THE SMALL MACHINE IS THE MACHINE, X: calls, returns, runs -/
/-- what is checked of a call -/
def invOK (cls : List vw_C) (MT : List MM) (ws : List Cond) (nestT : NestT) (own : String) (E : MI) : Prop := match E.2.1 with
  | .invokestatic idx => ¬ E.2.2.2.1 = 9999 ∧ ((E.2.2.2.1 = 9998 ∧ E.2.2.2.2.1 = 2 ∧ Cond.methodLink own idx Lib.Math.max.name ∈ ws ∧ Cond.static Lib.Math.max.name ∈ ws ∧ Cond.initialized "java/lang/Math" ∈ ws ∧ Cond.code Lib.Math.max.name Lib.Math.max.code 2 (some .int) ∈ ws) ∨ ∃ M, MT[E.2.2.2.1]? = some M ∧ (Cond.methodLink own idx M.1 ∈ ws ∨ ∃ host, (own, idx, M.1, host) ∈ nestT) ∧ Cond.static M.1 ∈ ws ∧ Cond.initialized M.1.cls ∈ ws ∧ M.1.cls ≠ "java/lang/invoke/MethodHandle" ∧ M.1.cls ≠ "java/lang/invoke/VarHandle" ∧ (parseMethodDescriptor M.1.desc).map (fun d => d.parameters.length) = some E.2.2.2.2.1)
  | .invokespecial idx => (E.2.2.2.1 = 9999 ∧ E.2.2.2.2.1 = 1 ∧ Cond.methodLink own idx Lib.objectInit ∈ ws ∧ Cond.instanceMethod Lib.objectInit ∈ ws ∧ Cond.code Lib.objectInit ⟨#[0xb1]⟩ 1 none ∈ ws) ∨
    (¬ E.2.2.2.1 = 9999 ∧ ∃ M, MT[E.2.2.2.1]? = some M ∧ M.2.2.2.1 = none ∧ M.1.name = "<init>" ∧ (Cond.methodLink own idx M.1 ∈ ws ∨ ∃ host, (own, idx, M.1, host) ∈ nestT) ∧ Cond.instanceMethod M.1 ∈ ws ∧ Cond.initialized M.1.cls ∈ ws ∧ M.1.cls ≠ "java/lang/invoke/MethodHandle" ∧ M.1.cls ≠ "java/lang/invoke/VarHandle" ∧ (parseMethodDescriptor M.1.desc).map (fun d => d.parameters.length) = some (E.2.2.2.2.1 - 1))
  | .invokevirtual idx => ¬ E.2.2.2.1 = 9999 ∧ ∃ M, MT[E.2.2.2.1]? = some M ∧ Cond.methodLink own idx M.1 ∈ ws ∧ Cond.instanceMethod M.1 ∈ ws ∧ Cond.selects M.1.cls M.1 M.1 ∈ ws ∧ Cond.initialized M.1.cls ∈ ws ∧ M.1.cls ≠ "java/lang/invoke/MethodHandle" ∧ M.1.cls ≠ "java/lang/invoke/VarHandle" ∧ (parseMethodDescriptor M.1.desc).map (fun d => d.parameters.length) = some (E.2.2.2.2.1 - 1) ∧
    ((∃ (ci : Nat) (q : vw_C), (ci : Int) = E.2.2.2.2.2 ∧ cls[ci]? = some q ∧ q.1 = M.1.cls) ∨ (E.2.2.2.2.2 = 99 ∧ M.1.cls = "java/lang/String"))
  | _ => True
def bodyOK (cls : List vw_C) (fty : Nat → Nat → FieldType) (MT : List MM) (ws : List Cond) (strT : StrT) (nestT : NestT) (M : MM) : Prop := ∀ E ∈ M.2.2.2.2, insOK cls fty M.1 M.2.1 M.2.2.1 ws strT E ∧ invOK cls MT ws nestT M.1.cls E
def callOK (ws : List Cond) (M : MM) : Prop := Cond.code M.1 M.2.1 M.2.2.1 M.2.2.2.1 ∈ ws ∧ M.2.2.1 ≤ 45 ∧ plainName M.1.cls = true
section SimJ
variable {p : Program} {l : Launch} {e : Env} {R : Room} {s : State} {m : MethodId} {args : Array Value} {below : List Frame} {meth : Method} {c : Code} {H : Heap} {locs : List Loc} {cells slots : Nat} {Q : State → Prop}
variable {cc : ByteArray} {ls : Array Slot} {nL : Nat} {rA : Nat → Nat} {sio : Value} {cA : Nat → ClassId} {dC : Nat → ClassId} {dI : Nat → Nat → Nat} {cls : List vw_C} {b0 : Nat} {strT : StrT} {nestT : NestT} {ro : Nat → Option MC}
def Pm (cls : List vw_C) (strT : StrT) (nestT : NestT) (ro : Nat → Option MC) (rA : Nat → Nat) (sio : Value) (b0 : Nat) (dC : Nat → ClassId) (dI : Nat → Nat → Nat) (cA : Nat → ClassId) (as : List Value) (F : MH) : Array Value → State → Prop :=
  va_Pc (trs rA sio as) (fun U => U.heap.size = b0 + F.length ∧ va_P (dC, dI) cls (wsF (trE rA sio cA) b0 F) U.heap ∧ CTX cls strT nestT ro rA sio b0 dC dI cA U)
def Qm (cls : List vw_C) (rA : Nat → Nat) (sio : Value) (b0 : Nat) (dC : Nat → ClassId) (dI : Nat → Nat → Nat) (cA : Nat → ClassId) (v : Option Value) (F1 : MH) : Array Value → State → Outcome → State → Prop := fun _ st o t =>
  o = .returned (v.map (trv rA sio)) ∧ va_P (dC, dI) cls (wsF (trE rA sio cA) b0 F1) t.heap ∧ b0 + F1.length ≤ t.heap.size ∧ va_F (fun q => b0 ≤ q) st t
theorem Pm_blind (as : List Value) (F : MH) : FrameBlind (Pm cls strT nestT ro rA sio b0 dC dI cA as F) := by
  intro a U g mk h
  obtain ⟨h0, h1, h2, h3⟩ := h
  exact ⟨h0, h1, h2, h3.go (U := U.calling g mk a) (State.WarmedH.refl U) (fun _ _ _ => rfl)⟩
theorem s_callgo {pc mc ms : Nat} {st0 rest : List Value} {v : Option Value} {F1 : MH} {a : Array Value} (hr : va_Run p l e R s m args below meth c H locs cells slots mc ms (F0 m pc ls st0) rest (Qm cls rA sio b0 dC dI cA v F1 a) (fun q => b0 ≤ q)) (hS : va_S (fun q => b0 ≤ q) s.heap H locs)
    (k : ∀ (H1 : Heap) (l1 : List Loc), va_P (dC, dI) cls (wsF (trE rA sio cA) b0 F1) H1 → b0 + F1.length ≤ H1.size → va_S (fun q => b0 ≤ q) s.heap H1 l1 → W p l e R s m args below meth c H1 l1 (cells + mc) (slots + ms) Q (F0 m (pc + 3) ls ((v.map (trv rA sio)).toList ++ rest))) :
    W p l e R s m args below meth c H locs cells slots Q (F0 m pc ls st0) := by
  intro T hT X
  obtain ⟨v', st₀, t, T', L, h0, X', hL, e1, e2, ⟨hv, hq1, hq2, hz, hk⟩, st⟩ := hr T hT X
  cases hv
  rw [h0] at hz hk
  obtain ⟨t2, a1, b1⟩ := k T'.heap (locs ++ L) (by rw [e1]; exact hq1) (by rw [e1]; exact hq2)
    ⟨Nat.le_trans hS.1 (by rw [e1]; exact hz), fun q h1 h2 => by rw [e1, hk q (Nat.lt_of_lt_of_le h1 hS.1) h2]; exact hS.2.1 q h1 h2, fun q hq => by
      rcases List.mem_append.mp hq with h | h
      · exact hS.2.2 q h
      · exact hL q h⟩ T' rfl X'
  exact ⟨t2, st t2 a1, b1⟩
theorem sl_len (hs : sioOK sio) : ∀ as : List Value, (lg_sl (trs rA sio as)).length = (as.map fun v => v.category).sum
  | [] => rfl
  | v :: t => by
    have ih := sl_len hs t
    simp only [trs, lg_sl, List.map_cons, List.flatMap_cons, List.length_append, List.sum_cons] at ih ⊢
    rw [ih, trv_cat hs]
    rcases lv_cat v with h | h <;> rw [h] <;> simp
theorem args_tr (hs : sioOK sio) : ∀ (as : List Value) (i : Nat), lv_args i (trs rA sio as) = trl rA sio (lv_args i as)
  | [], i => rfl
  | v :: t, i => by
    have ih := args_tr hs t
    simp only [trs, trl, List.map_cons, lv_args] at ih ⊢
    rw [trv_cat hs, ih]
theorem m_at_spec {MT : List MM} {mi pc : Nat} {z : MI × Option FieldType} (h : m_at MT mi pc = some z) : ∃ M, MT[mi]? = some M ∧ z.1 ∈ M.2.2.2.2 ∧ z.1.1 = pc ∧ z.2 = M.2.2.2.1 := by
  unfold m_at at h
  split at h
  · rename_i M hM
    cases hf : M.2.2.2.2.find? (fun E => E.1 == pc) with
    | none => rw [hf] at h; cases h
    | some E =>
      rw [hf] at h
      cases h
      have h2 : (E.1 == pc) = true := by have := List.find?_some hf; exact this
      exact ⟨M, hM, List.mem_of_find?_eq_some hf, by simpa using h2, rfl⟩
  · cases h
/-- a contract out of runs of its body -/
theorem met_of {M : MM} {ws : List Cond} {d mc ms : Nat} {as : List Value} {F F1 : MH} {v : Option Value} (hs : sioOK sio) (hpl : plainName M.1.cls = true) (hw : (as.map fun v => v.category).sum ≤ M.2.2.1)
    (body : ∀ {p : Program} {e : Env} {s : State} {m : MethodId} {args : Array Value} {below : List Frame} {meth : Method} {c : Code} {ls : Array Slot}, p.tables.exec = Jvm.exec → c.code = M.2.1 → c.maxLocals = M.2.2.1 → s.vm.findClass M.1.cls = some m.cls → meth.name = M.1.name → meth.sig.returnType = M.2.2.2.1 → meth.locks = false → (∀ w ∈ ws, w.before args s = true) → CTX cls strT nestT ro rA sio b0 dC dI cA s → s.heap.size = b0 + F.length → va_P (dC, dI) cls (wsF (trE rA sio cA) b0 F) s.heap → lv_has ls M.2.2.1 (trl rA sio (lv_args 0 as)) →
      W p l e ({ frames := d + 1, cells := mc, slots := ms, locals := 64 * (d + 1) } : Room) s m args below meth c s.heap [] 0 0 (MQ below (Qm cls rA sio b0 dC dI cA v F1) args s mc ms (fun q => b0 ≤ q)) (F0 m 0 ls [])) :
    Met l M.1 (Cond.code M.1 M.2.1 M.2.2.1 M.2.2.2.1 :: ws) ({ frames := d + 1, cells := mc, slots := ms, locals := 64 * (d + 1) } : Room) (Pm cls strT nestT ro rA sio b0 dC dI cA as F) (Qm cls rA sio b0 dC dI cA v F1) mc ms (fun q => b0 ≤ q) := by
  refine Met.ofW (cc := M.2.1) (maxL := M.2.2.1) (ret := M.2.2.2.1) hpl rfl ?_
  intro p e s m args below meth c s₁ B hml hv
  obtain ⟨rfl, hsz, hP, hX⟩ := hv
  have hts := atoms_spec (ws := Cond.code M.1 M.2.1 M.2.2.1 M.2.2.2.1 :: ws) B.pre
  have hown : s.vm.findClass M.1.cls = some m.cls := findClass_of_methodNamed B.named
  have hin : meth.name = M.1.name := (name_of_methodNamed B.named B.method).1
  have hl := lv_entry (trs rA sio as) (n := M.2.2.1) (by rw [sl_len hs]; exact hw)
  rw [args_tr hs] at hl
  rw [lg_entry_eq]
  exact body B.exec B.bytes hml hown hin B.returns B.notSynchronized (fun w h => hts w (List.mem_cons_of_mem _ h)) hX hsz hP hl
/-- a return -/
theorem s_ret (hx : p.tables.exec = Jvm.exec) (hb : c.code = cc) {rt : Option FieldType} (hr : meth.sig.returnType = rt) (hlk : meth.locks = false) {E : MI} {st : List Value} {v : Option Value} {F1 : MH} (hdg : decode cc E.1 = .ok (E.2.1, E.2.2.1)) (hlen : m_len E.2.1 = 0 ∨ m_len E.2.1 = E.2.2.1) (h : m_ret rt E st = some v) (hP : va_P (dC, dI) cls (wsF (trE rA sio cA) b0 F1) H) (hsz : b0 + F1.length ≤ H.size) (hS : va_S (fun q => b0 ≤ q) s.heap H locs) :
    W p l e R s m args below meth c H locs cells slots (MQ below (Qm cls rA sio b0 dC dI cA v F1) args s cells slots (fun q => b0 ≤ q)) (F0 m E.1 ls (trs rA sio st)) := by
  have hq : ∀ t : State, t.heap = H → s.WarmedH t.vm → Qm cls rA sio b0 dC dI cA v F1 args s (.returned (v.map (trv rA sio))) t := fun t ht _ => ⟨rfl, by rw [ht]; exact hP, by rw [ht]; exact hsz, hS.F ht⟩
  obtain ⟨pc, i, len, a0, b1, z⟩ := E
  simp only at hdg hlen h ⊢
  cases i
  case ireturn =>
    simp only [m_len] at hlen
    obtain rfl : len = 1 := by omega
    simp only [m_ret] at h
    split at h
    · split at h
      · split at h
        · rename_i hn
          cases h
          exact W.zret hx hb hr hn hq hS.2.2 hdg hlk
        · cases h
      · cases h
    · cases h
  case lreturn =>
    simp only [m_len] at hlen
    obtain rfl : len = 1 := by omega
    simp only [m_ret] at h
    split at h
    · split at h
      · rename_i hn
        cases h
        exact W.lret hx hb (hr.trans hn) hq hS.2.2 hdg hlk
      · cases h
    · cases h
  case return_ =>
    simp only [m_len] at hlen
    obtain rfl : len = 1 := by omega
    simp only [m_ret] at h
    split at h
    · split at h
      · rename_i hn
        cases h
        exact W.vret hx hb (hr.trans hn) hq hS.2.2 hdg hlk
      · cases h
    · cases h
  all_goals (simp only [m_ret, reduceCtorEq] at h)
end SimJ
end
section
/-! THE SMALL MACHINE IS THE MACHINE, XI: the theorem -/
section SimK
variable {p : Program} {l : Launch} {e : Env} {R : Room} {s : State} {m : MethodId} {args : Array Value} {below : List Frame} {meth : Method} {c : Code} {H : Heap} {locs : List Loc} {cells slots : Nat} {Q : State → Prop}
variable {cc : ByteArray} {ls : Array Slot} {nL : Nat} {rA : Nat → Nat} {sio : Value} {cA : Nat → ClassId} {dC : Nat → ClassId} {dI : Nat → Nat → Nat} {cls : List vw_C} {b0 : Nat} {strT : StrT} {nestT : NestT} {ro : Nat → Option MC}
theorem cat_tr (hs : sioOK sio) (st : List Value) : ((trs rA sio st).map fun v => v.category) = st.map fun v => v.category := by
  simp only [trs, List.map_map]
  apply List.map_congr_left
  intro v _
  exact trv_cat hs v
theorem m_iv_spec {E : MI} {st : List Value} {ok : Nat → Bool} {q : Nat × List Value × List Value} (h : m_iv E st ok = some q) : ∃ (a : Nat) (As : List Value), q = (E.2.2.2.1, .ref a :: As, st.drop E.2.2.2.2.1) ∧ ok a = true ∧ As.length = E.2.2.2.2.1 - 1 ∧ st = As.reverse ++ .ref a :: st.drop E.2.2.2.2.1 ∧ ((st.drop E.2.2.2.2.1).map fun v => v.category).sum ≤ 8 := by
  unfold m_iv at h
  split at h
  · rename_i hq
    obtain ⟨h1, h2, h3⟩ := hq
    split at h
    · rename_i a As hr
      split at h
      · rename_i ho
        cases h
        have e1 : st.take E.2.2.2.2.1 = As.reverse ++ [.ref a] := by
          have := congrArg List.reverse hr
          simpa using this
        refine ⟨a, As, rfl, ho, ?_, ?_, h3⟩
        · have := congrArg List.length hr
          simp only [List.length_reverse, List.length_take, List.length_cons] at this
          omega
        · have e2 := List.take_append_drop E.2.2.2.2.1 st
          rw [e1] at e2
          simpa using e2.symm
      · cases h
    · cases h
  · cases h
/-- one call, out of the callee's contract -/
theorem s_inv (hx : p.tables.exec = Jvm.exec) (hb : c.code = cc) (hml : c.maxLocals = nL) {ws : List Cond} {own : String} (hts : ∀ w ∈ ws, w.before args s = true) (hgw : ∀ w ∈ ws, goodWord w = true) (hown : s.vm.findClass own = some m.cls) {MT : List MM} {E : MI} {F F1 : MH} {st : List Value} {q : Nat × List Value × List Value} {v : Option Value} {d mc ms : Nat} (hs : sioOK sio) (hdg : decode cc E.1 = .ok (E.2.1, E.2.2.1)) (hlen : m_len E.2.1 = 0 ∨ m_len E.2.1 = E.2.2.1) (hsl : ls.size = nL)
    (hok : invOK cls MT ws nestT own E) (h99 : cls.length ≤ 99) (hX : CTX cls strT nestT ro rA sio b0 dC dI cA s) (hrA : ∀ a, a < KB → rA a = b0 + a) (hr1 : ∀ j y, ro j = some y → j ≠ 100) (hP : va_P (dC, dI) cls (wsF (trE rA sio cA) b0 F) H) (hS : va_S (fun q => b0 ≤ q) s.heap H locs) (hI : s.heap.size + cells = b0 + F.length) (hsz : b0 + F.length ≤ H.size) (h : m_inv ro F E st = some q) (h9 : ¬ q.1 = 9999) (h8 : ¬ q.1 = 9998) {M : MM} (hM0 : MT[q.1]? = some M) (hcw : Cond.code M.1 M.2.1 M.2.2.1 M.2.2.2.1 ∈ ws) (h45 : M.2.2.1 ≤ 45)
    (hM : Met l M.1 (Cond.code M.1 M.2.1 M.2.2.1 M.2.2.2.1 :: ws) ({ frames := d + 1, cells := mc, slots := ms, locals := 64 * (d + 1) } : Room) (Pm cls strT nestT ro rA sio b0 dC dI cA q.2.1 F) (Qm cls rA sio b0 dC dI cA v F1) mc ms (fun q => b0 ≤ q))
    (hRf : d + 2 ≤ R.frames) (hRl : 64 * (d + 2) ≤ R.locals) (hf : cells + mc ≤ R.cells ∧ slots + ms ≤ R.slots)
    (k : ∀ (H1 : Heap) (l1 : List Loc), va_P (dC, dI) cls (wsF (trE rA sio cA) b0 F1) H1 → b0 + F1.length ≤ H1.size → va_S (fun q => b0 ≤ q) s.heap H1 l1 → W p l e R s m args below meth c H1 l1 (cells + mc) (slots + ms) Q (F0 m (E.1 + 3) ls (trs rA sio (v.toList ++ q.2.2)))) :
    W p l e R s m args below meth c H locs cells slots Q (F0 m E.1 ls (trs rA sio st)) := by
  refine W.size fun hz => ?_
  have hHs : H.size = b0 + F.length := by omega
  have hFix : CallFix p m c cc nL s args ws own := ⟨hx, hb, hml, hown, hts⟩
  have hG : GoodIn ws (Cond.code M.1 M.2.1 M.2.2.1 M.2.2.2.1 :: ws) := by
    intro w hw
    rcases List.mem_cons.mp hw with rfl | hw
    · exact ⟨hcw, good_of_word (hgw _ hcw)⟩
    · exact ⟨hw, good_of_word (hgw _ hw)⟩
  have hpc : ∀ U : State, U.heap = H → s.WarmedH U.vm → Pm cls strT nestT ro rA sio b0 dC dI cA q.2.1 F (trs rA sio q.2.1).toArray U := fun U hU hW => ⟨rfl, by rw [hU]; exact hHs, by rw [hU]; exact hP, hX.go hW (fun a ha hn => by rw [hU]; exact hS.2.1 a ha hn)⟩
  have hR : (({ frames := d + 1, cells := mc, slots := ms, locals := 64 * (d + 1) } : Room)).frames + 1 ≤ R.frames ∧ 8 + (M.2.2.1 + 11) + (({ frames := d + 1, cells := mc, slots := ms, locals := 64 * (d + 1) } : Room)).locals ≤ R.locals := ⟨hRf, by show 8 + (M.2.2.1 + 11) + 64 * (d + 1) ≤ R.locals; omega⟩
  have ek : ∀ r : List Value, trs rA sio (v.toList ++ r) = (v.map (trv rA sio)).toList ++ trs rA sio r := by
    intro r
    cases v <;> simp [trs]
  rw [ek] at k
  obtain ⟨pc, i, len, a0, b1, z⟩ := E
  simp only at hdg hlen hok h k ⊢
  cases i
  case invokestatic idx =>
    simp only [m_len] at hlen
    obtain rfl : len = 3 := by omega
    simp only [m_inv] at h
    simp only [invOK] at hok
    split at h
    · rename_i hq
      obtain ⟨hq1, hq2⟩ := hq
      cases h
      simp only at hM hM0 h9 h8 hpc k
      obtain ⟨-, g | ⟨M', g0, g1, g2, g3, g4, g5, g6⟩⟩ := hok
      · exact absurd g.1 h8
      cases hM0.symm.trans g0
      have hn : (trs rA sio (st.take b1).reverse).length = b1 := by simp only [trs, List.length_map, List.length_reverse, List.length_take]; omega
      have hst : trs rA sio st = (trs rA sio (st.take b1).reverse).reverse ++ trs rA sio (st.drop b1) := by
        simp only [trs, ← List.map_reverse, List.reverse_reverse, ← List.map_append, List.take_append_drop]
      have hW8 : 2 * (F0 m pc ls (trs rA sio st)).monitorRoom + ((trs rA sio (st.drop b1)).map fun v => v.category).sum ≤ 8 := by
        rw [cat_tr hs]; show 2 * 0 + _ ≤ 8; omega
      rcases g1 with g1 | ⟨host, g1⟩
      · refine s_callgo (va_runS (As := trs rA sio (st.take b1).reverse) (rest := trs rA sio (st.drop b1)) (n := b1) hFix hM ⟨callB_of b1 hts hG rfl rfl rfl (hts _ g3) (hts _ g1) ⟨g4, g5, g6⟩ hR, hts _ g2⟩ ⟨Pm_blind _ _, hpc⟩ rfl hn hsl hst hW8 hdg hf) hS k
      · refine s_callgo (va_runSN (As := trs rA sio (st.take b1).reverse) (rest := trs rA sio (st.drop b1)) (n := b1) (host := host) hFix hM ⟨va_cnB b1 hts hG rfl rfl rfl (hX.2.2.2.2.2.1 _ g1) (hts _ g3) ⟨g4, g5, g6⟩ hR, hts _ g2, trivial⟩ ⟨Pm_blind _ _, hpc⟩ rfl hn hsl hst hW8 hdg hf) hS k
    · cases h
  case invokespecial idx =>
    simp only [m_len] at hlen
    obtain rfl : len = 3 := by omega
    simp only [m_inv] at h
    simp only [invOK] at hok
    obtain ⟨a, As, rfl, ho, hAl, hst0, hcat⟩ := m_iv_spec h
    simp only at hM hM0 h9 hpc k hAl hst0 hcat
    have ha : a < KB := by simpa using ho
    rcases hok with ⟨g, -⟩ | ⟨-, M', g0, g1, g2, g3, g4, g5, g6, g7, g8⟩
    · exact absurd g h9
    cases hM0.symm.trans g0
    have er : trs rA sio (.ref a :: As) = .ref (rA a) :: trs rA sio As := by
      show trv rA sio (.ref a) :: _ = _
      rw [trv_ref rA sio ha]; rfl
    have hn : (trs rA sio As).length = b1 - 1 := by simp only [trs, List.length_map]; exact hAl
    have hst : trs rA sio st = (trs rA sio As).reverse ++ .ref (rA a) :: trs rA sio (st.drop b1) := by
      conv => lhs; rw [hst0]
      simp only [trs, List.map_append, List.map_reverse, List.map_cons, trv_ref rA sio ha]
    have hW8 : 2 * (F0 m pc ls (trs rA sio st)).monitorRoom + ((trs rA sio (st.drop b1)).map fun v => v.category).sum ≤ 8 := by
      rw [cat_tr hs]; show 2 * 0 + _ ≤ 8; omega
    rw [er] at hpc
    rw [g1] at hM hG
    rcases g3 with g3 | ⟨host, g3⟩
    · refine s_callgo (va_runI (As := trs rA sio As) (b := rA a) (rest := trs rA sio (st.drop b1)) (n := b1 - 1) hFix hM (cwI (b1 - 1) hts hG rfl rfl rfl (hts _ g5) (hts _ g3) (hts _ g4) g2 ⟨g6, g7, g8⟩ hR) ⟨Pm_blind _ _, hpc⟩ rfl hn hsl hst hW8 hdg hf) hS k
    · refine s_callgo (va_runIN (As := trs rA sio As) (b := rA a) (rest := trs rA sio (st.drop b1)) (n := b1 - 1) (host := host) hFix hM ⟨va_cnB (b1 - 1) hts hG rfl rfl rfl (hX.2.2.2.2.2.1 _ g3) (hts _ g5) ⟨g6, g7, g8⟩ hR, g2, hts _ g4⟩ ⟨Pm_blind _ _, hpc⟩ rfl hn hsl hst hW8 hdg hf) hS k
  case invokevirtual idx =>
    simp only [m_len] at hlen
    obtain rfl : len = 3 := by omega
    simp only [m_inv] at h
    simp only [invOK] at hok
    obtain ⟨a, As, rfl, ho, hAl, hst0, hcat⟩ := m_iv_spec h
    simp only at hM hM0 h9 hpc k hAl hst0 hcat
    obtain ⟨-, M', g0, g1, g2, g3, g4, g5, g6, g7, g8⟩ := hok
    cases hM0.symm.trans g0
    have hn : (trs rA sio As).length = b1 - 1 := by simp only [trs, List.length_map]; exact hAl
    have hW8 : 2 * (F0 m pc ls (trs rA sio st)).monitorRoom + ((trs rA sio (st.drop b1)).map fun v => v.category).sum ≤ 8 := by
      rw [cat_tr hs]; show 2 * 0 + _ ≤ 8; omega
    have key : ∀ aR : Nat, trv rA sio (.ref a) = .ref aR → (∃ cellB : Cell, H[aR]? = some cellB ∧ cellB.vm.isStatics = false ∧ s.vm.findClass M.1.cls = some cellB.cls) → W p l e R s m args below meth c H locs cells slots Q (F0 m pc ls (trs rA sio st)) := by
      intro aR eR hcell
      have er : trs rA sio (.ref a :: As) = .ref aR :: trs rA sio As := by
        show trv rA sio (.ref a) :: _ = _
        rw [eR]; rfl
      have hst : trs rA sio st = (trs rA sio As).reverse ++ .ref aR :: trs rA sio (st.drop b1) := by
        conv => lhs; rw [hst0]
        simp only [trs, List.map_append, List.map_reverse, List.map_cons, eR]
      rw [er] at hpc
      have hGV : GoodIn ws (wsV own idx M.1.cls M.1 (Cond.code M.1 M.2.1 M.2.2.1 M.2.2.2.1 :: ws)) := by
        intro w hw
        unfold wsV at hw
        rcases List.mem_append.mp hw with hw | hw
        · have : w ∈ ws := by
            simp only [List.mem_cons, List.not_mem_nil, or_false] at hw
            rcases hw with rfl | rfl | rfl | rfl
            · exact g1
            · exact g2
            · exact g3
            · exact g4
          exact ⟨this, good_of_word (hgw _ this)⟩
        · exact hG w hw
      refine s_callgo (va_runV (C := M.1.cls) (As := trs rA sio As) (b := aR) (rest := trs rA sio (st.drop b1)) (n := b1 - 1) hFix hM (cwV (b1 - 1) hts hGV rfl rfl rfl ⟨rfl, g5, g6, g7⟩ hR) ⟨Pm_blind _ _, hcell, hpc⟩ rfl hn hsl hst hW8 hdg hf) hS k
    unfold m_rc at ho
    split at ho
    · rename_i o hc
      simp only [decide_eq_true_eq] at ho
      unfold m_cell at hc
      split at hc
      · rename_i ha
        obtain ⟨ci, fs⟩ := o
        rcases g8 with ⟨ci', qq, e1, e2, e3⟩ | ⟨e1, e2⟩
        · have : ci' = ci := by simp only at ho; omega
          subst this
          rw [← e3] at key
          exact key (b0 + a) (by rw [trv_ref rA sio ha, hrA a ha]) (va_recv hX.1 hP e2 (s_cell hc))
        · obtain ⟨rr, g9, -⟩ := (hP a _ (s_cell hc))
          have := (List.getElem?_eq_some_iff.mp g9).1
          simp only at this ho
          omega
      · rename_i ha
        obtain ⟨h1, v0, h2, h3, -⟩ := hX.2.1 _ _ hc
        rcases g8 with ⟨ci', qq, e1, e2, e3⟩ | ⟨e1, e2⟩
        · have := (List.getElem?_eq_some_iff.mp e2).1
          omega
        · rw [e2] at key
          obtain ⟨cell, q1, q2, q3, -⟩ := h3.kept hS.2.1
          exact key _ (trv_ro hr1 ha hc) ⟨cell, q1, q2, q3⟩
    · cases ho
  all_goals (simp only [m_inv, reduceCtorEq] at h)
end SimK
end
section
/-! THE SMALL MACHINE IS THE MACHINE, XII: what the small machine answers, the machine answers -/
section SimL
variable {l : Launch} {rA : Nat → Nat} {sio : Value} {cA : Nat → ClassId} {dC : Nat → ClassId} {dI : Nat → Nat → Nat} {cls : List vw_C} {b0 : Nat} {strT : StrT} {nestT : NestT} {ro : Nat → Option MC}
theorem sim {MT : List MM} {ws : List Cond} {fty : Nat → Nat → FieldType} {dfl : Nat → List Value} (hMT : ∀ mi M, MT[mi]? = some M → bodyOK cls fty MT ws strT nestT M ∧ (0 < mi → callOK ws M)) (hgw : ∀ w ∈ ws, goodWord w = true) (hcl : clsOK cls fty dfl ws) (h99 : cls.length ≤ 99) (hmt : MT.length ≤ 9000) (hs : sioOK sio) (hrA : ∀ a, a < KB → rA a = b0 + a) (hr1 : ∀ j y, ro j = some y → j ≠ 100) :
    ∀ (n d mi : Nat) (M : MM) (F : MH) (pc : Nat) (lv : LVs) (st : List Value) (z : Option Value × MH), MT[mi]? = some M → ex MT ro fty dfl n d mi F pc lv st = some z → rowsOK F →
    ∀ {p : Program} {e : Env} {R : Room} {s : State} {m : MethodId} {args : Array Value} {below : List Frame} {meth : Method} {c : Code} {H : Heap} {locs : List Loc} {cells slots : Nat} {ls : Array Slot} {Q : State → Prop},
    p.tables.exec = Jvm.exec → c.code = M.2.1 → c.maxLocals = M.2.2.1 → s.vm.findClass M.1.cls = some m.cls → meth.name = M.1.name → (∀ w ∈ ws, w.before args s = true) → CTX cls strT nestT ro rA sio b0 dC dI cA s → lv_has ls M.2.2.1 (trl rA sio lv) → va_P (dC, dI) cls (wsF (trE rA sio cA) b0 F) H → va_S (fun q => b0 ≤ q) s.heap H locs → s.heap.size + cells = b0 + F.length → b0 + F.length ≤ H.size →
    d + 1 ≤ R.frames → 64 * (d + 1) ≤ R.locals → cells + z.2.length ≤ R.cells + F.length → slots + mz z.2 ≤ R.slots + mz F →
    (∀ (E : MI) (st1 : List Value) (H1 : Heap) (l1 : List Loc) (ls1 : Array Slot) (c1 s1 : Nat), E ∈ M.2.2.2.2 → m_ret M.2.2.2.1 E st1 = some z.1 → va_P (dC, dI) cls (wsF (trE rA sio cA) b0 z.2) H1 → b0 + z.2.length ≤ H1.size → va_S (fun q => b0 ≤ q) s.heap H1 l1 → c1 + F.length = cells + z.2.length → s1 + mz F = slots + mz z.2 → W p l e R s m args below meth c H1 l1 c1 s1 Q (F0 m E.1 ls1 (trs rA sio st1))) →
    W p l e R s m args below meth c H locs cells slots Q (F0 m pc ls (trs rA sio st)) := by
  intro n
  induction n with
  | zero => intro d mi M F pc lv st z _ h; cases h
  | succ n ih =>
    intro d mi M F pc lv st z hM h hR p e R s m args below meth c H locs cells slots ls Q hx hb hml hown hmn hts hX hl hP hS hI hsz hRf hRl hc1 hs1 hret
    obtain ⟨hbody, -⟩ := hMT mi M hM
    rw [ex] at h
    split at h
    · cases h
    · rename_i EE hat
      obtain ⟨E, rt⟩ := EE
      obtain ⟨M', hM', hE, hpc, hrt⟩ := m_at_spec hat
      cases hM.symm.trans hM'
      simp only at hE hpc hrt h
      subst hpc
      subst hrt
      obtain ⟨hok, hiv⟩ := hbody E hE
      split at h
      · rename_i q hq
        have hg1 := one_grow hq
        have hg2 := ex_grow _ _ _ _ _ _ _ _ h
        refine s_one hx hb hts hown hmn hs hok hcl h99 hX hrA hr1 hR hl hP hS hI hsz hq (by omega) (by omega) (fun H1 l1 ls1 c1 s1 g1 g2 g3 g4 g5 g6 => ?_)
        exact ih d mi M q.1 q.2.1 q.2.2.1 q.2.2.2 z hM h (hg1.2.2 hR) hx hb hml hown hmn hts hX g4 g1 g3 (by omega) g2 hRf hRl (by omega) (by omega) (fun E1 st1 H2 l2 ls2 c2 s2 k1 k2 k3 k4 k5 k6 k7 => hret E1 st1 H2 l2 ls2 c2 s2 k1 k2 k3 k4 k5 (by omega) (by omega))
      · split at h
        · rename_i v hv
          cases h
          exact hret E st H locs ls cells slots hE hv hP hsz hS rfl rfl
        · split at h
          · cases h
          · rename_i q hq
            split at h
            · rename_i h9
              split at h
              · rename_i a hq2
                split at h
                · rename_i ha
                  obtain ⟨hdg, hlen, -, -⟩ := hok
                  have hEi : ∃ idx, E.2.1 = .invokespecial idx ∧ E.2.2.2.1 = 9999 ∧ Cond.methodLink M.1.cls idx Lib.objectInit ∈ ws ∧ Cond.instanceMethod Lib.objectInit ∈ ws ∧ Cond.code Lib.objectInit ⟨#[0xb1]⟩ 1 none ∈ ws ∧ ∃ (aa : Nat) (As : List Value), q = (E.2.2.2.1, .ref aa :: As, st.drop E.2.2.2.2.1) ∧ st = As.reverse ++ .ref aa :: st.drop E.2.2.2.2.1 ∧ ((st.drop E.2.2.2.2.1).map fun v => v.category).sum ≤ 8 := by
                    unfold m_inv at hq
                    unfold invOK at hiv
                    split at hq
                    · rename_i idx hEq
                      rw [hEq] at hiv
                      split at hq
                      · cases hq; exact absurd h9 hiv.1
                      · cases hq
                    · rename_i idx hEq
                      rw [hEq] at hiv
                      obtain ⟨aa, As, e1, -, -, e4, e5⟩ := m_iv_spec hq
                      subst e1
                      rcases hiv with ⟨g1, g2, g3, g4, g5⟩ | ⟨g1, -⟩
                      · exact ⟨idx, hEq, g1, g3, g4, g5, aa, As, rfl, e4, e5⟩
                      · exact absurd h9 g1
                    · rename_i idx hEq
                      rw [hEq] at hiv
                      obtain ⟨aa, As, e1, -⟩ := m_iv_spec hq
                      subst e1
                      exact absurd h9 hiv.1
                    · cases hq
                  obtain ⟨idx, hEq, -, g3, g4, g5, aa, As, eq1, eq2, eq3⟩ := hEi
                  subst eq1
                  simp only at hq2 h
                  obtain ⟨rfl, rfl⟩ : aa = a ∧ As = [] := by simpa using hq2
                  rw [hEq] at hdg hlen
                  simp only [m_len] at hlen
                  have hl3 : E.2.2.1 = 3 := by omega
                  rw [hl3] at hdg
                  have hst : trs rA sio st = .ref (rA aa) :: trs rA sio (st.drop E.2.2.2.2.1) := by
                    conv => lhs; rw [eq2]
                    simp only [trs, List.reverse_nil, List.nil_append, List.map_cons, trv_ref rA sio ha]
                  rw [hst]
                  refine W.objInit hx hb hown (hts _ g3) (hts _ g4) (hts _ g5) rfl (by rw [hml]; exact hl.1) rfl hdg (by omega) ?_ ?_
                  · have h8 := cat_tr (rA := rA) hs (st.drop E.2.2.2.2.1)
                    rw [h8]
                    show 2 * 0 + _ + 12 ≤ R.locals
                    omega
                  · exact ih d mi M F (E.1 + 3) lv _ z hM h hR hx hb hml hown hmn hts hX hl hP hS hI hsz hRf hRl hc1 hs1 hret
                · cases h
              · cases h
            · rename_i h9
              split at h
              · rename_i h8
                split at h
                · rename_i x y hq2
                  obtain ⟨hdg, hlen, -, -⟩ := hok
                  have hEi : ∃ idx, E.2.1 = .invokestatic idx ∧ Cond.methodLink M.1.cls idx Lib.Math.max.name ∈ ws ∧ Cond.static Lib.Math.max.name ∈ ws ∧ Cond.initialized "java/lang/Math" ∈ ws ∧ Cond.code Lib.Math.max.name Lib.Math.max.code 2 (some .int) ∈ ws ∧ q.2.1 = (st.take 2).reverse ∧ q.2.2 = st.drop 2 ∧ 2 ≤ st.length ∧ ((st.drop 2).map fun v => v.category).sum ≤ 8 := by
                    unfold m_inv at hq
                    unfold invOK at hiv
                    split at hq
                    · rename_i idx hEq
                      rw [hEq] at hiv
                      split at hq
                      · rename_i hb2
                        cases hq
                        simp only at h8 hiv
                        obtain ⟨-, ⟨-, g2, g3, g4, g5, g6⟩ | ⟨M', g0, -⟩⟩ := hiv
                        · rw [g2] at hb2 ⊢
                          exact ⟨idx, hEq, g3, g4, g5, g6, rfl, rfl, hb2.1, hb2.2⟩
                        · rw [h8] at g0
                          have hlt := (List.getElem?_eq_some_iff.mp g0).1
                          exact absurd hlt (by omega)
                      · cases hq
                    · rename_i idx hEq
                      rw [hEq] at hiv
                      obtain ⟨aa, As, e1, -, -, e4, e5⟩ := m_iv_spec hq
                      subst e1
                      simp only at h8 hiv
                      rcases hiv with ⟨g1, -⟩ | ⟨-, M', g0, -⟩
                      · omega
                      · rw [h8] at g0
                        have hlt := (List.getElem?_eq_some_iff.mp g0).1
                        exact absurd hlt (by omega)
                    · rename_i idx hEq
                      rw [hEq] at hiv
                      obtain ⟨aa, As, e1, -⟩ := m_iv_spec hq
                      subst e1
                      simp only at h8 hiv
                      obtain ⟨-, M', g0, -⟩ := hiv
                      rw [h8] at g0
                      have hlt := (List.getElem?_eq_some_iff.mp g0).1
                      exact absurd hlt (by omega)
                    · cases hq
                  obtain ⟨idx, hEq, g3, g4, g5, g6, eq1, eq2, hlen2, h8c⟩ := hEi
                  rw [hEq] at hdg hlen
                  simp only [m_len] at hlen
                  have hl3 : E.2.2.1 = 3 := by omega
                  rw [hl3] at hdg
                  have hst0 : st = .int y :: .int x :: st.drop 2 := by
                    rw [eq1] at hq2
                    have e1 : st.take 2 = [.int y, .int x] := by
                      have := congrArg List.reverse hq2
                      simpa using this
                    have e2 := List.take_append_drop 2 st
                    rw [e1] at e2
                    exact e2.symm
                  have hst : trs rA sio st = .int y :: .int x :: trs rA sio (st.drop 2) := by
                    conv => lhs; rw [hst0]
                    rfl
                  rw [hst]
                  rw [eq2] at h
                  have hg2 := ex_grow _ _ _ _ _ _ _ _ h
                  refine va_mmax hx hb (hml.trans hl.1.symm) hown (hts _ g3) (hts _ g4) (hts _ g5) (hts _ g6) (by omega) ?_ (by omega) (by omega) hdg ?_
                  · have h8 := cat_tr (rA := rA) hs (st.drop 2)
                    rw [h8]
                    omega
                  · exact ih d mi M F (E.1 + 3) lv _ z hM h hR hx hb hml hown hmn hts hX hl hP hS hI hsz hRf hRl hc1 hs1 hret
                · cases h
              · rename_i h8
                split at h
                rotate_left
                · cases h
                rename_i hroom
                split at h
                · cases h
                · rename_i d'
                  split at h
                  · cases h
                  · rename_i z1 hz1
                    unfold m_room at hroom
                    split at hroom
                    · rename_i Mc hMc
                      simp only [decide_eq_true_eq] at hroom
                      obtain ⟨hbc, hcc⟩ := hMT _ _ hMc
                      obtain ⟨hcw, h45, hpl⟩ := hcc hroom.1
                      have hg1 := ex_grow _ _ _ _ _ _ _ _ hz1
                      have hg2 := ex_grow _ _ _ _ _ _ _ _ h
                      have hMet : Met l Mc.1 (Cond.code Mc.1 Mc.2.1 Mc.2.2.1 Mc.2.2.2.1 :: ws) ({ frames := d' + 1, cells := z1.2.length - F.length, slots := mz z1.2 - mz F, locals := 64 * (d' + 1) } : Room) (Pm cls strT nestT ro rA sio b0 dC dI cA q.2.1 F) (Qm cls rA sio b0 dC dI cA z1.1 z1.2) (z1.2.length - F.length) (mz z1.2 - mz F) (fun q => b0 ≤ q) := by
                        refine met_of hs hpl hroom.2 ?_
                        intro p2 e2 s2 m2 args2 below2 meth2 c2 ls2 hx2 hb2 hml2 hown2 hmn2 hr2 hlk2 hts2 hX2 hsz2 hP2 hl2
                        refine ih d' q.1 Mc F 0 (lv_args 0 q.2.1) [] z1 hMc hz1 hR hx2 hb2 hml2 hown2 hmn2 hts2 hX2 hl2 hP2 va_S.rf (by omega) (by omega) (Nat.le_refl _) (Nat.le_refl _) (by show 0 + z1.2.length ≤ z1.2.length - F.length + F.length; omega) (by show 0 + mz z1.2 ≤ mz z1.2 - mz F + mz F; omega) ?_
                        intro E1 st1 H1 l1 ls1 c1 s1 k1 k2 k3 k4 k5 k6 k7
                        obtain ⟨⟨q1, q2, -, -⟩, -⟩ := hbc E1 k1
                        obtain rfl : c1 = z1.2.length - F.length := by omega
                        obtain rfl : s1 = mz z1.2 - mz F := by omega
                        exact s_ret hx2 hb2 hr2 hlk2 q1 q2 k2 k3 k4 k5
                      refine s_inv hx hb hml hts hgw hown hs hok.1 hok.2.1 hl.1 hiv h99 hX hrA hr1 hP hS hI hsz hq h9 h8 hMc hcw h45 hMet (by omega) (by omega) ⟨by omega, by omega⟩ (fun H1 l1 g1 g2 g3 => ?_)
                      exact ih (d' + 1) mi M z1.2 (E.1 + 3) lv _ z hM h (hg1.2.2 hR) hx hb hml hown hmn hts hX hl g1 g3 (by omega) g2 hRf hRl (by omega) (by omega) (fun E1 st1 H2 l2 ls2 c2 s2 k1 k2 k3 k4 k5 k6 k7 => hret E1 st1 H2 l2 ls2 c2 s2 k1 k2 k3 k4 k5 (by omega) (by omega))
                    · cases hroom
end SimL
end
