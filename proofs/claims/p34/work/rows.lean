section
-- ===== PART A: goes FIRST, ahead of the names: the tables' words, and 'selects' of the private methods out of them =====
/-- a private method of a class that the tables say can be made, by its rows of tables_1 -/
def lw_okq (q : MethodName × Nat) : Prop := (q.1.cls ≠ "java/lang/invoke/MethodHandle" ∧ q.1.cls ≠ "java/lang/invoke/VarHandle") ∧ Cond.instantiable q.1.cls q.2 ∈ tables_1 ∧ Cond.privateMethod q.1 ∈ tables_1 ∧ Cond.instanceMethod q.1 ∈ tables_1
theorem lw_p0 : lw_okq (⟨"DoorPaints$Tape", "skip", "(II)Z"⟩, 6) := ⟨⟨by decide +kernel, by decide +kernel⟩, List.mem_of_getElem? (i := 161) (by decide +kernel), List.mem_of_getElem? (i := 347) (by decide +kernel), List.mem_of_getElem? (i := 348) (by decide +kernel)⟩
theorem lw_p1 : lw_okq (⟨"DoorPaints$Tape", "takeNumber", "()V"⟩, 6) := ⟨⟨by decide +kernel, by decide +kernel⟩, List.mem_of_getElem? (i := 161) (by decide +kernel), List.mem_of_getElem? (i := 351) (by decide +kernel), List.mem_of_getElem? (i := 352) (by decide +kernel)⟩
theorem lw_p2 : lw_okq (⟨"DoorPaints$Reader", "readLine", "()V"⟩, 5) := ⟨⟨by decide +kernel, by decide +kernel⟩, List.mem_of_getElem? (i := 26) (by decide +kernel), List.mem_of_getElem? (i := 355) (by decide +kernel), List.mem_of_getElem? (i := 356) (by decide +kernel)⟩
theorem lw_p3 : lw_okq (⟨"DoorPaints$Reader", "stands", "(I)Z"⟩, 5) := ⟨⟨by decide +kernel, by decide +kernel⟩, List.mem_of_getElem? (i := 26) (by decide +kernel), List.mem_of_getElem? (i := 359) (by decide +kernel), List.mem_of_getElem? (i := 360) (by decide +kernel)⟩
theorem lw_p4 : lw_okq (⟨"DoorPaints$Reader", "fail", "(I)V"⟩, 5) := ⟨⟨by decide +kernel, by decide +kernel⟩, List.mem_of_getElem? (i := 26) (by decide +kernel), List.mem_of_getElem? (i := 363) (by decide +kernel), List.mem_of_getElem? (i := 364) (by decide +kernel)⟩
theorem lw_p5 : lw_okq (⟨"DoorPaints$Reader", "readDoor", "()V"⟩, 5) := ⟨⟨by decide +kernel, by decide +kernel⟩, List.mem_of_getElem? (i := 26) (by decide +kernel), List.mem_of_getElem? (i := 420) (by decide +kernel), List.mem_of_getElem? (i := 421) (by decide +kernel)⟩
theorem lw_p6 : lw_okq (⟨"DoorPaints$Reader", "numberStands", "(I)Z"⟩, 5) := ⟨⟨by decide +kernel, by decide +kernel⟩, List.mem_of_getElem? (i := 26) (by decide +kernel), List.mem_of_getElem? (i := 425) (by decide +kernel), List.mem_of_getElem? (i := 426) (by decide +kernel)⟩
theorem lw_p7 : lw_okq (⟨"DoorPaints$Reader", "endLine", "()V"⟩, 5) := ⟨⟨by decide +kernel, by decide +kernel⟩, List.mem_of_getElem? (i := 26) (by decide +kernel), List.mem_of_getElem? (i := 433) (by decide +kernel), List.mem_of_getElem? (i := 434) (by decide +kernel)⟩
theorem lw_p8 : lw_okq (⟨"DoorPaints$Reader", "readNot", "()V"⟩, 5) := ⟨⟨by decide +kernel, by decide +kernel⟩, List.mem_of_getElem? (i := 26) (by decide +kernel), List.mem_of_getElem? (i := 438) (by decide +kernel), List.mem_of_getElem? (i := 439) (by decide +kernel)⟩
theorem lw_p9 : lw_okq (⟨"DoorPaints$Reader", "readPlan", "()V"⟩, 5) := ⟨⟨by decide +kernel, by decide +kernel⟩, List.mem_of_getElem? (i := 26) (by decide +kernel), List.mem_of_getElem? (i := 451) (by decide +kernel), List.mem_of_getElem? (i := 452) (by decide +kernel)⟩
theorem lw_p10 : lw_okq (⟨"DoorPaints$Reader", "kindNamed", "()I"⟩, 5) := ⟨⟨by decide +kernel, by decide +kernel⟩, List.mem_of_getElem? (i := 26) (by decide +kernel), List.mem_of_getElem? (i := 465) (by decide +kernel), List.mem_of_getElem? (i := 466) (by decide +kernel)⟩
theorem lw_p11 : lw_okq (⟨"DoorPaints$Reader", "readVisitor", "(I)V"⟩, 5) := ⟨⟨by decide +kernel, by decide +kernel⟩, List.mem_of_getElem? (i := 26) (by decide +kernel), List.mem_of_getElem? (i := 473) (by decide +kernel), List.mem_of_getElem? (i := 474) (by decide +kernel)⟩
theorem lw_p12 : lw_okq (⟨"DoorPaints", "rehearse", "()I"⟩, 13) := ⟨⟨by decide +kernel, by decide +kernel⟩, List.mem_of_getElem? (i := 18) (by decide +kernel), List.mem_of_getElem? (i := 656) (by decide +kernel), List.mem_of_getElem? (i := 657) (by decide +kernel)⟩
theorem lw_p13 : lw_okq (⟨"DoorPaints", "actInTrial", "(II)I"⟩, 13) := ⟨⟨by decide +kernel, by decide +kernel⟩, List.mem_of_getElem? (i := 18) (by decide +kernel), List.mem_of_getElem? (i := 661) (by decide +kernel), List.mem_of_getElem? (i := 662) (by decide +kernel)⟩
theorem lw_p14 : lw_okq (⟨"DoorPaints", "takenInTrial", "()I"⟩, 13) := ⟨⟨by decide +kernel, by decide +kernel⟩, List.mem_of_getElem? (i := 18) (by decide +kernel), List.mem_of_getElem? (i := 674) (by decide +kernel), List.mem_of_getElem? (i := 675) (by decide +kernel)⟩
theorem lw_p15 : lw_okq (⟨"DoorPaints$Search", "begin", "(LDoorPaints$Town;I)V"⟩, 7) := ⟨⟨by decide +kernel, by decide +kernel⟩, List.mem_of_getElem? (i := 215) (by decide +kernel), List.mem_of_getElem? (i := 701) (by decide +kernel), List.mem_of_getElem? (i := 702) (by decide +kernel)⟩
def lw_privs_1 : List (MethodName × Nat) := [(⟨"DoorPaints$Tape", "skip", "(II)Z"⟩, 6), (⟨"DoorPaints$Tape", "takeNumber", "()V"⟩, 6), (⟨"DoorPaints$Reader", "readLine", "()V"⟩, 5), (⟨"DoorPaints$Reader", "stands", "(I)Z"⟩, 5), (⟨"DoorPaints$Reader", "fail", "(I)V"⟩, 5), (⟨"DoorPaints$Reader", "readDoor", "()V"⟩, 5), (⟨"DoorPaints$Reader", "numberStands", "(I)Z"⟩, 5), (⟨"DoorPaints$Reader", "endLine", "()V"⟩, 5), (⟨"DoorPaints$Reader", "readNot", "()V"⟩, 5), (⟨"DoorPaints$Reader", "readPlan", "()V"⟩, 5), (⟨"DoorPaints$Reader", "kindNamed", "()I"⟩, 5), (⟨"DoorPaints$Reader", "readVisitor", "(I)V"⟩, 5), (⟨"DoorPaints", "rehearse", "()I"⟩, 13), (⟨"DoorPaints", "actInTrial", "(II)I"⟩, 13), (⟨"DoorPaints", "takenInTrial", "()I"⟩, 13), (⟨"DoorPaints$Search", "begin", "(LDoorPaints$Town;I)V"⟩, 7)]
theorem lw_r1 : ∀ q ∈ lw_privs_1, lw_okq q := List.forall_mem_cons.mpr ⟨lw_p0, List.forall_mem_cons.mpr ⟨lw_p1, List.forall_mem_cons.mpr ⟨lw_p2, List.forall_mem_cons.mpr ⟨lw_p3, List.forall_mem_cons.mpr ⟨lw_p4, List.forall_mem_cons.mpr ⟨lw_p5, List.forall_mem_cons.mpr ⟨lw_p6, List.forall_mem_cons.mpr ⟨lw_p7, List.forall_mem_cons.mpr ⟨lw_p8, List.forall_mem_cons.mpr ⟨lw_p9, List.forall_mem_cons.mpr ⟨lw_p10, List.forall_mem_cons.mpr ⟨lw_p11, List.forall_mem_cons.mpr ⟨lw_p12, List.forall_mem_cons.mpr ⟨lw_p13, List.forall_mem_cons.mpr ⟨lw_p14, List.forall_mem_cons.mpr ⟨lw_p15, fun _ h => absurd h List.not_mem_nil⟩⟩⟩⟩⟩⟩⟩⟩⟩⟩⟩⟩⟩⟩⟩⟩
theorem lw_p16 : lw_okq (⟨"DoorPaints$Search", "tryFrom", "(III)V"⟩, 7) := ⟨⟨by decide +kernel, by decide +kernel⟩, List.mem_of_getElem? (i := 215) (by decide +kernel), List.mem_of_getElem? (i := 717) (by decide +kernel), List.mem_of_getElem? (i := 718) (by decide +kernel)⟩
theorem lw_p17 : lw_okq (⟨"DoorPaints$Search", "isBetter", "(II)Z"⟩, 7) := ⟨⟨by decide +kernel, by decide +kernel⟩, List.mem_of_getElem? (i := 215) (by decide +kernel), List.mem_of_getElem? (i := 721) (by decide +kernel), List.mem_of_getElem? (i := 722) (by decide +kernel)⟩
theorem lw_p18 : lw_okq (⟨"DoorPaints$Search", "take", "(II)V"⟩, 7) := ⟨⟨by decide +kernel, by decide +kernel⟩, List.mem_of_getElem? (i := 215) (by decide +kernel), List.mem_of_getElem? (i := 725) (by decide +kernel), List.mem_of_getElem? (i := 726) (by decide +kernel)⟩
theorem lw_p19 : lw_okq (⟨"DoorPaints$Search", "mayImprove", "(III)Z"⟩, 7) := ⟨⟨by decide +kernel, by decide +kernel⟩, List.mem_of_getElem? (i := 215) (by decide +kernel), List.mem_of_getElem? (i := 729) (by decide +kernel), List.mem_of_getElem? (i := 730) (by decide +kernel)⟩
theorem lw_p20 : lw_okq (⟨"DoorPaints$Search", "tryVisit", "(IIIII)V"⟩, 7) := ⟨⟨by decide +kernel, by decide +kernel⟩, List.mem_of_getElem? (i := 215) (by decide +kernel), List.mem_of_getElem? (i := 736) (by decide +kernel), List.mem_of_getElem? (i := 737) (by decide +kernel)⟩
theorem lw_p21 : lw_okq (⟨"DoorPaints", "arrange", "(II)V"⟩, 13) := ⟨⟨by decide +kernel, by decide +kernel⟩, List.mem_of_getElem? (i := 18) (by decide +kernel), List.mem_of_getElem? (i := 801) (by decide +kernel), List.mem_of_getElem? (i := 802) (by decide +kernel)⟩
theorem lw_p22 : lw_okq (⟨"DoorPaints", "judgeOrder", "(I)V"⟩, 13) := ⟨⟨by decide +kernel, by decide +kernel⟩, List.mem_of_getElem? (i := 18) (by decide +kernel), List.mem_of_getElem? (i := 805) (by decide +kernel), List.mem_of_getElem? (i := 806) (by decide +kernel)⟩
theorem lw_p23 : lw_okq (⟨"DoorPaints", "actChosen", "(I)V"⟩, 13) := ⟨⟨by decide +kernel, by decide +kernel⟩, List.mem_of_getElem? (i := 18) (by decide +kernel), List.mem_of_getElem? (i := 822) (by decide +kernel), List.mem_of_getElem? (i := 823) (by decide +kernel)⟩
theorem lw_p24 : lw_okq (⟨"DoorPaintsModel", "firstDraft", "()V"⟩, 33) := ⟨⟨by decide +kernel, by decide +kernel⟩, List.mem_of_getElem? (i := 903) (by decide +kernel), List.mem_of_getElem? (i := 909) (by decide +kernel), List.mem_of_getElem? (i := 910) (by decide +kernel)⟩
theorem lw_p25 : lw_okq (⟨"DoorPaintsModel", "keepDraft", "()V"⟩, 33) := ⟨⟨by decide +kernel, by decide +kernel⟩, List.mem_of_getElem? (i := 903) (by decide +kernel), List.mem_of_getElem? (i := 913) (by decide +kernel), List.mem_of_getElem? (i := 914) (by decide +kernel)⟩
theorem lw_p26 : lw_okq (⟨"DoorPaintsModel", "next", "()V"⟩, 33) := ⟨⟨by decide +kernel, by decide +kernel⟩, List.mem_of_getElem? (i := 903) (by decide +kernel), List.mem_of_getElem? (i := 1033) (by decide +kernel), List.mem_of_getElem? (i := 1034) (by decide +kernel)⟩
theorem lw_p27 : lw_okq (⟨"DoorPaintsModel", "byteAt", "(I)I"⟩, 33) := ⟨⟨by decide +kernel, by decide +kernel⟩, List.mem_of_getElem? (i := 903) (by decide +kernel), List.mem_of_getElem? (i := 1037) (by decide +kernel), List.mem_of_getElem? (i := 1038) (by decide +kernel)⟩
theorem lw_p28 : lw_okq (⟨"DoorPaintsModel", "needs", "(ZI)V"⟩, 33) := ⟨⟨by decide +kernel, by decide +kernel⟩, List.mem_of_getElem? (i := 903) (by decide +kernel), List.mem_of_getElem? (i := 1045) (by decide +kernel), List.mem_of_getElem? (i := 1046) (by decide +kernel)⟩
theorem lw_p29 : lw_okq (⟨"DoorPaintsModel", "readLine", "()V"⟩, 33) := ⟨⟨by decide +kernel, by decide +kernel⟩, List.mem_of_getElem? (i := 903) (by decide +kernel), List.mem_of_getElem? (i := 1049) (by decide +kernel), List.mem_of_getElem? (i := 1050) (by decide +kernel)⟩
theorem lw_p30 : lw_okq (⟨"DoorPaintsModel", "lineNow", "()I"⟩, 33) := ⟨⟨by decide +kernel, by decide +kernel⟩, List.mem_of_getElem? (i := 903) (by decide +kernel), List.mem_of_getElem? (i := 1053) (by decide +kernel), List.mem_of_getElem? (i := 1054) (by decide +kernel)⟩
theorem lw_p31 : lw_okq (⟨"DoorPaintsModel", "is", "(IIII)Z"⟩, 33) := ⟨⟨by decide +kernel, by decide +kernel⟩, List.mem_of_getElem? (i := 903) (by decide +kernel), List.mem_of_getElem? (i := 1057) (by decide +kernel), List.mem_of_getElem? (i := 1058) (by decide +kernel)⟩
def lw_privs_2 : List (MethodName × Nat) := [(⟨"DoorPaints$Search", "tryFrom", "(III)V"⟩, 7), (⟨"DoorPaints$Search", "isBetter", "(II)Z"⟩, 7), (⟨"DoorPaints$Search", "take", "(II)V"⟩, 7), (⟨"DoorPaints$Search", "mayImprove", "(III)Z"⟩, 7), (⟨"DoorPaints$Search", "tryVisit", "(IIIII)V"⟩, 7), (⟨"DoorPaints", "arrange", "(II)V"⟩, 13), (⟨"DoorPaints", "judgeOrder", "(I)V"⟩, 13), (⟨"DoorPaints", "actChosen", "(I)V"⟩, 13), (⟨"DoorPaintsModel", "firstDraft", "()V"⟩, 33), (⟨"DoorPaintsModel", "keepDraft", "()V"⟩, 33), (⟨"DoorPaintsModel", "next", "()V"⟩, 33), (⟨"DoorPaintsModel", "byteAt", "(I)I"⟩, 33), (⟨"DoorPaintsModel", "needs", "(ZI)V"⟩, 33), (⟨"DoorPaintsModel", "readLine", "()V"⟩, 33), (⟨"DoorPaintsModel", "lineNow", "()I"⟩, 33), (⟨"DoorPaintsModel", "is", "(IIII)Z"⟩, 33)]
theorem lw_r2 : ∀ q ∈ lw_privs_2, lw_okq q := List.forall_mem_cons.mpr ⟨lw_p16, List.forall_mem_cons.mpr ⟨lw_p17, List.forall_mem_cons.mpr ⟨lw_p18, List.forall_mem_cons.mpr ⟨lw_p19, List.forall_mem_cons.mpr ⟨lw_p20, List.forall_mem_cons.mpr ⟨lw_p21, List.forall_mem_cons.mpr ⟨lw_p22, List.forall_mem_cons.mpr ⟨lw_p23, List.forall_mem_cons.mpr ⟨lw_p24, List.forall_mem_cons.mpr ⟨lw_p25, List.forall_mem_cons.mpr ⟨lw_p26, List.forall_mem_cons.mpr ⟨lw_p27, List.forall_mem_cons.mpr ⟨lw_p28, List.forall_mem_cons.mpr ⟨lw_p29, List.forall_mem_cons.mpr ⟨lw_p30, List.forall_mem_cons.mpr ⟨lw_p31, fun _ h => absurd h List.not_mem_nil⟩⟩⟩⟩⟩⟩⟩⟩⟩⟩⟩⟩⟩⟩⟩⟩
theorem lw_p32 : lw_okq (⟨"DoorPaintsModel", "ends", "(III)Z"⟩, 33) := ⟨⟨by decide +kernel, by decide +kernel⟩, List.mem_of_getElem? (i := 903) (by decide +kernel), List.mem_of_getElem? (i := 1061) (by decide +kernel), List.mem_of_getElem? (i := 1062) (by decide +kernel)⟩
theorem lw_p33 : lw_okq (⟨"DoorPaintsModel", "readLineOf", "(I)V"⟩, 33) := ⟨⟨by decide +kernel, by decide +kernel⟩, List.mem_of_getElem? (i := 903) (by decide +kernel), List.mem_of_getElem? (i := 1065) (by decide +kernel), List.mem_of_getElem? (i := 1066) (by decide +kernel)⟩
theorem lw_p34 : lw_okq (⟨"DoorPaintsModel", "readDoor", "()V"⟩, 33) := ⟨⟨by decide +kernel, by decide +kernel⟩, List.mem_of_getElem? (i := 903) (by decide +kernel), List.mem_of_getElem? (i := 1069) (by decide +kernel), List.mem_of_getElem? (i := 1070) (by decide +kernel)⟩
theorem lw_p35 : lw_okq (⟨"DoorPaintsModel", "readNumber", "(II)I"⟩, 33) := ⟨⟨by decide +kernel, by decide +kernel⟩, List.mem_of_getElem? (i := 903) (by decide +kernel), List.mem_of_getElem? (i := 1073) (by decide +kernel), List.mem_of_getElem? (i := 1074) (by decide +kernel)⟩
theorem lw_p36 : lw_okq (⟨"DoorPaintsModel", "looked", "(II)I"⟩, 33) := ⟨⟨by decide +kernel, by decide +kernel⟩, List.mem_of_getElem? (i := 903) (by decide +kernel), List.mem_of_getElem? (i := 1077) (by decide +kernel), List.mem_of_getElem? (i := 1078) (by decide +kernel)⟩
theorem lw_p37 : lw_okq (⟨"DoorPaintsModel", "readNot", "()V"⟩, 33) := ⟨⟨by decide +kernel, by decide +kernel⟩, List.mem_of_getElem? (i := 903) (by decide +kernel), List.mem_of_getElem? (i := 1081) (by decide +kernel), List.mem_of_getElem? (i := 1082) (by decide +kernel)⟩
theorem lw_p38 : lw_okq (⟨"DoorPaintsModel", "readPlan", "()V"⟩, 33) := ⟨⟨by decide +kernel, by decide +kernel⟩, List.mem_of_getElem? (i := 903) (by decide +kernel), List.mem_of_getElem? (i := 1085) (by decide +kernel), List.mem_of_getElem? (i := 1086) (by decide +kernel)⟩
theorem lw_p39 : lw_okq (⟨"DoorPaintsModel", "readVisitor", "(I)V"⟩, 33) := ⟨⟨by decide +kernel, by decide +kernel⟩, List.mem_of_getElem? (i := 903) (by decide +kernel), List.mem_of_getElem? (i := 1095) (by decide +kernel), List.mem_of_getElem? (i := 1096) (by decide +kernel)⟩
theorem lw_p40 : lw_okq (⟨"DoorPaintsModel", "starts", "()V"⟩, 33) := ⟨⟨by decide +kernel, by decide +kernel⟩, List.mem_of_getElem? (i := 903) (by decide +kernel), List.mem_of_getElem? (i := 1107) (by decide +kernel), List.mem_of_getElem? (i := 1108) (by decide +kernel)⟩
theorem lw_p41 : lw_okq (⟨"DoorPaintsModel", "ofDoor", "(II)I"⟩, 33) := ⟨⟨by decide +kernel, by decide +kernel⟩, List.mem_of_getElem? (i := 903) (by decide +kernel), List.mem_of_getElem? (i := 1111) (by decide +kernel), List.mem_of_getElem? (i := 1112) (by decide +kernel)⟩
theorem lw_p42 : lw_okq (⟨"DoorPaintsModel", "of", "(II)I"⟩, 33) := ⟨⟨by decide +kernel, by decide +kernel⟩, List.mem_of_getElem? (i := 903) (by decide +kernel), List.mem_of_getElem? (i := 1115) (by decide +kernel), List.mem_of_getElem? (i := 1116) (by decide +kernel)⟩
theorem lw_p43 : lw_okq (⟨"DoorPaintsModel", "wrong", "()I"⟩, 33) := ⟨⟨by decide +kernel, by decide +kernel⟩, List.mem_of_getElem? (i := 903) (by decide +kernel), List.mem_of_getElem? (i := 1119) (by decide +kernel), List.mem_of_getElem? (i := 1120) (by decide +kernel)⟩
theorem lw_p44 : lw_okq (⟨"DoorPaintsModel", "isWrong", "(I)Z"⟩, 33) := ⟨⟨by decide +kernel, by decide +kernel⟩, List.mem_of_getElem? (i := 903) (by decide +kernel), List.mem_of_getElem? (i := 1123) (by decide +kernel), List.mem_of_getElem? (i := 1124) (by decide +kernel)⟩
theorem lw_p45 : lw_okq (⟨"DoorPaintsModel", "showsOf", "(I)I"⟩, 33) := ⟨⟨by decide +kernel, by decide +kernel⟩, List.mem_of_getElem? (i := 903) (by decide +kernel), List.mem_of_getElem? (i := 1127) (by decide +kernel), List.mem_of_getElem? (i := 1128) (by decide +kernel)⟩
theorem lw_p46 : lw_okq (⟨"DoorPaintsModel", "layerOf", "(II)I"⟩, 33) := ⟨⟨by decide +kernel, by decide +kernel⟩, List.mem_of_getElem? (i := 903) (by decide +kernel), List.mem_of_getElem? (i := 1131) (by decide +kernel), List.mem_of_getElem? (i := 1132) (by decide +kernel)⟩
theorem lw_p47 : lw_okq (⟨"DoorPaintsModel", "isVisitor", "(I)Z"⟩, 33) := ⟨⟨by decide +kernel, by decide +kernel⟩, List.mem_of_getElem? (i := 903) (by decide +kernel), List.mem_of_getElem? (i := 1142) (by decide +kernel), List.mem_of_getElem? (i := 1143) (by decide +kernel)⟩
def lw_privs_3 : List (MethodName × Nat) := [(⟨"DoorPaintsModel", "ends", "(III)Z"⟩, 33), (⟨"DoorPaintsModel", "readLineOf", "(I)V"⟩, 33), (⟨"DoorPaintsModel", "readDoor", "()V"⟩, 33), (⟨"DoorPaintsModel", "readNumber", "(II)I"⟩, 33), (⟨"DoorPaintsModel", "looked", "(II)I"⟩, 33), (⟨"DoorPaintsModel", "readNot", "()V"⟩, 33), (⟨"DoorPaintsModel", "readPlan", "()V"⟩, 33), (⟨"DoorPaintsModel", "readVisitor", "(I)V"⟩, 33), (⟨"DoorPaintsModel", "starts", "()V"⟩, 33), (⟨"DoorPaintsModel", "ofDoor", "(II)I"⟩, 33), (⟨"DoorPaintsModel", "of", "(II)I"⟩, 33), (⟨"DoorPaintsModel", "wrong", "()I"⟩, 33), (⟨"DoorPaintsModel", "isWrong", "(I)Z"⟩, 33), (⟨"DoorPaintsModel", "showsOf", "(I)I"⟩, 33), (⟨"DoorPaintsModel", "layerOf", "(II)I"⟩, 33), (⟨"DoorPaintsModel", "isVisitor", "(I)Z"⟩, 33)]
theorem lw_r3 : ∀ q ∈ lw_privs_3, lw_okq q := List.forall_mem_cons.mpr ⟨lw_p32, List.forall_mem_cons.mpr ⟨lw_p33, List.forall_mem_cons.mpr ⟨lw_p34, List.forall_mem_cons.mpr ⟨lw_p35, List.forall_mem_cons.mpr ⟨lw_p36, List.forall_mem_cons.mpr ⟨lw_p37, List.forall_mem_cons.mpr ⟨lw_p38, List.forall_mem_cons.mpr ⟨lw_p39, List.forall_mem_cons.mpr ⟨lw_p40, List.forall_mem_cons.mpr ⟨lw_p41, List.forall_mem_cons.mpr ⟨lw_p42, List.forall_mem_cons.mpr ⟨lw_p43, List.forall_mem_cons.mpr ⟨lw_p44, List.forall_mem_cons.mpr ⟨lw_p45, List.forall_mem_cons.mpr ⟨lw_p46, List.forall_mem_cons.mpr ⟨lw_p47, fun _ h => absurd h List.not_mem_nil⟩⟩⟩⟩⟩⟩⟩⟩⟩⟩⟩⟩⟩⟩⟩⟩
theorem lw_p48 : lw_okq (⟨"DoorPaintsModel", "brushOf", "(I)I"⟩, 33) := ⟨⟨by decide +kernel, by decide +kernel⟩, List.mem_of_getElem? (i := 903) (by decide +kernel), List.mem_of_getElem? (i := 1147) (by decide +kernel), List.mem_of_getElem? (i := 1148) (by decide +kernel)⟩
theorem lw_p49 : lw_okq (⟨"DoorPaintsModel", "ownBrush", "(I)I"⟩, 33) := ⟨⟨by decide +kernel, by decide +kernel⟩, List.mem_of_getElem? (i := 903) (by decide +kernel), List.mem_of_getElem? (i := 1151) (by decide +kernel), List.mem_of_getElem? (i := 1152) (by decide +kernel)⟩
theorem lw_p50 : lw_okq (⟨"DoorPaintsModel", "isDoor", "(I)Z"⟩, 33) := ⟨⟨by decide +kernel, by decide +kernel⟩, List.mem_of_getElem? (i := 903) (by decide +kernel), List.mem_of_getElem? (i := 1159) (by decide +kernel), List.mem_of_getElem? (i := 1160) (by decide +kernel)⟩
theorem lw_p51 : lw_okq (⟨"DoorPaintsModel", "usesOf", "(II)I"⟩, 33) := ⟨⟨by decide +kernel, by decide +kernel⟩, List.mem_of_getElem? (i := 903) (by decide +kernel), List.mem_of_getElem? (i := 1172) (by decide +kernel), List.mem_of_getElem? (i := 1173) (by decide +kernel)⟩
theorem lw_p52 : lw_okq (⟨"DoorPaintsModel", "keepsOut", "(II)I"⟩, 33) := ⟨⟨by decide +kernel, by decide +kernel⟩, List.mem_of_getElem? (i := 903) (by decide +kernel), List.mem_of_getElem? (i := 1180) (by decide +kernel), List.mem_of_getElem? (i := 1181) (by decide +kernel)⟩
theorem lw_p53 : lw_okq (⟨"DoorPaintsModel", "visits", "(II)I"⟩, 33) := ⟨⟨by decide +kernel, by decide +kernel⟩, List.mem_of_getElem? (i := 903) (by decide +kernel), List.mem_of_getElem? (i := 1184) (by decide +kernel), List.mem_of_getElem? (i := 1185) (by decide +kernel)⟩
theorem lw_p54 : lw_okq (⟨"DoorPaintsModel", "becomesDoor", "(III)V"⟩, 33) := ⟨⟨by decide +kernel, by decide +kernel⟩, List.mem_of_getElem? (i := 903) (by decide +kernel), List.mem_of_getElem? (i := 1188) (by decide +kernel), List.mem_of_getElem? (i := 1189) (by decide +kernel)⟩
theorem lw_p55 : lw_okq (⟨"DoorPaintsModel", "settles", "()V"⟩, 33) := ⟨⟨by decide +kernel, by decide +kernel⟩, List.mem_of_getElem? (i := 903) (by decide +kernel), List.mem_of_getElem? (i := 1192) (by decide +kernel), List.mem_of_getElem? (i := 1193) (by decide +kernel)⟩
theorem lw_p56 : lw_okq (⟨"DoorPaintsModel", "goesBy", "(I)V"⟩, 33) := ⟨⟨by decide +kernel, by decide +kernel⟩, List.mem_of_getElem? (i := 903) (by decide +kernel), List.mem_of_getElem? (i := 1201) (by decide +kernel), List.mem_of_getElem? (i := 1202) (by decide +kernel)⟩
theorem lw_p57 : lw_okq (⟨"DoorPaintsModel", "rains", "(I)V"⟩, 33) := ⟨⟨by decide +kernel, by decide +kernel⟩, List.mem_of_getElem? (i := 903) (by decide +kernel), List.mem_of_getElem? (i := 1205) (by decide +kernel), List.mem_of_getElem? (i := 1206) (by decide +kernel)⟩
theorem lw_p58 : lw_okq (⟨"DoorPaintsModel", "layers", "()I"⟩, 33) := ⟨⟨by decide +kernel, by decide +kernel⟩, List.mem_of_getElem? (i := 903) (by decide +kernel), List.mem_of_getElem? (i := 1209) (by decide +kernel), List.mem_of_getElem? (i := 1210) (by decide +kernel)⟩
theorem lw_p59 : lw_okq (⟨"DoorPaintsModel", "becomes", "(II)I"⟩, 33) := ⟨⟨by decide +kernel, by decide +kernel⟩, List.mem_of_getElem? (i := 903) (by decide +kernel), List.mem_of_getElem? (i := 1224) (by decide +kernel), List.mem_of_getElem? (i := 1225) (by decide +kernel)⟩
theorem lw_p60 : lw_okq (⟨"DoorPaintsModel", "isAct", "(I)Z"⟩, 33) := ⟨⟨by decide +kernel, by decide +kernel⟩, List.mem_of_getElem? (i := 903) (by decide +kernel), List.mem_of_getElem? (i := 1236) (by decide +kernel), List.mem_of_getElem? (i := 1237) (by decide +kernel)⟩
theorem lw_p61 : lw_okq (⟨"DoorPaintsModel", "acts", "(I)V"⟩, 33) := ⟨⟨by decide +kernel, by decide +kernel⟩, List.mem_of_getElem? (i := 903) (by decide +kernel), List.mem_of_getElem? (i := 1248) (by decide +kernel), List.mem_of_getElem? (i := 1249) (by decide +kernel)⟩
theorem lw_p62 : lw_okq (⟨"DoorPaintsModel", "plansGo", "()V"⟩, 33) := ⟨⟨by decide +kernel, by decide +kernel⟩, List.mem_of_getElem? (i := 903) (by decide +kernel), List.mem_of_getElem? (i := 1256) (by decide +kernel), List.mem_of_getElem? (i := 1257) (by decide +kernel)⟩
theorem lw_p63 : lw_okq (⟨"DoorPaintsModel", "kindsOfVisit", "()I"⟩, 33) := ⟨⟨by decide +kernel, by decide +kernel⟩, List.mem_of_getElem? (i := 903) (by decide +kernel), List.mem_of_getElem? (i := 1271) (by decide +kernel), List.mem_of_getElem? (i := 1272) (by decide +kernel)⟩
def lw_privs_4 : List (MethodName × Nat) := [(⟨"DoorPaintsModel", "brushOf", "(I)I"⟩, 33), (⟨"DoorPaintsModel", "ownBrush", "(I)I"⟩, 33), (⟨"DoorPaintsModel", "isDoor", "(I)Z"⟩, 33), (⟨"DoorPaintsModel", "usesOf", "(II)I"⟩, 33), (⟨"DoorPaintsModel", "keepsOut", "(II)I"⟩, 33), (⟨"DoorPaintsModel", "visits", "(II)I"⟩, 33), (⟨"DoorPaintsModel", "becomesDoor", "(III)V"⟩, 33), (⟨"DoorPaintsModel", "settles", "()V"⟩, 33), (⟨"DoorPaintsModel", "goesBy", "(I)V"⟩, 33), (⟨"DoorPaintsModel", "rains", "(I)V"⟩, 33), (⟨"DoorPaintsModel", "layers", "()I"⟩, 33), (⟨"DoorPaintsModel", "becomes", "(II)I"⟩, 33), (⟨"DoorPaintsModel", "isAct", "(I)Z"⟩, 33), (⟨"DoorPaintsModel", "acts", "(I)V"⟩, 33), (⟨"DoorPaintsModel", "plansGo", "()V"⟩, 33), (⟨"DoorPaintsModel", "kindsOfVisit", "()I"⟩, 33)]
theorem lw_r4 : ∀ q ∈ lw_privs_4, lw_okq q := List.forall_mem_cons.mpr ⟨lw_p48, List.forall_mem_cons.mpr ⟨lw_p49, List.forall_mem_cons.mpr ⟨lw_p50, List.forall_mem_cons.mpr ⟨lw_p51, List.forall_mem_cons.mpr ⟨lw_p52, List.forall_mem_cons.mpr ⟨lw_p53, List.forall_mem_cons.mpr ⟨lw_p54, List.forall_mem_cons.mpr ⟨lw_p55, List.forall_mem_cons.mpr ⟨lw_p56, List.forall_mem_cons.mpr ⟨lw_p57, List.forall_mem_cons.mpr ⟨lw_p58, List.forall_mem_cons.mpr ⟨lw_p59, List.forall_mem_cons.mpr ⟨lw_p60, List.forall_mem_cons.mpr ⟨lw_p61, List.forall_mem_cons.mpr ⟨lw_p62, List.forall_mem_cons.mpr ⟨lw_p63, fun _ h => absurd h List.not_mem_nil⟩⟩⟩⟩⟩⟩⟩⟩⟩⟩⟩⟩⟩⟩⟩⟩
theorem lw_p64 : lw_okq (⟨"DoorPaintsModel", "rowsOf", "(I)I"⟩, 33) := ⟨⟨by decide +kernel, by decide +kernel⟩, List.mem_of_getElem? (i := 903) (by decide +kernel), List.mem_of_getElem? (i := 1276) (by decide +kernel), List.mem_of_getElem? (i := 1277) (by decide +kernel)⟩
theorem lw_p65 : lw_okq (⟨"DoorPaintsModel", "goesRow", "(II)V"⟩, 33) := ⟨⟨by decide +kernel, by decide +kernel⟩, List.mem_of_getElem? (i := 903) (by decide +kernel), List.mem_of_getElem? (i := 1280) (by decide +kernel), List.mem_of_getElem? (i := 1281) (by decide +kernel)⟩
theorem lw_p66 : lw_okq (⟨"DoorPaintsModel", "actAt", "(I)I"⟩, 33) := ⟨⟨by decide +kernel, by decide +kernel⟩, List.mem_of_getElem? (i := 903) (by decide +kernel), List.mem_of_getElem? (i := 1284) (by decide +kernel), List.mem_of_getElem? (i := 1285) (by decide +kernel)⟩
theorem lw_p67 : lw_okq (⟨"DoorPaintsModel", "visitIn", "(III)I"⟩, 33) := ⟨⟨by decide +kernel, by decide +kernel⟩, List.mem_of_getElem? (i := 903) (by decide +kernel), List.mem_of_getElem? (i := 1291) (by decide +kernel), List.mem_of_getElem? (i := 1292) (by decide +kernel)⟩
theorem lw_p68 : lw_okq (⟨"DoorPaintsModel", "isSo", "()Z"⟩, 33) := ⟨⟨by decide +kernel, by decide +kernel⟩, List.mem_of_getElem? (i := 903) (by decide +kernel), List.mem_of_getElem? (i := 1315) (by decide +kernel), List.mem_of_getElem? (i := 1316) (by decide +kernel)⟩
theorem lw_p69 : lw_okq (⟨"DoorPaintsModel", "isOrder", "(I)Z"⟩, 33) := ⟨⟨by decide +kernel, by decide +kernel⟩, List.mem_of_getElem? (i := 903) (by decide +kernel), List.mem_of_getElem? (i := 1327) (by decide +kernel), List.mem_of_getElem? (i := 1328) (by decide +kernel)⟩
theorem lw_p70 : lw_okq (⟨"DoorPaintsModel", "findOdds", "(II)V"⟩, 33) := ⟨⟨by decide +kernel, by decide +kernel⟩, List.mem_of_getElem? (i := 903) (by decide +kernel), List.mem_of_getElem? (i := 1337) (by decide +kernel), List.mem_of_getElem? (i := 1338) (by decide +kernel)⟩
theorem lw_p71 : lw_okq (⟨"DoorPaintsModel", "copies", "(II)V"⟩, 33) := ⟨⟨by decide +kernel, by decide +kernel⟩, List.mem_of_getElem? (i := 903) (by decide +kernel), List.mem_of_getElem? (i := 1361) (by decide +kernel), List.mem_of_getElem? (i := 1362) (by decide +kernel)⟩
def lw_privs_5 : List (MethodName × Nat) := [(⟨"DoorPaintsModel", "rowsOf", "(I)I"⟩, 33), (⟨"DoorPaintsModel", "goesRow", "(II)V"⟩, 33), (⟨"DoorPaintsModel", "actAt", "(I)I"⟩, 33), (⟨"DoorPaintsModel", "visitIn", "(III)I"⟩, 33), (⟨"DoorPaintsModel", "isSo", "()Z"⟩, 33), (⟨"DoorPaintsModel", "isOrder", "(I)Z"⟩, 33), (⟨"DoorPaintsModel", "findOdds", "(II)V"⟩, 33), (⟨"DoorPaintsModel", "copies", "(II)V"⟩, 33)]
theorem lw_r5 : ∀ q ∈ lw_privs_5, lw_okq q := List.forall_mem_cons.mpr ⟨lw_p64, List.forall_mem_cons.mpr ⟨lw_p65, List.forall_mem_cons.mpr ⟨lw_p66, List.forall_mem_cons.mpr ⟨lw_p67, List.forall_mem_cons.mpr ⟨lw_p68, List.forall_mem_cons.mpr ⟨lw_p69, List.forall_mem_cons.mpr ⟨lw_p70, List.forall_mem_cons.mpr ⟨lw_p71, fun _ h => absurd h List.not_mem_nil⟩⟩⟩⟩⟩⟩⟩⟩
def lw_privs : List (MethodName × Nat) := lw_privs_1 ++ (lw_privs_2 ++ (lw_privs_3 ++ (lw_privs_4 ++ (lw_privs_5))))
def lw_tbl : List Cond := k2_sels lw_privs ++ tables_1
theorem lw_privs_ok : ∀ q ∈ lw_privs, lw_okq q := by
  show ∀ q ∈ lw_privs_1 ++ (lw_privs_2 ++ (lw_privs_3 ++ (lw_privs_4 ++ (lw_privs_5)))), lw_okq q
  exact List.forall_mem_append.mpr ⟨lw_r1, List.forall_mem_append.mpr ⟨lw_r2, List.forall_mem_append.mpr ⟨lw_r3, List.forall_mem_append.mpr ⟨lw_r4, lw_r5⟩⟩⟩⟩
-- ===== end of PART A; then your names; then what follows =====
end
section
/-! THE SMALL MACHINE: a run of the bytecode over a list of cells, as a function. What it answers, the machine answers (the parts behind). -/
/-- a cell: an object (number of its class, fields), a row of ints (kind, contents), a row of references (kind, contents) -/
abbrev MC : Type := (Nat × List Value) ⊕ (Nat × List Int32) ⊕ (Nat × List (Option Nat))
abbrev MH : Type := List MC
abbrev LVs : Type := List (Nat × Value)
/-- an instruction as it is listed: pc, the instruction, its length, and three numbers that it is resolved to -/
abbrev MI : Type := Nat × Instr × Nat × Nat × Nat × Int
def m_get (lv : LVs) (i : Nat) : Option Value := (lv.find? (fun q => q.1 == i)).map (fun q => q.2)
def m_put1 (lv : LVs) (i : Nat) (v : Value) : LVs := (i, v) :: lv.filter (fun q => !(q.1 == i) && !(q.1 + 1 == i && q.2.category == 2))
def m_put2 (lv : LVs) (i : Nat) (v : Value) : LVs := (i, v) :: lv.filter (fun q => !(q.1 == i) && (!(q.1 == i + 1) && !(q.1 + 1 == i && q.2.category == 2)))
def m_isI (v : Value) : Bool := match v with | .int _ => true | _ => false
def m_isL (v : Value) : Bool := match v with | .long _ => true | _ => false
def m_isA (v : Value) : Bool := match v with | .null => true | .ref _ => true | _ => false
/-- what an instruction pushes that reads constants or locals alone -/
def m_push (E : MI) (lv : LVs) : Option Value := match E.2.1 with
  | .iconst n => some (.int (Int32.ofInt n))
  | .bipush n => some (.int (Int8.ofInt n).toInt32)
  | .sipush n => some (.int (Int16.ofInt n).toInt32)
  | .lconst n => some (.long (Int64.ofNat (n : Nat)))
  | .aconst_null => some .null
  | .iload i => (m_get lv i).filter m_isI
  | .iload_n i => (m_get lv i).filter m_isI
  | .lload i => (m_get lv i).filter m_isL
  | .lload_n i => (m_get lv i).filter m_isL
  | .aload i => (m_get lv i).filter m_isA
  | .aload_n i => (m_get lv i).filter m_isA
  | _ => none
def m_b32 (i : Instr) : Option (Int32 → Int32 → Int32) := match i with
  | .iadd => some fun x y => x + y
  | .isub => some fun x y => x - y
  | .imul => some fun x y => x * y
  | .iand => some fun x y => x &&& y
  | .ior => some fun x y => x ||| y
  | .ixor => some fun x y => x ^^^ y
  | .ishl => some fun x y => x <<< (y &&& 31)
  | .ishr => some fun x y => x >>> (y &&& 31)
  | .iushr => some fun x y => (x.toUInt32 >>> (y.toUInt32 &&& Int32.toUInt32 31)).toInt32
  | _ => none
def m_d32 (i : Instr) : Option (Int32 → Int32 → Int32) := match i with
  | .idiv => some fun x y => x / y
  | .irem => some fun x y => x - x / y * y
  | _ => none
def m_b64 (i : Instr) : Option (Int64 → Int64 → Int64) := match i with
  | .ladd => some fun x y => x + y
  | .lsub => some fun x y => x - y
  | .lmul => some fun x y => x * y
  | .land => some fun x y => x &&& y
  | .lor => some fun x y => x ||| y
  | .lxor => some fun x y => x ^^^ y
  | _ => none
def m_d64 (i : Instr) : Option (Int64 → Int64 → Int64) := match i with
  | .ldiv => some fun x y => x / y
  | .lrem => some fun x y => x - x / y * y
  | _ => none
def m_u32 (i : Instr) : Option (Int32 → Value) := match i with
  | .ineg => some fun x => .int (-x)
  | .i2b => some fun x => .int x.toInt8.toInt32
  | .i2s => some fun x => .int x.toInt16.toInt32
  | .i2c => some fun x => .int (x.toUInt32 % 65536).toInt32
  | .i2l => some fun x => .long x.toInt64
  | _ => none
def m_cmp (c : ClassFile.Cond) (x y : Int32) : Bool := match c with
  | .eq => decide (x = y)
  | .ne => decide (¬ x = y)
  | .lt => decide (x < y)
  | .ge => decide (y ≤ x)
  | .gt => decide (y < x)
  | .le => decide (x ≤ y)
/-- the operand stack alone: what is neither arithmetic of two ints nor of two longs -/
def m_stk (i : Instr) (st : List Value) : Option (List Value) := match i with
  | .l2i => (match st with | .long x :: r => some (.int x.toInt32 :: r) | _ => none)
  | .lcmp => (match st with | .long y :: .long x :: r => some (.int (lg_cmp x y) :: r) | _ => none)
  | .dup => (match st with | a :: r => if a.category = 1 then some (a :: a :: r) else none | _ => none)
  | .pop => (match st with | a :: r => if a.category = 1 then some r else none | _ => none)
  | .pop2 => (match st with | a :: r => if a.category = 2 then some r else none | _ => none)
  | .dup_x1 => (match st with | a :: b :: r => if a.category = 1 ∧ b.category = 1 then some (a :: b :: a :: r) else none | _ => none)
  | .dup_x2 => (match st with | a :: b :: d :: r => if a.category = 1 ∧ b.category = 1 ∧ d.category = 1 then some (a :: b :: d :: a :: r) else none | _ => none)
  | .dup2 => (match st with | a :: b :: r => if a.category = 1 ∧ b.category = 1 then some (a :: b :: a :: b :: r) else none | _ => none)
  | _ => none
def m_alu (i : Instr) (st : List Value) : Option (List Value) :=
  match m_b32 i with
  | some f => (match st with | .int y :: .int x :: r => some (.int (f x y) :: r) | _ => none)
  | none => match m_d32 i with
  | some f => (match st with | .int y :: .int x :: r => if y = 0 then none else some (.int (f x y) :: r) | _ => none)
  | none => match m_b64 i with
  | some f => (match st with | .long y :: .long x :: r => some (.long (f x y) :: r) | _ => none)
  | none => match m_d64 i with
  | some f => (match st with | .long y :: .long x :: r => if y = 0 then none else some (.long (f x y) :: r) | _ => none)
  | none => match m_u32 i with
  | some f => (match st with | .int x :: r => some (f x :: r) | _ => none)
  | none => m_stk i st
def m_to (pc : Nat) (off : Int) : Option Nat := if 0 ≤ (pc : Int) + off then some ((pc : Int) + off).toNat else none
def m_if (pc : Nat) (off : Int) (b : Bool) (r : List Value) : Option (Nat × List Value) := (m_to pc off).map fun t => (if b = true then t else pc + 3, r)
/-- where a branch goes, and the operand stack there -/
def m_br (E : MI) (st : List Value) : Option (Nat × List Value) := match E.2.1 with
  | .goto off => (m_to E.1 off).map fun t => (t, st)
  | .ifCond c off => (match st with | .int x :: r => m_if E.1 off (m_cmp c x 0) r | _ => none)
  | .if_icmp c off => (match st with | .int y :: .int x :: r => m_if E.1 off (m_cmp c x y) r | _ => none)
  | .tableswitch d lo hi offs => (match st with
    | .int x :: r => if x.toInt < lo ∨ hi < x.toInt then (m_to E.1 d).map (fun t => (t, r)) else (match offs[(x.toInt - lo).toNat]? with | some off => (m_to E.1 off).map (fun t => (t, r)) | none => none)
    | _ => none)
  | .lookupswitch d ps => (match st with
    | .int x :: r => if (ps.toList.zip (ps.toList.drop 1)).all (fun q => decide (q.1.1 < q.2.1)) = true then (m_to E.1 (Op.lookupswitch.offset ps.toList d x.toInt)).map (fun t => (t, r)) else none
    | _ => none)
  | _ => none
/-- a local that is stored -/
def m_store (E : MI) (lv : LVs) (st : List Value) : Option (LVs × List Value) := match E.2.1 with
  | .istore i => (match st with | .int x :: r => some (m_put1 lv i (.int x), r) | _ => none)
  | .istore_n i => (match st with | .int x :: r => some (m_put1 lv i (.int x), r) | _ => none)
  | .lstore i => (match st with | .long x :: r => some (m_put2 lv i (.long x), r) | _ => none)
  | .lstore_n i => (match st with | .long x :: r => some (m_put2 lv i (.long x), r) | _ => none)
  | .astore i => (match st with | .ref x :: r => some (m_put1 lv i (.ref x), r) | .null :: r => some (m_put1 lv i .null, r) | _ => none)
  | .astore_n i => (match st with | .ref x :: r => some (m_put1 lv i (.ref x), r) | .null :: r => some (m_put1 lv i .null, r) | _ => none)
  | .iinc i n => (match m_get lv i with | some (.int x) => some (m_put1 lv i (.int (x + Int32.ofInt n)), st) | _ => none)
  | _ => none
/-- addresses from here on are of cells that nobody writes: the script, the texts -/
def KB : Nat := 1000000
def m_cell (ro : Nat → Option MC) (F : MH) (a : Nat) : Option MC := if a < KB then F[a]? else ro (a - KB)
/-- a method: its name, its code, its locals, what it returns, its listing -/
abbrev MM : Type := MethodName × ByteArray × Nat × Option FieldType × List MI
def m_in (i : Int32) (n : Nat) : Bool := decide (0 ≤ i.toInt ∧ i.toInt < n)
/-- what is read of the cells -/
def m_rd (ro : Nat → Option MC) (F : MH) (E : MI) (st : List Value) : Option (List Value) := match E.2.1 with
  | .getfield _ => (match st with
    | .ref a :: r => (match m_cell ro F a with
      | some (.inl (ci, fs)) => if ci = E.2.2.2.1 then (match fs[E.2.2.2.2.1]? with | some v => some (v :: r) | none => none) else none
      | _ => none)
    | _ => none)
  | .arraylength => (match st with
    | .ref a :: r => if a < KB then none else (match ro (a - KB) with
      | some (.inr (.inl (_, xs))) => some (.int (Int32.ofNat xs.length) :: r)
      | _ => none)
    | _ => none)
  | .iaload => (match st with
    | .int i :: .ref a :: r => (match m_cell ro F a with
      | some (.inr (.inl (k, xs))) => if k = 0 ∧ m_in i xs.length = true then some (.int (xs.getD i.toNatClampNeg 0) :: r) else none
      | _ => none)
    | _ => none)
  | .baload => (match st with
    | .int i :: .ref a :: r => (match m_cell ro F a with
      | some (.inr (.inl (k, xs))) => if (k = 1 ∨ k = 2) ∧ m_in i xs.length = true then some (.int (xs.getD i.toNatClampNeg 0) :: r) else none
      | _ => none)
    | _ => none)
  | .aaload => (match st with
    | .int i :: .ref a :: r => (match m_cell ro F a with
      | some (.inr (.inr (k, os))) => if a < KB ∧ 3 ≤ k ∧ k ≤ 6 ∧ m_in i os.length = true then some (va_rf (os.getD i.toNatClampNeg none) :: r) else none
      | _ => none)
    | _ => none)
  | _ => none
/-- what is written to the cells, or made -/
def m_wr (fty : Nat → Nat → FieldType) (dfl : Nat → List Value) (F : MH) (E : MI) (st : List Value) : Option (MH × List Value) := match E.2.1 with
  | .putfield _ => (match st with
    | v :: .ref a :: r => (match F[a]? with
      | some (.inl (ci, fs)) => if a < KB ∧ ci = E.2.2.2.1 ∧ E.2.2.2.2.1 < fs.length ∧ narrow (fty ci E.2.2.2.2.1) v = v ∧ fits (fty ci E.2.2.2.2.1) v = true then some (F.set a (.inl (ci, fs.set E.2.2.2.2.1 v)), r) else none
      | _ => none)
    | _ => none)
  | .iastore => (match st with
    | .int x :: .int i :: .ref a :: r => (match F[a]? with
      | some (.inr (.inl (k, xs))) => if a < KB ∧ k = 0 ∧ m_in i xs.length = true then some (F.set a (.inr (.inl (k, xs.set i.toNatClampNeg x))), r) else none
      | _ => none)
    | _ => none)
  | .bastore => (match st with
    | .int x :: .int i :: .ref a :: r => (match F[a]? with
      | some (.inr (.inl (k, xs))) => if a < KB ∧ k = 1 ∧ m_in i xs.length = true then some (F.set a (.inr (.inl (k, xs.set i.toNatClampNeg (vp_nar .boolean x)))), r) else none
      | _ => none)
    | _ => none)
  | .aastore => (match st with
    | .ref o :: .int i :: .ref a :: r => (match F[a]?, F[o]? with
      | some (.inr (.inr (k, os))), some (.inl (ci, _)) => if a < KB ∧ o < KB ∧ E.2.2.2.1 = ci ∧ E.2.2.2.2.1 = k ∧ m_in i os.length = true then some (F.set a (.inr (.inr (k, os.set i.toNatClampNeg (some o)))), r) else none
      | _, _ => none)
    | _ => none)
  | .new _ => if F.length < KB then some (F ++ [.inl (E.2.2.2.1, dfl E.2.2.2.1)], .ref F.length :: st) else none
  | .newarray t => (match st with
    | .int n :: r => if F.length < KB ∧ 0 ≤ n.toInt ∧ n.toInt ≤ 100000 ∧ ((t = .int ∧ E.2.2.2.1 = 0) ∨ (t = .boolean ∧ E.2.2.2.1 = 1)) then some (F ++ [.inr (.inl (E.2.2.2.1, List.replicate n.toNatClampNeg 0))], .ref F.length :: r) else none
    | _ => none)
  | .anewarray _ => (match st with
    | .int n :: r => if F.length < KB ∧ 0 ≤ n.toInt ∧ n.toInt ≤ 100000 then some (F ++ [.inr (.inr (E.2.2.2.1, List.replicate n.toNatClampNeg none))], .ref F.length :: r) else none
    | _ => none)
  | _ => none
/-- constants of the pools: the third number says which -/
def m_cst (E : MI) : Option Value := match E.2.1 with
  | .ldc _ => if E.2.2.2.1 = 0 then some (.int (Int32.ofInt E.2.2.2.2.2)) else some (.ref (KB + E.2.2.2.2.1))
  | .ldc_w _ => some (.int (Int32.ofInt E.2.2.2.2.2))
  | .ldc2_w _ => some (.long (Int64.ofInt E.2.2.2.2.2))
  | .getstatic _ => if E.2.2.2.1 = 0 then some (.int (Int32.ofInt E.2.2.2.2.2)) else some (.ref (KB + E.2.2.2.2.1))
  | _ => none
/-- a call: which method, its arguments, what stays on the stack -/
def m_iv (E : MI) (st : List Value) (ok : Nat → Bool) : Option (Nat × List Value × List Value) :=
  if 1 ≤ E.2.2.2.2.1 ∧ E.2.2.2.2.1 ≤ st.length ∧ ((st.drop E.2.2.2.2.1).map fun v => v.category).sum ≤ 8 then (match (st.take E.2.2.2.2.1).reverse with
    | .ref a :: As => if ok a = true then some (E.2.2.2.1, .ref a :: As, st.drop E.2.2.2.2.1) else none
    | _ => none) else none
def m_rc (ro : Nat → Option MC) (F : MH) (E : MI) (a : Nat) : Bool := match m_cell ro F a with
  | some (.inl o) => decide ((o.1 : Int) = E.2.2.2.2.2)
  | _ => false
def m_inv (ro : Nat → Option MC) (F : MH) (E : MI) (st : List Value) : Option (Nat × List Value × List Value) := match E.2.1 with
  | .invokestatic _ => if E.2.2.2.2.1 ≤ st.length ∧ ((st.drop E.2.2.2.2.1).map fun v => v.category).sum ≤ 8 then some (E.2.2.2.1, (st.take E.2.2.2.2.1).reverse, st.drop E.2.2.2.2.1) else none
  | .invokespecial _ => m_iv E st (fun a => decide (a < KB))
  | .invokevirtual _ => m_iv E st (m_rc ro F E)
  | _ => none
/-- a return: what is answered -/
def m_ret (rt : Option FieldType) (E : MI) (st : List Value) : Option (Option Value) := match E.2.1 with
  | .ireturn => (match st with | [.int x] => (match rt with | some ty => if narrow ty (.int x) = .int x then some (some (.int x)) else none | none => none) | _ => none)
  | .lreturn => (match st with | [.long x] => if rt = some .long then some (some (.long x)) else none | _ => none)
  | .return_ => (match st with | [] => if rt = none then some none else none | _ => none)
  | _ => none
abbrev MS : Type := MH × Nat × LVs × List Value
/-- one step that is neither a call nor a return -/
def m_one (ro : Nat → Option MC) (fty : Nat → Nat → FieldType) (dfl : Nat → List Value) (E : MI) (F : MH) (lv : LVs) (st : List Value) : Option MS :=
  match m_push E lv with
  | some v => some (F, E.1 + E.2.2.1, lv, v :: st)
  | none => match m_cst E with
  | some v => some (F, E.1 + E.2.2.1, lv, v :: st)
  | none => match m_store E lv st with
  | some q => some (F, E.1 + E.2.2.1, q.1, q.2)
  | none => match m_alu E.2.1 st with
  | some st1 => some (F, E.1 + E.2.2.1, lv, st1)
  | none => match m_br E st with
  | some q => some (F, q.1, lv, q.2)
  | none => match m_rd ro F E st with
  | some st1 => some (F, E.1 + E.2.2.1, lv, st1)
  | none => match m_wr fty dfl F E st with
  | some q => some (q.1, E.1 + E.2.2.1, lv, q.2)
  | none => none
def m_at (MT : List MM) (mi pc : Nat) : Option (MI × Option FieldType) := match MT[mi]? with
  | some M => (M.2.2.2.2.find? (fun E => E.1 == pc)).map fun E => (E, M.2.2.2.1)
  | none => none
def m_room (MT : List MM) (mi : Nat) (as : List Value) : Bool := match MT[mi]? with
  | some M => decide (0 < mi ∧ (as.map fun v => v.category).sum ≤ M.2.2.1)
  | none => false
/-- a run: fuel, depth of calls that is left, method, cells, pc, locals, stack: what is answered, and the cells then -/
def ex (MT : List MM) (ro : Nat → Option MC) (fty : Nat → Nat → FieldType) (dfl : Nat → List Value) : Nat → Nat → Nat → MH → Nat → LVs → List Value → Option (Option Value × MH)
  | 0, _, _, _, _, _, _ => none
  | n + 1, d, mi, F, pc, lv, st =>
    match m_at MT mi pc with
    | none => none
    | some E =>
      match m_one ro fty dfl E.1 F lv st with
      | some q => ex MT ro fty dfl n d mi q.1 q.2.1 q.2.2.1 q.2.2.2
      | none =>
        match m_ret E.2 E.1 st with
        | some v => some (v, F)
        | none =>
          match m_inv ro F E.1 st with
          | none => none
          | some q =>
            if q.1 = 9999 then (match q.2.1 with | [.ref a] => if a < KB then ex MT ro fty dfl n d mi F (pc + 3) lv q.2.2 else none | _ => none)
            else if q.1 = 9998 then (match q.2.1 with | [.int x, .int y] => ex MT ro fty dfl n d mi F (pc + 3) lv (.int (if x < y then y else x) :: q.2.2) | _ => none)
            else if m_room MT q.1 q.2.1 = true then (match d with
              | 0 => none
              | d' + 1 =>
                match ex MT ro fty dfl n d' q.1 F 0 (lv_args 0 q.2.1) [] with
                | none => none
                | some z => ex MT ro fty dfl n (d' + 1) mi z.2 (pc + 3) lv (z.1.toList ++ q.2.2))
            else none
end
section
/-! THE SMALL MACHINE IS THE MACHINE, I: values, cells, worlds -/
section SimA
/-- a value of the small machine, as the machine has it: rA says where its cells lie, sio what the one unknown reference is -/
def trv (rA : Nat → Nat) (sio : Value) (v : Value) : Value := match v with
  | .ref a => if a = KB + 100 then sio else .ref (rA a)
  | w => w
theorem trv_int (rA : Nat → Nat) (sio : Value) (x : Int32) : trv rA sio (.int x) = .int x := rfl
theorem trv_long (rA : Nat → Nat) (sio : Value) (x : Int64) : trv rA sio (.long x) = .long x := rfl
theorem trv_null (rA : Nat → Nat) (sio : Value) : trv rA sio .null = .null := rfl
theorem trv_ref (rA : Nat → Nat) (sio : Value) {a : Nat} (h : a < KB) : trv rA sio (.ref a) = .ref (rA a) := by
  have h2 : ¬ a = KB + 100 := by omega
  simp only [trv, if_neg h2]
def sioOK (sio : Value) : Prop := sio = .null ∨ ∃ a, sio = .ref a
theorem trv_cat {rA : Nat → Nat} {sio : Value} (hs : sioOK sio) (v : Value) : (trv rA sio v).category = v.category := by
  cases v with
  | ref a =>
    by_cases h : a = KB + 100
    · simp only [trv, if_pos h]
      rcases hs with rfl | ⟨b, rfl⟩ <;> rfl
    · simp only [trv, if_neg h]; rfl
  | _ => rfl
def trE (rA : Nat → Nat) (sio : Value) (cA : Nat → ClassId) (c : MC) : va_E := match c with
  | .inl o => .inr (o.1, o.2.map (trv rA sio))
  | .inr (.inl q) => .inl (cA q.1, q.2.length, .inl (fun j => q.2.getD j 0))
  | .inr (.inr q) => .inl (cA q.1, q.2.length, .inr (.inr (.inr (.inr (fun j => (q.2.getD j none).map rA)))))
/-- the cells as a world of the kit, from an address on -/
def wsF (tr : MC → va_E) : Nat → MH → va_W
  | _, [] => []
  | b, c :: t => (b, tr c) :: wsF tr (b + 1) t
theorem wsF_get (tr : MC → va_E) : ∀ (F : MH) (b i : Nat), (wsF tr b F)[i]? = (F[i]?).map (fun c => (b + i, tr c))
  | [], b, i => by simp [wsF]
  | c :: t, b, 0 => by simp [wsF]
  | c :: t, b, i + 1 => by
    rw [wsF, List.getElem?_cons_succ, wsF_get tr t (b + 1) i, List.getElem?_cons_succ]
    rw [show b + 1 + i = b + (i + 1) by omega]
theorem wsF_set (tr : MC → va_E) : ∀ (F : MH) (b i : Nat) (c : MC), (wsF tr b F).set i (b + i, tr c) = wsF tr b (F.set i c)
  | [], b, i, c => by simp [wsF]
  | c0 :: t, b, 0, c => by simp [wsF]
  | c0 :: t, b, i + 1, c => by
    rw [wsF, List.set_cons_succ, List.set_cons_succ, wsF, ← wsF_set tr t (b + 1) i c]
    rw [show b + 1 + i = b + (i + 1) by omega]
theorem wsF_app (tr : MC → va_E) (c : MC) : ∀ (F : MH) (b : Nat), wsF tr b (F ++ [c]) = wsF tr b F ++ [(b + F.length, tr c)]
  | [], b => by simp [wsF]
  | c0 :: t, b => by
    rw [List.cons_append, wsF, wsF, wsF_app tr c t (b + 1), List.cons_append, List.length_cons]
    rw [show b + 1 + t.length = b + (t.length + 1) by omega]
theorem wsF_D (tr : MC → va_E) {A : Nat → Prop} {b : Nat} (hA : ∀ q, b ≤ q → A q) (F : MH) : va_D A (wsF tr b F) := by
  refine ⟨fun i j x y hi hj hxy => ?_, fun k q hk => ?_⟩
  · rw [wsF_get] at hi hj
    cases h1 : F[i]? with
    | none => rw [h1] at hi; cases hi
    | some c1 =>
      cases h2 : F[j]? with
      | none => rw [h2] at hj; cases hj
      | some c2 =>
        rw [h1] at hi; rw [h2] at hj
        cases hi; cases hj
        simp only at hxy
        omega
  · rw [wsF_get] at hk
    cases h1 : F[k]? with
    | none => rw [h1] at hk; cases hk
    | some c1 =>
      rw [h1] at hk; cases hk
      exact hA _ (Nat.le_add_right _ _)
end SimA
end
section
/-! THE SMALL MACHINE IS THE MACHINE, II: pushes, stores, arithmetic, branches -/
def m_len (i : Instr) : Nat := match i with
  | .tableswitch _ _ _ _ => 0
  | .lookupswitch _ _ => 0
  | .bipush _ | .iload _ | .lload _ | .aload _ | .istore _ | .lstore _ | .astore _ | .ldc _ | .newarray _ => 2
  | .sipush _ | .ldc_w _ | .ldc2_w _ | .iinc _ _ | .ifCond _ _ | .if_icmp _ _ | .goto _ | .ifnull _ | .ifnonnull _ | .getfield _ | .putfield _ | .getstatic _ | .invokestatic _ | .invokevirtual _ | .invokespecial _ | .new _ | .anewarray _ => 3
  | _ => 1
section SimB
variable {p : Program} {l : Launch} {e : Env} {R : Room} {s : State} {m : MethodId} {args : Array Value} {below : List Frame} {meth : Method} {c : Code} {H : Heap} {locs : List Loc} {cells slots : Nat} {Q : State → Prop}
variable {cc : ByteArray} {ls : Array Slot} {nL : Nat} {rA : Nat → Nat} {sio : Value}
def trl (rA : Nat → Nat) (sio : Value) (lv : LVs) : LVs := lv.map (fun q => (q.1, trv rA sio q.2))
def trs (rA : Nat → Nat) (sio : Value) (st : List Value) : List Value := st.map (trv rA sio)
theorem m_get_mem {lv : LVs} {i : Nat} {v : Value} (h : m_get lv i = some v) : (i, v) ∈ lv := by
  unfold m_get at h
  cases hf : lv.find? (fun q => q.1 == i) with
  | none => rw [hf] at h; cases h
  | some q =>
    rw [hf] at h
    have h1 := List.mem_of_find?_eq_some hf
    have h2 : (q.1 == i) = true := by have := List.find?_some hf; exact this
    have h3 : q.2 = v := Option.some.inj h
    have h4 : q.1 = i := by simpa using h2
    rw [← h3, ← h4]; exact h1
theorem trl_get {lv : LVs} {i : Nat} {v : Value} (hl : lv_has ls nL (trl rA sio lv)) (h : m_get lv i = some v) : ls[i]? = some (.val (trv rA sio v)) :=
  hl.2.2 (i, trv rA sio v) (List.mem_map.mpr ⟨(i, v), m_get_mem h, rfl⟩)
theorem filt_get {lv : LVs} {i : Nat} {v : Value} {P : Value → Bool} (h : (m_get lv i).filter P = some v) : m_get lv i = some v ∧ P v = true := by
  cases hg : m_get lv i with
  | none => rw [hg] at h; cases h
  | some w =>
    rw [hg] at h
    simp only [Option.filter] at h
    split at h
    · cases h; exact ⟨rfl, by assumption⟩
    · cases h
theorem s_push (hx : p.tables.exec = Jvm.exec) (hb : c.code = cc) {E : MI} {lv : LVs} {v : Value} {rest : List Value} (hs : sioOK sio) (hdg : decode cc E.1 = .ok (E.2.1, E.2.2.1)) (hlen : m_len E.2.1 = 0 ∨ m_len E.2.1 = E.2.2.1) (hl : lv_has ls nL (trl rA sio lv)) (h : m_push E lv = some v)
    (k : W p l e R s m args below meth c H locs cells slots Q (F0 m (E.1 + E.2.2.1) ls (trv rA sio v :: rest))) : W p l e R s m args below meth c H locs cells slots Q (F0 m E.1 ls rest) := by
  obtain ⟨pc, i, len, a, b, z⟩ := E
  simp only at hdg hlen k h ⊢
  cases i
  case iconst n =>
    simp only [m_len] at hlen
    obtain rfl : len = 1 := by omega
    simp only [m_push] at h; cases h
    exact lv_iconst hx hb hdg rfl k
  case bipush n =>
    simp only [m_len] at hlen
    obtain rfl : len = 2 := by omega
    simp only [m_push] at h; cases h
    exact lv_bipush hx hb hdg rfl k
  case sipush n =>
    simp only [m_len] at hlen
    obtain rfl : len = 3 := by omega
    simp only [m_push] at h; cases h
    exact lv_sipush hx hb hdg rfl k
  case lconst n =>
    simp only [m_len] at hlen
    obtain rfl : len = 1 := by omega
    simp only [m_push] at h; cases h
    exact lv_lconst hx hb hdg rfl k
  case aconst_null =>
    simp only [m_len] at hlen
    obtain rfl : len = 1 := by omega
    simp only [m_push] at h; cases h
    exact lv_null hx hb hdg k
  case iload n =>
    simp only [m_len] at hlen
    obtain rfl : len = 2 := by omega
    simp only [m_push] at h
    obtain ⟨h1, h2⟩ := filt_get h
    have h3 := trl_get hl h1
    cases v <;> simp only [m_isI, Bool.false_eq_true] at h2
    exact lv_iload hx hb hdg h3 k
  case iload_n n =>
    simp only [m_len] at hlen
    obtain rfl : len = 1 := by omega
    simp only [m_push] at h
    obtain ⟨h1, h2⟩ := filt_get h
    have h3 := trl_get hl h1
    cases v <;> simp only [m_isI, Bool.false_eq_true] at h2
    exact lv_iload_n hx hb hdg rfl h3 k
  case lload n =>
    simp only [m_len] at hlen
    obtain rfl : len = 2 := by omega
    simp only [m_push] at h
    obtain ⟨h1, h2⟩ := filt_get h
    have h3 := trl_get hl h1
    cases v <;> simp only [m_isL, Bool.false_eq_true] at h2
    exact lv_lload hx hb hdg h3 k
  case lload_n n =>
    simp only [m_len] at hlen
    obtain rfl : len = 1 := by omega
    simp only [m_push] at h
    obtain ⟨h1, h2⟩ := filt_get h
    have h3 := trl_get hl h1
    cases v <;> simp only [m_isL, Bool.false_eq_true] at h2
    exact lv_lload_n hx hb hdg rfl h3 k
  case aload n =>
    simp only [m_len] at hlen
    obtain rfl : len = 2 := by omega
    simp only [m_push] at h
    obtain ⟨h1, h2⟩ := filt_get h
    have h3 := trl_get hl h1
    have h4 : sioOK (trv rA sio v) := by
      cases v <;> simp only [m_isA, Bool.false_eq_true] at h2
      · exact Or.inl rfl
      · rename_i a
        by_cases q : a = KB + 100
        · simp only [trv, if_pos q]; exact hs
        · simp only [trv, if_neg q]; exact Or.inr ⟨_, rfl⟩
    rcases h4 with h4 | ⟨y, h4⟩
    · rw [h4] at h3 k; exact lv_aloadN hx hb hdg h3 k
    · rw [h4] at h3 k; exact lv_aload hx hb hdg h3 k
  case aload_n n =>
    simp only [m_len] at hlen
    obtain rfl : len = 1 := by omega
    simp only [m_push] at h
    obtain ⟨h1, h2⟩ := filt_get h
    have h3 := trl_get hl h1
    have h4 : sioOK (trv rA sio v) := by
      cases v <;> simp only [m_isA, Bool.false_eq_true] at h2
      · exact Or.inl rfl
      · rename_i a
        by_cases q : a = KB + 100
        · simp only [trv, if_pos q]; exact hs
        · simp only [trv, if_neg q]; exact Or.inr ⟨_, rfl⟩
    rcases h4 with h4 | ⟨y, h4⟩
    · rw [h4] at h3 k; exact lv_aload_nN hx hb hdg rfl h3 k
    · rw [h4] at h3 k; exact lv_aload_n hx hb hdg rfl h3 k
  all_goals (simp only [m_push, reduceCtorEq] at h)
end SimB
end
section
/-! THE SMALL MACHINE IS THE MACHINE, III: stores into locals, arithmetic -/
def m_sl (i : Instr) (nL : Nat) : Bool := match i with
  | .istore i => decide (i < nL)
  | .istore_n i => decide ((i : Nat) < nL)
  | .astore i => decide (i < nL)
  | .astore_n i => decide ((i : Nat) < nL)
  | .lstore i => decide (i + 1 < nL)
  | .lstore_n i => decide ((i : Nat) + 1 < nL)
  | .iinc i _ => decide (i < nL)
  | _ => true
section SimC
variable {p : Program} {l : Launch} {e : Env} {R : Room} {s : State} {m : MethodId} {args : Array Value} {below : List Frame} {meth : Method} {c : Code} {H : Heap} {locs : List Loc} {cells slots : Nat} {Q : State → Prop}
variable {cc : ByteArray} {ls : Array Slot} {nL : Nat} {rA : Nat → Nat} {sio : Value}
theorem trl_put1 (hs : sioOK sio) (lv : LVs) (i : Nat) (v : Value) : (i, trv rA sio v) :: (trl rA sio lv).filter (fun q => !(q.1 == i) && !(q.1 + 1 == i && q.2.category == 2)) = trl rA sio (m_put1 lv i v) := by
  unfold trl m_put1
  rw [List.map_cons, List.filter_map]
  congr 2
  apply List.filter_congr
  intro q hq
  simp only [Function.comp, trv_cat hs]
theorem trl_put2 (hs : sioOK sio) (lv : LVs) (i : Nat) (v : Value) : (i, trv rA sio v) :: (trl rA sio lv).filter (fun q => !(q.1 == i) && (!(q.1 == i + 1) && !(q.1 + 1 == i && q.2.category == 2))) = trl rA sio (m_put2 lv i v) := by
  unfold trl m_put2
  rw [List.map_cons, List.filter_map]
  congr 2
  apply List.filter_congr
  intro q hq
  simp only [Function.comp, trv_cat hs]
theorem s_astore (hx : p.tables.exec = Jvm.exec) (hb : c.code = cc) {pc i : Nat} {lv : LVs} {v : Value} {r : List Value} (hs : sioOK sio) (hv : sioOK (trv rA sio v)) (hdg : decode cc pc = .ok (.astore i, 2)) (hi : i < nL) (hl : lv_has ls nL (trl rA sio lv))
    (k : ∀ ls', lv_has ls' nL (trl rA sio (m_put1 lv i v)) → W p l e R s m args below meth c H locs cells slots Q (F0 m (pc + 2) ls' r)) : W p l e R s m args below meth c H locs cells slots Q (F0 m pc ls (trv rA sio v :: r)) := by
  have e1 := trl_put1 (rA := rA) hs lv i v
  rcases hv with h | ⟨y, h⟩
  · rw [h] at e1 ⊢; exact lv_astoreN hx hb hdg hl hi e1 k
  · rw [h] at e1 ⊢; exact lv_astore hx hb hdg hl hi e1 k
theorem s_astore_n (hx : p.tables.exec = Jvm.exec) (hb : c.code = cc) {pc : Nat} {i : Fin 4} {lv : LVs} {v : Value} {r : List Value} (hs : sioOK sio) (hv : sioOK (trv rA sio v)) (hdg : decode cc pc = .ok (.astore_n i, 1)) (hi : (i : Nat) < nL) (hl : lv_has ls nL (trl rA sio lv))
    (k : ∀ ls', lv_has ls' nL (trl rA sio (m_put1 lv i v)) → W p l e R s m args below meth c H locs cells slots Q (F0 m (pc + 1) ls' r)) : W p l e R s m args below meth c H locs cells slots Q (F0 m pc ls (trv rA sio v :: r)) := by
  have e1 := trl_put1 (rA := rA) hs lv i v
  rcases hv with h | ⟨y, h⟩
  · rw [h] at e1 ⊢; exact lv_astore_nN hx hb hdg rfl hl hi e1 k
  · rw [h] at e1 ⊢; exact lv_astore_n hx hb hdg rfl hl hi e1 k
theorem trv_sio (hs : sioOK sio) (a : Nat) : sioOK (trv rA sio (.ref a)) := by
  by_cases q : a = KB + 100
  · simp only [trv, if_pos q]; exact hs
  · simp only [trv, if_neg q]; exact Or.inr ⟨_, rfl⟩
theorem s_store (hx : p.tables.exec = Jvm.exec) (hb : c.code = cc) {E : MI} {lv : LVs} {st : List Value} {q : LVs × List Value} (hs : sioOK sio) (hdg : decode cc E.1 = .ok (E.2.1, E.2.2.1)) (hlen : m_len E.2.1 = 0 ∨ m_len E.2.1 = E.2.2.1) (hsl : m_sl E.2.1 nL = true) (hl : lv_has ls nL (trl rA sio lv)) (h : m_store E lv st = some q)
    (k : ∀ ls', lv_has ls' nL (trl rA sio q.1) → W p l e R s m args below meth c H locs cells slots Q (F0 m (E.1 + E.2.2.1) ls' (trs rA sio q.2))) : W p l e R s m args below meth c H locs cells slots Q (F0 m E.1 ls (trs rA sio st)) := by
  obtain ⟨pc, i, len, a, b, z⟩ := E
  simp only at hdg hlen hsl k h ⊢
  cases i
  case istore n =>
    simp only [m_len] at hlen
    obtain rfl : len = 2 := by omega
    simp only [m_sl, decide_eq_true_eq] at hsl
    simp only [m_store] at h
    split at h
    · cases h
      exact lv_istore hx hb hdg hl hsl (trl_put1 hs lv n (.int _)) k
    · cases h
  case istore_n n =>
    simp only [m_len] at hlen
    obtain rfl : len = 1 := by omega
    simp only [m_sl, decide_eq_true_eq] at hsl
    simp only [m_store] at h
    split at h
    · cases h
      exact lv_istore_n hx hb hdg rfl hl hsl (trl_put1 hs lv n (.int _)) k
    · cases h
  case lstore n =>
    simp only [m_len] at hlen
    obtain rfl : len = 2 := by omega
    simp only [m_sl, decide_eq_true_eq] at hsl
    simp only [m_store] at h
    split at h
    · cases h
      exact lv_lstore hx hb hdg hl hsl (trl_put2 hs lv n (.long _)) k
    · cases h
  case lstore_n n =>
    simp only [m_len] at hlen
    obtain rfl : len = 1 := by omega
    simp only [m_sl, decide_eq_true_eq] at hsl
    simp only [m_store] at h
    split at h
    · cases h
      exact lv_lstore_n hx hb hdg rfl hl hsl (trl_put2 hs lv n (.long _)) k
    · cases h
  case astore n =>
    simp only [m_len] at hlen
    obtain rfl : len = 2 := by omega
    simp only [m_sl, decide_eq_true_eq] at hsl
    simp only [m_store] at h
    split at h
    · cases h
      exact s_astore hx hb hs (trv_sio hs _) hdg hsl hl k
    · cases h
      exact s_astore (v := .null) hx hb hs (Or.inl rfl) hdg hsl hl k
    · cases h
  case astore_n n =>
    simp only [m_len] at hlen
    obtain rfl : len = 1 := by omega
    simp only [m_sl, decide_eq_true_eq] at hsl
    simp only [m_store] at h
    split at h
    · cases h
      exact s_astore_n hx hb hs (trv_sio hs _) hdg hsl hl k
    · cases h
      exact s_astore_n (v := .null) hx hb hs (Or.inl rfl) hdg hsl hl k
    · cases h
  case iinc n z =>
    simp only [m_len] at hlen
    obtain rfl : len = 3 := by omega
    simp only [m_sl, decide_eq_true_eq] at hsl
    simp only [m_store] at h
    split at h
    · rename_i x hg
      cases h
      have h1 : (n, Value.int x) ∈ trl rA sio lv := List.mem_map.mpr ⟨(n, .int x), m_get_mem hg, rfl⟩
      obtain ⟨j, hj⟩ := List.getElem?_of_mem h1
      exact lv_iinc hx hb hdg hl hj rfl hsl (trl_put1 hs lv n (.int _)) k
    · cases h
  all_goals (simp only [m_store, reduceCtorEq] at h)
theorem s_b32 (hx : p.tables.exec = Jvm.exec) (hb : c.code = cc) {pc len : Nat} {i : Instr} {f : Int32 → Int32 → Int32} {x y : Int32} {r : List Value} (hdg : decode cc pc = .ok (i, len)) (hlen : m_len i = 0 ∨ m_len i = len) (h : m_b32 i = some f)
    (k : W p l e R s m args below meth c H locs cells slots Q (F0 m (pc + len) ls (.int (f x y) :: r))) : W p l e R s m args below meth c H locs cells slots Q (F0 m pc ls (.int y :: .int x :: r)) := by
  cases i <;> simp only [m_b32, reduceCtorEq] at h <;> (simp only [m_len] at hlen; obtain rfl : len = 1 := by omega) <;> cases h
  · exact lv_iadd hx hb hdg k
  · exact lv_iand hx hb hdg k
  · exact lv_imul hx hb hdg k
  · exact lv_ior hx hb hdg k
  · exact lv_ishl hx hb hdg k
  · exact lv_ishr hx hb hdg k
  · exact lv_isub hx hb hdg k
  · exact lv_iushr hx hb hdg rfl k
  · exact lv_ixor hx hb hdg k
theorem s_d32 (hx : p.tables.exec = Jvm.exec) (hb : c.code = cc) {pc len : Nat} {i : Instr} {f : Int32 → Int32 → Int32} {x y : Int32} {r : List Value} (hdg : decode cc pc = .ok (i, len)) (hlen : m_len i = 0 ∨ m_len i = len) (h : m_d32 i = some f) (hy : ¬ y = 0)
    (k : W p l e R s m args below meth c H locs cells slots Q (F0 m (pc + len) ls (.int (f x y) :: r))) : W p l e R s m args below meth c H locs cells slots Q (F0 m pc ls (.int y :: .int x :: r)) := by
  cases i <;> simp only [m_d32, reduceCtorEq] at h <;> (simp only [m_len] at hlen; obtain rfl : len = 1 := by omega) <;> cases h
  · exact lv_idiv hx hb hdg hy k
  · exact lv_irem hx hb hdg hy k
theorem s_b64 (hx : p.tables.exec = Jvm.exec) (hb : c.code = cc) {pc len : Nat} {i : Instr} {f : Int64 → Int64 → Int64} {x y : Int64} {r : List Value} (hdg : decode cc pc = .ok (i, len)) (hlen : m_len i = 0 ∨ m_len i = len) (h : m_b64 i = some f)
    (k : W p l e R s m args below meth c H locs cells slots Q (F0 m (pc + len) ls (.long (f x y) :: r))) : W p l e R s m args below meth c H locs cells slots Q (F0 m pc ls (.long y :: .long x :: r)) := by
  cases i <;> simp only [m_b64, reduceCtorEq] at h <;> (simp only [m_len] at hlen; obtain rfl : len = 1 := by omega) <;> cases h
  · exact lv_ladd hx hb hdg k
  · exact lv_land hx hb hdg k
  · exact lv_lmul hx hb hdg k
  · exact lv_lor hx hb hdg k
  · exact lv_lsub hx hb hdg k
  · exact lv_lxor hx hb hdg k
theorem s_d64 (hx : p.tables.exec = Jvm.exec) (hb : c.code = cc) {pc len : Nat} {i : Instr} {f : Int64 → Int64 → Int64} {x y : Int64} {r : List Value} (hdg : decode cc pc = .ok (i, len)) (hlen : m_len i = 0 ∨ m_len i = len) (h : m_d64 i = some f) (hy : ¬ y = 0)
    (k : W p l e R s m args below meth c H locs cells slots Q (F0 m (pc + len) ls (.long (f x y) :: r))) : W p l e R s m args below meth c H locs cells slots Q (F0 m pc ls (.long y :: .long x :: r)) := by
  cases i <;> simp only [m_d64, reduceCtorEq] at h <;> (simp only [m_len] at hlen; obtain rfl : len = 1 := by omega) <;> cases h
  · exact lv_ldiv hx hb hdg hy k
  · exact lv_lrem hx hb hdg hy k
theorem s_u32 (hx : p.tables.exec = Jvm.exec) (hb : c.code = cc) {pc len : Nat} {i : Instr} {f : Int32 → Value} {x : Int32} {r : List Value} (hdg : decode cc pc = .ok (i, len)) (hlen : m_len i = 0 ∨ m_len i = len) (h : m_u32 i = some f)
    (k : W p l e R s m args below meth c H locs cells slots Q (F0 m (pc + len) ls (trv rA sio (f x) :: r))) : W p l e R s m args below meth c H locs cells slots Q (F0 m pc ls (.int x :: r)) := by
  cases i <;> simp only [m_u32, reduceCtorEq] at h <;> (simp only [m_len] at hlen; obtain rfl : len = 1 := by omega) <;> cases h
  · exact lv_i2b hx hb hdg rfl k
  · exact lv_i2c hx hb hdg rfl k
  · exact lv_i2l hx hb hdg rfl k
  · exact lv_i2s hx hb hdg rfl k
  · exact lv_ineg hx hb hdg k
theorem s_stk (hx : p.tables.exec = Jvm.exec) (hb : c.code = cc) {pc len : Nat} {i : Instr} {st st1 : List Value} (hs : sioOK sio) (hdg : decode cc pc = .ok (i, len)) (hlen : m_len i = 0 ∨ m_len i = len) (h : m_stk i st = some st1)
    (k : W p l e R s m args below meth c H locs cells slots Q (F0 m (pc + len) ls (trs rA sio st1))) : W p l e R s m args below meth c H locs cells slots Q (F0 m pc ls (trs rA sio st)) := by
  cases i <;> simp only [m_stk, reduceCtorEq] at h <;> (simp only [m_len] at hlen; obtain rfl : len = 1 := by omega)
  case dup =>
    split at h
    · split at h
      · cases h
        exact lv_dup hx hb hdg ((trv_cat hs _).trans (by assumption)) k
      · cases h
    · cases h
  case dup_x1 =>
    split at h
    · split at h
      · rename_i hc
        cases h
        exact lv_dup_x1 hx hb hdg ((trv_cat hs _).trans hc.1) ((trv_cat hs _).trans hc.2) k
      · cases h
    · cases h
  case dup_x2 =>
    split at h
    · split at h
      · rename_i hc
        cases h
        exact lv_dup_x2 hx hb hdg ((trv_cat hs _).trans hc.1) ((trv_cat hs _).trans hc.2.1) ((trv_cat hs _).trans hc.2.2) k
      · cases h
    · cases h
  case dup2 =>
    split at h
    · split at h
      · rename_i hc
        cases h
        exact lv_dup2_11 hx hb hdg ((trv_cat hs _).trans hc.1) ((trv_cat hs _).trans hc.2) k
      · cases h
    · cases h
  case l2i =>
    split at h
    · cases h
      exact lv_l2i hx hb hdg rfl k
    · cases h
  case lcmp =>
    split at h
    · cases h
      exact W.lcmp hx hb hdg k
    · cases h
  case pop =>
    split at h
    · split at h
      · cases h
        exact lv_pop hx hb hdg ((trv_cat hs _).trans (by assumption)) k
      · cases h
    · cases h
  case pop2 =>
    split at h
    · split at h
      · cases h
        exact lv_pop2_2 hx hb hdg ((trv_cat hs _).trans (by assumption)) k
      · cases h
    · cases h
theorem s_alu (hx : p.tables.exec = Jvm.exec) (hb : c.code = cc) {pc len : Nat} {i : Instr} {st st1 : List Value} (hs : sioOK sio) (hdg : decode cc pc = .ok (i, len)) (hlen : m_len i = 0 ∨ m_len i = len) (h : m_alu i st = some st1)
    (k : W p l e R s m args below meth c H locs cells slots Q (F0 m (pc + len) ls (trs rA sio st1))) : W p l e R s m args below meth c H locs cells slots Q (F0 m pc ls (trs rA sio st)) := by
  unfold m_alu at h
  split at h
  · split at h
    · cases h
      exact s_b32 hx hb hdg hlen (by assumption) k
    · cases h
  · split at h
    · split at h
      · split at h
        · cases h
        · cases h
          exact s_d32 hx hb hdg hlen (by assumption) (by assumption) k
      · cases h
    · split at h
      · split at h
        · cases h
          exact s_b64 hx hb hdg hlen (by assumption) k
        · cases h
      · split at h
        · split at h
          · split at h
            · cases h
            · cases h
              exact s_d64 hx hb hdg hlen (by assumption) (by assumption) k
          · cases h
        · split at h
          · split at h
            · cases h
              exact s_u32 (rA := rA) (sio := sio) hx hb hdg hlen (by assumption) k
            · cases h
          · exact s_stk hx hb hs hdg hlen h k
end SimC
end
section
/-! THE SMALL MACHINE IS THE MACHINE, IV: branches -/
section SimD
variable {p : Program} {l : Launch} {e : Env} {R : Room} {s : State} {m : MethodId} {args : Array Value} {below : List Frame} {meth : Method} {c : Code} {H : Heap} {locs : List Loc} {cells slots : Nat} {Q : State → Prop}
variable {cc : ByteArray} {ls : Array Slot} {nL : Nat} {rA : Nat → Nat} {sio : Value}
theorem m_to_spec {pc t : Nat} {off : Int} (h : m_to pc off = some t) : (pc : Int) + off = (t : Int) := by
  unfold m_to at h
  split at h
  · cases h; omega
  · cases h
theorem m_jmp {pc : Nat} {off : Int} {r : List Value} {q : Nat × List Value} (h : (m_to pc off).map (fun t => (t, r)) = some q) : (pc : Int) + off = (q.1 : Int) ∧ q.2 = r := by
  cases ht : m_to pc off with
  | none => rw [ht] at h; cases h
  | some t => rw [ht] at h; cases h; exact ⟨m_to_spec ht, rfl⟩
theorem m_if_spec {pc : Nat} {off : Int} {b : Bool} {r : List Value} {q : Nat × List Value} (h : m_if pc off b r = some q) : ∃ t : Nat, (pc : Int) + off = (t : Int) ∧ q.1 = (if b = true then t else pc + 3) ∧ q.2 = r := by
  unfold m_if at h
  cases ht : m_to pc off with
  | none => rw [ht] at h; cases h
  | some t => rw [ht] at h; cases h; exact ⟨t, m_to_spec ht, rfl, rfl⟩
theorem s_if (hx : p.tables.exec = Jvm.exec) (hb : c.code = cc) {pc : Nat} {cd : ClassFile.Cond} {off : Int} {x : Int32} {r : List Value} {q : Nat × List Value} (hdg : decode cc pc = .ok (.ifCond cd off, 3)) (h : m_if pc off (m_cmp cd x 0) r = some q)
    (k : W p l e R s m args below meth c H locs cells slots Q (F0 m q.1 ls (trs rA sio q.2))) : W p l e R s m args below meth c H locs cells slots Q (F0 m pc ls (.int x :: trs rA sio r)) := by
  obtain ⟨t, h1, h2, h3⟩ := m_if_spec h
  rw [h2, h3] at k
  cases cd <;> simp only [m_cmp, decide_eq_true_eq] at k
  · exact lv_if_eq hx hb hdg h1 (fun n => by rw [if_pos n] at k; exact k) (fun n => by rw [if_neg n] at k; exact k)
  · exact lv_if_ne hx hb hdg h1 (fun n => by rw [if_pos n] at k; exact k) (fun n => by rw [if_neg (fun z => z n)] at k; exact k)
  · exact lv_if_lt hx hb hdg h1 (fun n => by rw [if_pos n] at k; exact k) (fun n => by rw [if_neg n] at k; exact k)
  · exact lv_if_ge hx hb hdg h1 (fun n => by rw [if_pos n] at k; exact k) (fun n => by rw [if_neg n] at k; exact k)
  · exact lv_if_gt hx hb hdg h1 (fun n => by rw [if_pos n] at k; exact k) (fun n => by rw [if_neg n] at k; exact k)
  · exact lv_if_le hx hb hdg h1 (fun n => by rw [if_pos n] at k; exact k) (fun n => by rw [if_neg n] at k; exact k)
theorem s_icmp (hx : p.tables.exec = Jvm.exec) (hb : c.code = cc) {pc : Nat} {cd : ClassFile.Cond} {off : Int} {x y : Int32} {r : List Value} {q : Nat × List Value} (hdg : decode cc pc = .ok (.if_icmp cd off, 3)) (h : m_if pc off (m_cmp cd x y) r = some q)
    (k : W p l e R s m args below meth c H locs cells slots Q (F0 m q.1 ls (trs rA sio q.2))) : W p l e R s m args below meth c H locs cells slots Q (F0 m pc ls (.int y :: .int x :: trs rA sio r)) := by
  obtain ⟨t, h1, h2, h3⟩ := m_if_spec h
  rw [h2, h3] at k
  cases cd <;> simp only [m_cmp, decide_eq_true_eq] at k
  · exact lv_icmp_eq hx hb hdg h1 (fun n => by rw [if_pos n] at k; exact k) (fun n => by rw [if_neg n] at k; exact k)
  · exact lv_icmp_ne hx hb hdg h1 (fun n => by rw [if_pos n] at k; exact k) (fun n => by rw [if_neg (fun z => z n)] at k; exact k)
  · exact lv_icmp_lt hx hb hdg h1 (fun n => by rw [if_pos n] at k; exact k) (fun n => by rw [if_neg n] at k; exact k)
  · exact lv_icmp_ge hx hb hdg h1 (fun n => by rw [if_pos n] at k; exact k) (fun n => by rw [if_neg n] at k; exact k)
  · exact lv_icmp_gt hx hb hdg h1 (fun n => by rw [if_pos n] at k; exact k) (fun n => by rw [if_neg n] at k; exact k)
  · exact lv_icmp_le hx hb hdg h1 (fun n => by rw [if_pos n] at k; exact k) (fun n => by rw [if_neg n] at k; exact k)
theorem s_br (hx : p.tables.exec = Jvm.exec) (hb : c.code = cc) {E : MI} {st : List Value} {q : Nat × List Value} (hs : sioOK sio) (hdg : decode cc E.1 = .ok (E.2.1, E.2.2.1)) (hlen : m_len E.2.1 = 0 ∨ m_len E.2.1 = E.2.2.1) (h : m_br E st = some q)
    (k : W p l e R s m args below meth c H locs cells slots Q (F0 m q.1 ls (trs rA sio q.2))) : W p l e R s m args below meth c H locs cells slots Q (F0 m E.1 ls (trs rA sio st)) := by
  obtain ⟨pc, i, len, a, b, z⟩ := E
  simp only at hdg hlen k h ⊢
  cases i
  case goto off =>
    simp only [m_len] at hlen
    obtain rfl : len = 3 := by omega
    simp only [m_br] at h
    obtain ⟨h1, h2⟩ := m_jmp h
    rw [h2] at k
    exact lv_goto hx hb hdg h1 k
  case ifCond cd off =>
    simp only [m_len] at hlen
    obtain rfl : len = 3 := by omega
    simp only [m_br] at h
    split at h
    · exact s_if hx hb hdg h k
    · cases h
  case if_icmp cd off =>
    simp only [m_len] at hlen
    obtain rfl : len = 3 := by omega
    simp only [m_br] at h
    split at h
    · exact s_icmp hx hb hdg h k
    · cases h
  case tableswitch d lo hi offs =>
    simp only [m_br] at h
    split at h
    · split at h
      · rename_i hc
        obtain ⟨h1, h2⟩ := m_jmp h
        rw [h2] at k
        exact lv_tableOut hx hb hdg hc h1 k
      · rename_i hc
        split at h
        · rename_i off ho
          obtain ⟨h1, h2⟩ := m_jmp h
          rw [h2] at k
          exact lv_tableIn hx hb hdg (fun n => hc (Or.inl n)) (fun n => hc (Or.inr n)) ho h1 k
        · cases h
    · cases h
  case lookupswitch d ps =>
    simp only [m_br] at h
    split at h
    · split at h
      · rename_i hc
        obtain ⟨h1, h2⟩ := m_jmp h
        rw [h2] at k
        exact lv_lookup hx hb hdg hc rfl h1 k
      · cases h
    · cases h
  all_goals (simp only [m_br, reduceCtorEq] at h)
end SimD
end
section
/-! THE SMALL MACHINE IS THE MACHINE, V: reads of cells -/
def tysL (cA : Nat → ClassId) : List (ClassId × FieldType) := [(cA 0, .int), (cA 1, .boolean), (cA 2, .byte), (cA 3, .object "DoorPaints$Visitor"), (cA 4, .object "DoorPaints$Door"), (cA 5, .object "DoorPaints$Told"), (cA 6, .object "DoorPaints$Sheet")]
/-- a cell that nobody writes -/
def roC (rA : Nat → Nat) (sio : Value) (A : Nat → Prop) (U : State) (G : Heap) (j : Nat) (c : MC) : Prop := match c with
  | .inl o => o.1 = 99 ∧ ∃ v, o.2 = [v, .int 0] ∧ va_O "java/lang/String" (rA (KB + j)) A U G ∧ va_OF "java/lang/String" "value" "[B" (trv rA sio v) (rA (KB + j)) A U G ∧ va_OF "java/lang/String" "coder" "B" (.int 0) (rA (KB + j)) A U G
  | .inr (.inl q) => (q.1 = 0 ∧ va_T .int (rA (KB + j)) q.2.length (fun i => .int (q.2.getD i 0)) A U G) ∨ (q.1 = 2 ∧ va_T .byte (rA (KB + j)) q.2.length (fun i => .int (q.2.getD i 0)) A U G)
  | .inr (.inr _) => False
/-- what is checked of an instruction that reads or writes a field: class, place, the link's word -/
def fldOK (cls : List vw_C) (own : String) (E : MI) (ws : List Cond) (idx : Nat) : Prop :=
  (∃ (C : String) (T : u_T) (N : Nat), cls[E.2.2.2.1]? = some (C, T, N) ∧ E.2.2.2.2.1 < N ∧ Cond.fieldLink own idx (T E.2.2.2.2.1).1 (T E.2.2.2.2.1).2.1 (T E.2.2.2.2.1).2.2.1 ∈ ws) ∨
  (E.2.2.2.1 = 99 ∧ ((E.2.2.2.2.1 = 0 ∧ Cond.fieldLink own idx "java/lang/String" "value" "[B" ∈ ws) ∨ (E.2.2.2.2.1 = 1 ∧ Cond.fieldLink own idx "java/lang/String" "coder" "B" ∈ ws)))
section SimE
variable {p : Program} {l : Launch} {e : Env} {R : Room} {s : State} {m : MethodId} {args : Array Value} {below : List Frame} {meth : Method} {c : Code} {H : Heap} {locs : List Loc} {cells slots : Nat} {Q : State → Prop}
variable {cc : ByteArray} {ls : Array Slot} {nL : Nat} {rA : Nat → Nat} {sio : Value} {A : Nat → Prop} {cA : Nat → ClassId} {dC : Nat → ClassId} {dI : Nat → Nat → Nat} {cls : List vw_C} {b0 : Nat} {ro : Nat → Option MC}
theorem m_in_spec {i : Int32} {n : Nat} (h : m_in i n = true) : vp_in i n := vp_in_iff.mpr (by simpa [m_in] using h)
theorem s_cell {F : MH} {a : Nat} {x : MC} (h : F[a]? = some x) : (wsF (trE rA sio cA) b0 F)[a]? = some (b0 + a, trE rA sio cA x) := by rw [wsF_get, h]; rfl
theorem s_ro_int {i : Int32} {t : Nat} {xs : List Int32} {r : List Value} {pc : Nat} (hx : p.tables.exec = Jvm.exec) (hb : c.code = cc) (hT : va_T .int t xs.length (fun i => .int (xs.getD i 0)) A s s.heap) (hS : va_S A s.heap H locs) (hin : vp_in i xs.length) (hdg : decode cc pc = .ok (.iaload, 1))
    (k : W p l e R s m args below meth c H locs cells slots Q (F0 m (pc + 1) ls (.int (xs.getD i.toNatClampNeg 0) :: r))) : W p l e R s m args below meth c H locs cells slots Q (F0 m pc ls (.int i :: .ref t :: r)) := by
  obtain ⟨cell, h1, h2, h3, h4, h5, h6, h7⟩ := hT.kept hS.2.1
  have hlt : i.toNatClampNeg < xs.length := Nat.not_le.mp fun q => hin (Or.inr q)
  exact W.iald hx hb h1 h2 h3 (fun q => by rcases q with q | q; exact hin (Or.inl q); omega) (h6 _ hlt) rfl rfl hdg k
theorem s_ro_byte {i : Int32} {t : Nat} {xs : List Int32} {r : List Value} {pc : Nat} (hx : p.tables.exec = Jvm.exec) (hb : c.code = cc) (hT : va_T .byte t xs.length (fun i => .int (xs.getD i 0)) A s s.heap) (hS : va_S A s.heap H locs) (hin : vp_in i xs.length) (hdg : decode cc pc = .ok (.baload, 1))
    (k : W p l e R s m args below meth c H locs cells slots Q (F0 m (pc + 1) ls (.int (xs.getD i.toNatClampNeg 0) :: r))) : W p l e R s m args below meth c H locs cells slots Q (F0 m pc ls (.int i :: .ref t :: r)) := by
  obtain ⟨cell, h1, h2, h3, h4, h5, h6, h7⟩ := hT.kept hS.2.1
  have hlt : i.toNatClampNeg < xs.length := Nat.not_le.mp fun q => hin (Or.inr q)
  exact W.bald hx hb h1 h2 h3 (fun q => by rcases q with q | q; exact hin (Or.inl q); omega) (h6 _ hlt) rfl rfl hdg k
theorem s_ro_len {ty : FieldType} {t : Nat} {xs : List Int32} {r : List Value} {pc : Nat} (hx : p.tables.exec = Jvm.exec) (hb : c.code = cc) (hT : va_T ty t xs.length (fun i => .int (xs.getD i 0)) A s s.heap) (hS : va_S A s.heap H locs) (hdg : decode cc pc = .ok (.arraylength, 1))
    (k : W p l e R s m args below meth c H locs cells slots Q (F0 m (pc + 1) ls (.int (Int32.ofNat xs.length) :: r))) : W p l e R s m args below meth c H locs cells slots Q (F0 m pc ls (.ref t :: r)) := by
  obtain ⟨cell, h1, h2, h3, h4, h5, h6, h7⟩ := hT.kept hS.2.1
  exact W.alen hx hb h1 h2 h5 rfl rfl hdg k
theorem trv_ro {a : Nat} {x : MC} (hA : ∀ j y, ro j = some y → j ≠ 100) (ha : ¬ a < KB) (h : ro (a - KB) = some x) : trv rA sio (.ref a) = .ref (rA (KB + (a - KB))) := by
  have h1 := hA _ _ h
  have h2 : ¬ a = KB + 100 := by omega
  simp only [trv, if_neg h2]
  rw [show KB + (a - KB) = a by omega]
theorem trv_rf (hrA : ∀ a, a < KB → rA a = b0 + a) {os : List (Option Nat)} (ho : ∀ o ∈ os, ∀ a, o = some a → a < KB) {j : Nat} (hj : j < os.length) : trv rA sio (va_rf (os.getD j none)) = va_rf ((os.getD j none).map rA) := by
  have hm : os.getD j none ∈ os := by
    rw [List.getD_eq_getElem?_getD, List.getElem?_eq_getElem hj]; exact List.getElem_mem hj
  cases hv : os.getD j none with
  | none => rfl
  | some a =>
    rw [hv] at hm
    exact trv_ref rA sio (ho _ hm a rfl)
/-- references in rows are of cells that are made -/
def rowsOK (F : MH) : Prop := ∀ (a k : Nat) (os : List (Option Nat)), F[a]? = some (.inr (.inr (k, os))) → ∀ o ∈ os, ∀ x, o = some x → x < KB
theorem s_rd (hx : p.tables.exec = Jvm.exec) (hb : c.code = cc) {ws : List Cond} {own : String} (hts : ∀ w ∈ ws, w.before args s = true) (hown : s.vm.findClass own = some m.cls) {E : MI} {F : MH} {st st1 : List Value} (hs : sioOK sio) (hdg : decode cc E.1 = .ok (E.2.1, E.2.2.1)) (hlen : m_len E.2.1 = 0 ∨ m_len E.2.1 = E.2.2.1)
    (hK : va_K (dC, dI) cls (tysL cA) s) (hcl : ∀ (ci : Nat) (q : vw_C), cls[ci]? = some q → ∀ w ∈ u_ws q.1 q.2.1 q.2.2, w ∈ ws) (h99 : cls.length ≤ 99) (hrA : ∀ a, a < KB → rA a = b0 + a) (hR : rowsOK F) (hro : ∀ j x, ro j = some x → roC rA sio A s s.heap j x) (hr1 : ∀ j y, ro j = some y → j ≠ 100)
    (hP : va_P (dC, dI) cls (wsF (trE rA sio cA) b0 F) H) (hS : va_S A s.heap H locs) (hf : ∀ idx, E.2.1 = .getfield idx → fldOK cls own E ws idx) (h : m_rd ro F E st = some st1)
    (k : W p l e R s m args below meth c H locs cells slots Q (F0 m (E.1 + E.2.2.1) ls (trs rA sio st1))) : W p l e R s m args below meth c H locs cells slots Q (F0 m E.1 ls (trs rA sio st)) := by
  obtain ⟨pc, i, len, a0, b1, z⟩ := E
  simp only at hdg hlen k h hf ⊢
  cases i
  case getfield idx =>
    simp only [m_len] at hlen
    obtain rfl : len = 3 := by omega
    have hf := hf idx rfl
    simp only [m_rd] at h
    split at h
    · rename_i a r
      split at h
      · rename_i ci fs hc
        split at h
        · rename_i hci
          split at h
          · rename_i v hv
            cases h
            unfold m_cell at hc
            split at hc
            · rename_i ha
              rcases hf with ⟨C, T, N, q1, q2, q3⟩ | ⟨q1, -⟩
              · simp only at q1 q2 q3
                subst hci
                have e1 : (fs.map (trv rA sio))[b1]? = some (trv rA sio v) := by rw [List.getElem?_map, hv]; rfl
                show W p l e R s m args below meth c H locs cells slots Q (F0 m pc ls (trv rA sio (.ref a) :: trs rA sio r))
                rw [trv_ref rA sio ha, hrA a ha]
                exact va_get (D := (dC, dI)) (ref := (T b1).1) hx hb hts (hcl _ _ q1) hown hK hP a (s_cell hc) q1 b1 q2 (hts _ q3) (fun _ h9 => h9) e1 hdg k
              · simp only at q1
                have := (hP a _ (s_cell hc))
                obtain ⟨rr, g1, -⟩ := this
                have := (List.getElem?_eq_some_iff.mp g1).1
                simp only at this
                omega
            · rename_i ha
              obtain ⟨g1, v0, g2, -, g3, g4⟩ := hro _ _ hc
              simp only at g1 g2
              show W p l e R s m args below meth c H locs cells slots Q (F0 m pc ls (trv rA sio (.ref a) :: trs rA sio r))
              rw [trv_ro hr1 ha hc]
              rcases hf with ⟨C, T, N, q1, -⟩ | ⟨-, ⟨q1, q2⟩ | ⟨q1, q2⟩⟩
              · simp only at q1
                have := (List.getElem?_eq_some_iff.mp q1).1
                omega
              · simp only at q1 q2
                subst q1
                rw [g2] at hv
                simp only [List.getElem?_cons_zero, Option.some.injEq] at hv
                subst hv
                exact vk_getf hx hb g3 hS hown (hts _ q2) (fun _ h9 => h9) hdg k
              · simp only at q1 q2
                subst q1
                rw [g2] at hv
                simp only [List.getElem?_cons_succ, List.getElem?_cons_zero, Option.some.injEq] at hv
                subst hv
                exact vk_getf hx hb g4 hS hown (hts _ q2) (fun _ h9 => h9) hdg k
          · cases h
        · cases h
      · cases h
    · cases h
  case arraylength =>
    simp only [m_len] at hlen
    obtain rfl : len = 1 := by omega
    simp only [m_rd] at h
    split at h
    · rename_i a r
      split at h
      · cases h
      · rename_i ha
        split at h
        · rename_i kk xs hc
          cases h
          show W p l e R s m args below meth c H locs cells slots Q (F0 m pc ls (trv rA sio (.ref a) :: trs rA sio r))
          rw [trv_ro hr1 ha hc]
          rcases hro _ _ hc with ⟨-, g⟩ | ⟨-, g⟩
          · exact s_ro_len hx hb g hS hdg k
          · exact s_ro_len hx hb g hS hdg k
        · cases h
    · cases h
  case iaload =>
    simp only [m_len] at hlen
    obtain rfl : len = 1 := by omega
    simp only [m_rd] at h
    split at h
    · rename_i i a r
      split at h
      · rename_i kk xs hc
        split at h
        · rename_i hq
          cases h
          obtain ⟨rfl, hin⟩ := hq
          show W p l e R s m args below meth c H locs cells slots Q (F0 m pc ls (.int i :: trv rA sio (.ref a) :: trs rA sio r))
          unfold m_cell at hc
          split at hc
          · rename_i ha
            rw [trv_ref rA sio ha, hrA a ha]
            exact va_iald (D := (dC, dI)) hx hb hK hP a 0 (s_cell hc) rfl (m_in_spec hin) hdg k
          · rename_i ha
            rw [trv_ro hr1 ha hc]
            rcases hro _ _ hc with ⟨-, g⟩ | ⟨g0, -⟩
            · exact s_ro_int hx hb g hS (m_in_spec hin) hdg k
            · cases g0
        · cases h
      · cases h
    · cases h
  case baload =>
    simp only [m_len] at hlen
    obtain rfl : len = 1 := by omega
    simp only [m_rd] at h
    split at h
    · rename_i i a r
      split at h
      · rename_i kk xs hc
        split at h
        · rename_i hq
          cases h
          obtain ⟨hk2, hin⟩ := hq
          show W p l e R s m args below meth c H locs cells slots Q (F0 m pc ls (.int i :: trv rA sio (.ref a) :: trs rA sio r))
          unfold m_cell at hc
          split at hc
          · rename_i ha
            rw [trv_ref rA sio ha, hrA a ha]
            rcases hk2 with rfl | rfl
            · exact va_zald (D := (dC, dI)) hx hb hK hP a 1 (s_cell hc) rfl (m_in_spec hin) hdg k
            · exact va_bald (D := (dC, dI)) hx hb hK hP a 2 (s_cell hc) rfl (m_in_spec hin) hdg k
          · rename_i ha
            rw [trv_ro hr1 ha hc]
            rcases hro _ _ hc with ⟨g0, -⟩ | ⟨-, g⟩
            · simp only at g0; omega
            · exact s_ro_byte hx hb g hS (m_in_spec hin) hdg k
        · cases h
      · cases h
    · cases h
  case aaload =>
    simp only [m_len] at hlen
    obtain rfl : len = 1 := by omega
    simp only [m_rd] at h
    split at h
    · rename_i i a r
      split at h
      · rename_i kk os hc
        split at h
        · rename_i hq
          cases h
          obtain ⟨ha, k3, k6, hin⟩ := hq
          unfold m_cell at hc
          rw [if_pos ha] at hc
          have hv := m_in_spec hin
          have hlt : i.toNatClampNeg < os.length := Nat.not_le.mp fun q => hv (Or.inr q)
          show W p l e R s m args below meth c H locs cells slots Q (F0 m pc ls (.int i :: trv rA sio (.ref a) :: trs rA sio r))
          have k : W p l e R s m args below meth c H locs cells slots Q (F0 m (pc + 1) ls (trv rA sio (va_rf (os.getD i.toNatClampNeg none)) :: trs rA sio r)) := k
          rw [trv_rf hrA (hR _ _ _ hc) hlt] at k
          rw [trv_ref rA sio ha, hrA a ha]
          have hc' := s_cell (rA := rA) (sio := sio) (cA := cA) (b0 := b0) hc
          rcases (show kk = 3 ∨ kk = 4 ∨ kk = 5 ∨ kk = 6 by omega) with rfl | rfl | rfl | rfl
          · exact va_aldq (D := (dC, dI)) hx hb hK hP a 3 hc' rfl hv hdg k
          · exact va_aldq (D := (dC, dI)) hx hb hK hP a 4 hc' rfl hv hdg k
          · exact va_aldq (D := (dC, dI)) hx hb hK hP a 5 hc' rfl hv hdg k
          · exact va_aldq (D := (dC, dI)) hx hb hK hP a 6 hc' rfl hv hdg k
        · cases h
      · cases h
    · cases h
  all_goals (simp only [m_rd, reduceCtorEq] at h)
end SimE
end
section
/-! THE SMALL MACHINE IS THE MACHINE, VI: writes, new cells -/
def mzC (c : MC) : Nat := match c with
  | .inl o => o.2.length
  | .inr (.inl q) => q.2.length
  | .inr (.inr q) => q.2.length
def mz (F : MH) : Nat := (F.map mzC).sum
theorem mz_app (F : MH) (c : MC) : mz (F ++ [c]) = mz F + mzC c := by simp [mz]
theorem mz_set : ∀ (F : MH) (a : Nat) (c0 c : MC), F[a]? = some c0 → mzC c = mzC c0 → mz (F.set a c) = mz F
  | [], a, c0, c, h, _ => by simp at h
  | x :: t, 0, c0, c, h, he => by
    simp only [List.getElem?_cons_zero, Option.some.injEq] at h
    subst h
    simp only [List.set_cons_zero, mz, List.map_cons, List.sum_cons, he]
  | x :: t, a + 1, c0, c, h, he => by
    rw [List.getElem?_cons_succ] at h
    have := mz_set t a c0 c h he
    simp only [mz] at this
    simp only [List.set_cons_succ, mz, List.map_cons, List.sum_cons, this]
/-- the classes' tables: types of fields, names apart, what a new object holds, the words -/
def clsOK (cls : List vw_C) (fty : Nat → Nat → FieldType) (dfl : Nat → List Value) (ws : List Cond) : Prop :=
  ∀ (ci : Nat) (q : vw_C), cls[ci]? = some q → (∀ w ∈ u_ws q.1 q.2.1 q.2.2, w ∈ ws) ∧ (∀ k, k < q.2.2 → parseFieldDescriptor (q.2.1 k).2.2.1 = some (fty ci k)) ∧ (∀ a, a < q.2.2 → ∀ b, b < q.2.2 → a ≠ b → (q.2.1 a).2.1 ≠ (q.2.1 b).2.1) ∧
    (dfl ci).length = q.2.2 ∧ (∀ j, j < q.2.2 → (dfl ci)[j]? = some (defaultValue (fty ci j)) ∧ ∀ rA sio, trv rA sio (defaultValue (fty ci j)) = defaultValue (fty ci j)) ∧ Cond.instantiable q.1 q.2.2 ∈ ws ∧ Cond.initialized q.1 ∈ ws
/-- a final field is put in its class's constructor alone -/
def finOK (cls : List vw_C) (y : MethodName) (E : MI) : Prop := ∀ (C : String) (T : u_T) (N : Nat), cls[E.2.2.2.1]? = some (C, T, N) → (T E.2.2.2.2.1).2.2.2 = false ∨ ((T E.2.2.2.2.1).2.2.2 = true ∧ y.name = "<init>" ∧ (T E.2.2.2.2.1).1 = y.cls)
/-- what is checked of an instruction that makes cells -/
def newOK (cls : List vw_C) (own : String) (E : MI) (ws : List Cond) : Prop := match E.2.1 with
  | .new idx => ∃ q, cls[E.2.2.2.1]? = some q ∧ Cond.classLink own idx q.1 ∈ ws
  | .newarray _ => Cond.arrayClass .int ∈ ws ∧ Cond.arrayClass .boolean ∈ ws
  | .anewarray idx => (E.2.2.2.1 = 3 ∧ Cond.classLink own idx "DoorPaints$Visitor" ∈ ws) ∨ (E.2.2.2.1 = 4 ∧ Cond.classLink own idx "DoorPaints$Door" ∈ ws) ∨ (E.2.2.2.1 = 5 ∧ Cond.classLink own idx "DoorPaints$Told" ∈ ws) ∨ (E.2.2.2.1 = 6 ∧ Cond.classLink own idx "DoorPaints$Sheet" ∈ ws)
  | .aastore => ∃ q, cls[E.2.2.2.1]? = some q ∧ ((E.2.2.2.2.1 = 3 ∧ q.1 = "DoorPaints$Visitor") ∨ (E.2.2.2.2.1 = 4 ∧ q.1 = "DoorPaints$Door") ∨ (E.2.2.2.2.1 = 5 ∧ q.1 = "DoorPaints$Told") ∨ (E.2.2.2.2.1 = 6 ∧ q.1 = "DoorPaints$Sheet"))
  | _ => True
section SimF
variable {p : Program} {l : Launch} {e : Env} {R : Room} {s : State} {m : MethodId} {args : Array Value} {below : List Frame} {meth : Method} {c : Code} {H : Heap} {locs : List Loc} {cells slots : Nat} {Q : State → Prop}
variable {cc : ByteArray} {ls : Array Slot} {nL : Nat} {rA : Nat → Nat} {sio : Value} {cA : Nat → ClassId} {dC : Nat → ClassId} {dI : Nat → Nat → Nat} {cls : List vw_C} {b0 : Nat}
theorem W.size {g : JFrame} (k : H.size ≤ s.heap.size + cells → W p l e R s m args below meth c H locs cells slots Q g) : W p l e R s m args below meth c H locs cells slots Q g :=
  fun T hT X => k (by rw [← hT]; exact X.heapSize) T hT X
theorem fits_trv (hs : sioOK sio) {ty : FieldType} {v : Value} (hf : fits ty v = true) (hn : narrow ty v = v) : fits ty (trv rA sio v) = true ∧ narrow ty (trv rA sio v) = trv rA sio v := by
  cases v with
  | ref a =>
    have h4 : sioOK (trv rA sio (.ref a)) := trv_sio hs a
    rcases h4 with h4 | ⟨y, h4⟩ <;> rw [h4] <;> cases ty <;> simp_all [fits, narrow]
  | _ => exact ⟨hf, hn⟩
theorem va_S.own {A : Nat → Prop} {H0 : Heap} (h : va_S A H0 H locs) : va_S A H H locs := ⟨Nat.le_refl _, fun _ _ _ => rfl, h.2.2⟩
theorem va_S.thru {A : Nat → Prop} {H0 H1 : Heap} {l1 : List Loc} (h : va_S A H0 H locs) (h1 : va_S A H H1 l1) : va_S A H0 H1 l1 := ⟨Nat.le_trans h.1 h1.1, fun q a b => (h1.2.1 q (Nat.lt_of_lt_of_le a h.1) b).trans (h.2.1 q a b), h1.2.2⟩
theorem s_putf (hx : p.tables.exec = Jvm.exec) (hb : c.code = cc) {ws : List Cond} {y : MethodName} (hts : ∀ w ∈ ws, w.before args s = true) (hown : s.vm.findClass y.cls = some m.cls) (hmn : meth.name = y.name) {pc idx a ci kf : Nat} {fs : List Value} {F : MH} {v : Value} {r : List Value} {fty : Nat → Nat → FieldType} {dfl : Nat → List Value} (hs : sioOK sio) (hdg : decode cc pc = .ok (.putfield idx, 3))
    (hK : va_K (dC, dI) cls (tysL cA) s) (hcl : clsOK cls fty dfl ws) {C : String} {T : u_T} {N : Nat} (q1 : cls[ci]? = some (C, T, N)) (q2 : kf < N) (q3 : Cond.fieldLink y.cls idx (T kf).1 (T kf).2.1 (T kf).2.2.1 ∈ ws)
    (hfin : (T kf).2.2.2 = false ∨ ((T kf).2.2.2 = true ∧ y.name = "<init>" ∧ (T kf).1 = y.cls)) (hrA : ∀ a, a < KB → rA a = b0 + a) (hP : va_P (dC, dI) cls (wsF (trE rA sio cA) b0 F) H) (hS : va_S (fun q => b0 ≤ q) s.heap H locs) (ha : a < KB) (hc : F[a]? = some (.inl (ci, fs))) (hkf : kf < fs.length) (hn : narrow (fty ci kf) v = v) (hf : fits (fty ci kf) v = true) (hsz : b0 + F.length ≤ H.size)
    (k : ∀ (H1 : Heap) (l1 : List Loc), va_P (dC, dI) cls (wsF (trE rA sio cA) b0 (F.set a (.inl (ci, fs.set kf v)))) H1 → b0 + (F.set a (.inl (ci, fs.set kf v))).length ≤ H1.size → va_S (fun q => b0 ≤ q) s.heap H1 l1 → W p l e R s m args below meth c H1 l1 cells slots Q (F0 m (pc + 3) ls (trs rA sio r))) :
    W p l e R s m args below meth c H locs cells slots Q (F0 m pc ls (trs rA sio (v :: .ref a :: r))) := by
  obtain ⟨g1, g2, g3, -⟩ := hcl ci _ q1
  simp only at g1 g2 g3
  obtain ⟨hf', hn'⟩ := fits_trv (rA := rA) (sio := sio) hs hf hn
  have hl : kf < (fs.map (trv rA sio)).length := by rw [List.length_map]; exact hkf
  have hD := wsF_D (trE rA sio cA) (A := fun q => b0 ≤ q) (b := b0) (fun _ h => h) F
  have e1 : (wsF (trE rA sio cA) b0 F).set a (b0 + a, .inr (ci, (fs.map (trv rA sio)).set kf (trv rA sio v))) = wsF (trE rA sio cA) b0 (F.set a (.inl (ci, fs.set kf v))) := by
    rw [← wsF_set]
    show _ = (wsF (trE rA sio cA) b0 F).set a (b0 + a, .inr (ci, (fs.set kf v).map (trv rA sio)))
    rw [List.map_set]
  show W p l e R s m args below meth c H locs cells slots Q (F0 m pc ls (trv rA sio v :: trv rA sio (.ref a) :: trs rA sio r))
  rw [trv_ref rA sio ha, hrA a ha]
  have kk : ∀ (H1 : Heap) (l1 : List Loc), va_P (dC, dI) cls ((wsF (trE rA sio cA) b0 F).set a (b0 + a, .inr (ci, (fs.map (trv rA sio)).set kf (trv rA sio v)))) H1 → va_D (fun q => b0 ≤ q) ((wsF (trE rA sio cA) b0 F).set a (b0 + a, .inr (ci, (fs.map (trv rA sio)).set kf (trv rA sio v)))) → va_S (fun q => b0 ≤ q) H H1 l1 → W p l e R s m args below meth c H1 l1 cells slots Q (F0 m (pc + 3) ls (trs rA sio r)) := by
    intro H1 l1 h1 h2 h3
    rw [e1] at h1
    exact k H1 l1 h1 (by rw [List.length_set]; exact Nat.le_trans hsz h3.1) (hS.thru h3)
  rcases hfin with z | ⟨z1, z2, z3⟩
  · exact va_put (D := (dC, dI)) (ref := (T kf).1) hx hb hts g1 (fty ci) g2 g3 hown hK hP hD hS.own a (s_cell hc) q1 kf q2 (hts _ q3) (fun _ h9 => h9) z (g2 kf q2) hn' hf' hl hdg kk
  · exact va_putF (D := (dC, dI)) (ref := (T kf).1) hx hb hts g1 (fty ci) g2 g3 hown hK hP hD hS.own a (s_cell hc) q1 kf q2 (hts _ q3) (fun _ h9 => h9) z1 (hmn.trans z2) z3 (g2 kf q2) hn' hf' hl hdg kk
theorem s_iast (hx : p.tables.exec = Jvm.exec) (hb : c.code = cc) {pc a : Nat} {i x : Int32} {xs : List Int32} {F : MH} {r : List Value} (hdg : decode cc pc = .ok (.iastore, 1)) (hK : va_K (dC, dI) cls (tysL cA) s) (hrA : ∀ a, a < KB → rA a = b0 + a) (hP : va_P (dC, dI) cls (wsF (trE rA sio cA) b0 F) H) (hS : va_S (fun q => b0 ≤ q) s.heap H locs) (ha : a < KB) (hc : F[a]? = some (.inr (.inl (0, xs)))) (hin : m_in i xs.length = true) (hsz : b0 + F.length ≤ H.size)
    (k : ∀ (H1 : Heap) (l1 : List Loc), va_P (dC, dI) cls (wsF (trE rA sio cA) b0 (F.set a (.inr (.inl (0, xs.set i.toNatClampNeg x))))) H1 → b0 + (F.set a (.inr (.inl (0, xs.set i.toNatClampNeg x)))).length ≤ H1.size → va_S (fun q => b0 ≤ q) s.heap H1 l1 → W p l e R s m args below meth c H1 l1 cells slots Q (F0 m (pc + 1) ls (trs rA sio r))) :
    W p l e R s m args below meth c H locs cells slots Q (F0 m pc ls (trs rA sio (.int x :: .int i :: .ref a :: r))) := by
  have hv := m_in_spec hin
  have hlt : i.toNatClampNeg < xs.length := Nat.not_le.mp fun q => hv (Or.inr q)
  have hD := wsF_D (trE rA sio cA) (A := fun q => b0 ≤ q) (b := b0) (fun _ h => h) F
  have e0 : upd (fun j => xs.getD j 0) i.toNatClampNeg x = fun j => (xs.set i.toNatClampNeg x).getD j 0 := by
    funext j
    rw [set_getD x hlt]
    rfl
  show W p l e R s m args below meth c H locs cells slots Q (F0 m pc ls (.int x :: .int i :: trv rA sio (.ref a) :: trs rA sio r))
  rw [trv_ref rA sio ha, hrA a ha]
  refine va_iast (D := (dC, dI)) hx hb hK hP hD hS.own a 0 (s_cell hc) rfl hv hdg fun H1 l1 h1 h2 h3 => ?_
  refine k H1 l1 ?_ (by rw [List.length_set]; exact Nat.le_trans hsz h3.1) (hS.thru h3)
  rw [← wsF_set]
  show va_P (dC, dI) cls ((wsF (trE rA sio cA) b0 F).set a (b0 + a, .inl (cA 0, (xs.set i.toNatClampNeg x).length, .inl (fun j => (xs.set i.toNatClampNeg x).getD j 0)))) H1
  rw [← e0, List.length_set]
  exact h1
theorem s_zast (hx : p.tables.exec = Jvm.exec) (hb : c.code = cc) {pc a : Nat} {i x : Int32} {xs : List Int32} {F : MH} {r : List Value} (hdg : decode cc pc = .ok (.bastore, 1)) (hK : va_K (dC, dI) cls (tysL cA) s) (hrA : ∀ a, a < KB → rA a = b0 + a) (hP : va_P (dC, dI) cls (wsF (trE rA sio cA) b0 F) H) (hS : va_S (fun q => b0 ≤ q) s.heap H locs) (ha : a < KB) (hc : F[a]? = some (.inr (.inl (1, xs)))) (hin : m_in i xs.length = true) (hsz : b0 + F.length ≤ H.size)
    (k : ∀ (H1 : Heap) (l1 : List Loc), va_P (dC, dI) cls (wsF (trE rA sio cA) b0 (F.set a (.inr (.inl (1, xs.set i.toNatClampNeg (vp_nar .boolean x)))))) H1 → b0 + (F.set a (.inr (.inl (1, xs.set i.toNatClampNeg (vp_nar .boolean x))))).length ≤ H1.size → va_S (fun q => b0 ≤ q) s.heap H1 l1 → W p l e R s m args below meth c H1 l1 cells slots Q (F0 m (pc + 1) ls (trs rA sio r))) :
    W p l e R s m args below meth c H locs cells slots Q (F0 m pc ls (trs rA sio (.int x :: .int i :: .ref a :: r))) := by
  have hv := m_in_spec hin
  have hlt : i.toNatClampNeg < xs.length := Nat.not_le.mp fun q => hv (Or.inr q)
  have hD := wsF_D (trE rA sio cA) (A := fun q => b0 ≤ q) (b := b0) (fun _ h => h) F
  have e0 : upd (fun j => xs.getD j 0) i.toNatClampNeg (vp_nar .boolean x) = fun j => (xs.set i.toNatClampNeg (vp_nar .boolean x)).getD j 0 := by
    funext j
    rw [set_getD _ hlt]
    rfl
  show W p l e R s m args below meth c H locs cells slots Q (F0 m pc ls (.int x :: .int i :: trv rA sio (.ref a) :: trs rA sio r))
  rw [trv_ref rA sio ha, hrA a ha]
  refine va_zast (D := (dC, dI)) hx hb hK hP hD hS.own a 1 (s_cell hc) rfl hv hdg fun H1 l1 h1 h2 h3 => ?_
  refine k H1 l1 ?_ (by rw [List.length_set]; exact Nat.le_trans hsz h3.1) (hS.thru h3)
  rw [← wsF_set]
  show va_P (dC, dI) cls ((wsF (trE rA sio cA) b0 F).set a (b0 + a, .inl (cA 1, (xs.set i.toNatClampNeg (vp_nar .boolean x)).length, .inl (fun j => (xs.set i.toNatClampNeg (vp_nar .boolean x)).getD j 0)))) H1
  rw [← e0, List.length_set]
  exact h1
theorem s_aast (hx : p.tables.exec = Jvm.exec) (hb : c.code = cc) {pc a o kk ci : Nat} {i : Int32} {os : List (Option Nat)} {vs : List Value} {F : MH} {r : List Value} (hdg : decode cc pc = .ok (.aastore, 1)) (hK : va_K (dC, dI) cls (tysL cA) s) (hrA : ∀ a, a < KB → rA a = b0 + a) (hP : va_P (dC, dI) cls (wsF (trE rA sio cA) b0 F) H) (hS : va_S (fun q => b0 ≤ q) s.heap H locs) (ha : a < KB) (ho : o < KB) (hc : F[a]? = some (.inr (.inr (kk, os)))) (hco : F[o]? = some (.inl (ci, vs))) {q : vw_C} (hq : cls[ci]? = some q) (ht : (tysL cA)[kk]? = some (cA kk, .object q.1)) (hin : m_in i os.length = true) (hsz : b0 + F.length ≤ H.size)
    (k : ∀ (H1 : Heap) (l1 : List Loc), va_P (dC, dI) cls (wsF (trE rA sio cA) b0 (F.set a (.inr (.inr (kk, os.set i.toNatClampNeg (some o)))))) H1 → b0 + (F.set a (.inr (.inr (kk, os.set i.toNatClampNeg (some o))))).length ≤ H1.size → va_S (fun q => b0 ≤ q) s.heap H1 l1 → W p l e R s m args below meth c H1 l1 cells slots Q (F0 m (pc + 1) ls (trs rA sio r))) :
    W p l e R s m args below meth c H locs cells slots Q (F0 m pc ls (trs rA sio (.ref o :: .int i :: .ref a :: r))) := by
  have hv := m_in_spec hin
  have hlt : i.toNatClampNeg < os.length := Nat.not_le.mp fun q => hv (Or.inr q)
  have hD := wsF_D (trE rA sio cA) (A := fun q => b0 ≤ q) (b := b0) (fun _ h => h) F
  have e0 : va_up (fun j => (os.getD j none).map rA) i.toNatClampNeg (some (b0 + o)) = fun j => ((os.set i.toNatClampNeg (some o)).getD j none).map rA := by
    funext j
    simp only [va_up, List.getD_eq_getElem?_getD, List.getElem?_set]
    by_cases hj : j = i.toNatClampNeg
    · subst hj
      rw [if_pos rfl, if_pos rfl, if_pos hlt]
      show some (b0 + o) = some (rA o)
      rw [hrA o ho]
    · rw [if_neg hj, if_neg (fun z => hj z.symm)]
  show W p l e R s m args below meth c H locs cells slots Q (F0 m pc ls (trv rA sio (.ref o) :: .int i :: trv rA sio (.ref a) :: trs rA sio r))
  rw [trv_ref rA sio ha, hrA a ha, trv_ref rA sio ho, hrA o ho]
  refine va_astq (D := (dC, dI)) hx hb hK hP hD hS.own a kk o ci (s_cell hc) ht (s_cell hco) hq hv hdg fun H1 l1 h1 h2 h3 => ?_
  refine k H1 l1 ?_ (by rw [List.length_set]; exact Nat.le_trans hsz h3.1) (hS.thru h3)
  rw [← wsF_set]
  show va_P (dC, dI) cls ((wsF (trE rA sio cA) b0 F).set a (b0 + a, .inl (cA kk, (os.set i.toNatClampNeg (some o)).length, .inr (.inr (.inr (.inr (fun j => ((os.set i.toNatClampNeg (some o)).getD j none).map rA))))))) H1
  rw [← e0, List.length_set]
  exact h1
end SimF
end
section
/-! THE SMALL MACHINE IS THE MACHINE, VII: new cells; all writes together -/
section SimG
variable {p : Program} {l : Launch} {e : Env} {R : Room} {s : State} {m : MethodId} {args : Array Value} {below : List Frame} {meth : Method} {c : Code} {H : Heap} {locs : List Loc} {cells slots : Nat} {Q : State → Prop}
variable {cc : ByteArray} {ls : Array Slot} {nL : Nat} {rA : Nat → Nat} {sio : Value} {cA : Nat → ClassId} {dC : Nat → ClassId} {dI : Nat → Nat → Nat} {cls : List vw_C} {b0 : Nat}
/-- where a new cell lies -/
theorem new_at {F : MH} {q : Nat} {E : va_E} {H1 : Heap} (hP : va_P (dC, dI) cls (wsF (trE rA sio cA) b0 F ++ [(q, E)]) H1) (hD : va_D (fun q => b0 ≤ q) (wsF (trE rA sio cA) b0 F ++ [(q, E)])) (hz : H1.size ≤ b0 + F.length + 1) : q = b0 + F.length ∧ b0 + F.length + 1 ≤ H1.size := by
  have hl : (wsF (trE rA sio cA) b0 F).length = F.length := by
    have : ∀ (F : MH) (b : Nat), (wsF (trE rA sio cA) b F).length = F.length := by
      intro F
      induction F with
      | nil => intro b; rfl
      | cons x t ih => intro b; simp only [wsF, List.length_cons, ih]
    exact this F b0
  have h1 : (wsF (trE rA sio cA) b0 F ++ [(q, E)])[F.length]? = some (q, E) := by
    rw [List.getElem?_append_right (by omega), hl, Nat.sub_self]; rfl
  have h2 : q < H1.size := (hP _ _ h1).lt
  have h3 : b0 ≤ q := hD.2 _ _ h1
  have h4 : ¬ q < b0 + F.length := by
    intro hlt
    obtain ⟨x, hx⟩ : ∃ x, F[q - b0]? = some x := ⟨_, List.getElem?_eq_getElem (by omega)⟩
    have h5 : (wsF (trE rA sio cA) b0 F ++ [(q, E)])[q - b0]? = some (b0 + (q - b0), trE rA sio cA x) := by
      rw [List.getElem?_append_left (by omega)]; exact s_cell hx
    have := hD.1 _ _ _ _ h5 h1 (by simp only; omega)
    omega
  omega
theorem s_new (hx : p.tables.exec = Jvm.exec) (hb : c.code = cc) {ws : List Cond} {own : String} (hts : ∀ w ∈ ws, w.before args s = true) (hown : s.vm.findClass own = some m.cls) {pc idx ci : Nat} {F : MH} {st : List Value} {fty : Nat → Nat → FieldType} {dfl : Nat → List Value} (hdg : decode cc pc = .ok (.new idx, 3))
    (hK : va_K (dC, dI) cls (tysL cA) s) (hcl : clsOK cls fty dfl ws) {q : vw_C} (q1 : cls[ci]? = some q) (q2 : Cond.classLink own idx q.1 ∈ ws) (hrA : ∀ a, a < KB → rA a = b0 + a) (hP : va_P (dC, dI) cls (wsF (trE rA sio cA) b0 F) H) (hS : va_S (fun q => b0 ≤ q) s.heap H locs) (hF : F.length < KB) (hI : s.heap.size + cells = b0 + F.length) (hsz : b0 + F.length ≤ H.size) (hc1 : cells + 1 ≤ R.cells) (hs1 : slots + (dfl ci).length ≤ R.slots)
    (k : ∀ (H1 : Heap), va_P (dC, dI) cls (wsF (trE rA sio cA) b0 (F ++ [.inl (ci, dfl ci)])) H1 → b0 + (F ++ [(.inl (ci, dfl ci) : MC)]).length ≤ H1.size → va_S (fun q => b0 ≤ q) s.heap H1 locs → W p l e R s m args below meth c H1 locs (cells + 1) (slots + (dfl ci).length) Q (F0 m (pc + 3) ls (trs rA sio (.ref F.length :: st)))) :
    W p l e R s m args below meth c H locs cells slots Q (F0 m pc ls (trs rA sio st)) := by
  obtain ⟨C, T, N⟩ := q
  obtain ⟨g1, g2, g3, g4, g5, g6, g7⟩ := hcl ci _ q1
  simp only at g1 g2 g3 g4 g5 g6 g7 q2
  have hD := wsF_D (trE rA sio cA) (A := fun q => b0 ≤ q) (b := b0) (fun _ h => h) F
  have em : (dfl ci).map (trv rA sio) = dfl ci := by
    apply List.ext_getElem?
    intro j
    rw [List.getElem?_map]
    by_cases hj : j < N
    · rw [(g5 j hj).1]
      show some (trv rA sio _) = _
      rw [(g5 j hj).2 rA sio]
    · rw [List.getElem?_eq_none (by omega)]; rfl
  have hd : ∀ j, j < N → defaultValue (fty ci j) = vp_V (dfl ci) j := by
    intro j hj
    unfold vp_V
    rw [List.getD_eq_getElem?_getD, (g5 j hj).1]; rfl
  rw [g4] at hs1 k
  refine va_new (D := (dC, dI)) hx hb hts g1 (fty ci) g2 hown (hts _ q2) (hts _ g6) (hts _ g7) hK hP hD hS.own (fun x hx => Nat.le_trans (Nat.le_trans (Nat.le_add_right _ _) hsz) hx) q1 hd hc1 hs1 hdg fun q H1 h1 h2 h3 => ?_
  refine W.size fun hz => ?_
  obtain ⟨z1, z2⟩ := new_at h1 h2 (by omega)
  subst z1
  have k := k H1 (by rw [wsF_app]; show va_P (dC, dI) cls (_ ++ [(_, .inr (ci, (dfl ci).map (trv rA sio)))]) H1; rw [em]; exact h1) (by rw [List.length_append]; exact z2) (hS.thru h3)
  have k : W p l e R s m args below meth c H1 locs (cells + 1) (slots + N) Q (F0 m (pc + 3) ls (trv rA sio (.ref F.length) :: trs rA sio st)) := k
  rw [trv_ref rA sio hF, hrA _ hF] at k
  exact k
theorem s_newa (hx : p.tables.exec = Jvm.exec) (hb : c.code = cc) {ws : List Cond} (hts : ∀ w ∈ ws, w.before args s = true) {pc kk : Nat} {at' : ArrayType} {n : Int32} {F : MH} {st : List Value} (hdg : decode cc pc = .ok (.newarray at', 2))
    (hK : va_K (dC, dI) cls (tysL cA) s) (hw : Cond.arrayClass .int ∈ ws ∧ Cond.arrayClass .boolean ∈ ws) (hk : (at' = .int ∧ kk = 0) ∨ (at' = .boolean ∧ kk = 1)) (hn0 : 0 ≤ n.toInt) (hn1 : n.toInt ≤ 100000) (hrA : ∀ a, a < KB → rA a = b0 + a) (hP : va_P (dC, dI) cls (wsF (trE rA sio cA) b0 F) H) (hS : va_S (fun q => b0 ≤ q) s.heap H locs) (hF : F.length < KB) (hI : s.heap.size + cells = b0 + F.length) (hsz : b0 + F.length ≤ H.size) (hc1 : cells + 1 ≤ R.cells) (hs1 : slots + n.toNatClampNeg ≤ R.slots)
    (k : ∀ (H1 : Heap), va_P (dC, dI) cls (wsF (trE rA sio cA) b0 (F ++ [.inr (.inl (kk, List.replicate n.toNatClampNeg 0))])) H1 → b0 + (F ++ [(.inr (.inl (kk, List.replicate n.toNatClampNeg 0)) : MC)]).length ≤ H1.size → va_S (fun q => b0 ≤ q) s.heap H1 locs → W p l e R s m args below meth c H1 locs (cells + 1) (slots + n.toNatClampNeg) Q (F0 m (pc + 2) ls (trs rA sio (.ref F.length :: st)))) :
    W p l e R s m args below meth c H locs cells slots Q (F0 m pc ls (trs rA sio (.int n :: st))) := by
  have hD := wsF_D (trE rA sio cA) (A := fun q => b0 ≤ q) (b := b0) (fun _ h => h) F
  have hneg : ¬ n < 0 := by rw [Int32.lt_iff_toInt_lt, Int32.toInt_zero]; omega
  have hsmall : n.toNatClampNeg ≤ 100000 := by
    have : (n.toNatClampNeg : Int) = n.toInt := by
      show ((n.toInt.toNat : Nat) : Int) = n.toInt
      omega
    omega
  have er : (fun j => (List.replicate n.toNatClampNeg (0 : Int32)).getD j 0) = fun _ => 0 := by
    funext j
    rw [List.getD_eq_getElem?_getD, List.getElem?_replicate]
    split <;> rfl
  have key : ∀ (ty : FieldType) (t0 : Nat), newarray.typeOf at' = ty → (tysL cA)[t0]? = some (cA t0, ty) → t0 = kk → (∀ cA' : ClassId, va_RA s cA' ty = (s.vm.findClass ("[" ++ ty.toString) = some cA')) → Cond.arrayClass (newarray.typeOf at') ∈ ws → (∀ cA' : ClassId, vp_cell cA' (n.toNatClampNeg, .inl (fun _ => 0)) = arrV cA' n.toNatClampNeg (fun _ => defaultValue ty)) → componentBytes ty ≤ 4 → W p l e R s m args below meth c H locs cells slots Q (F0 m pc ls (.int n :: trs rA sio st)) := by
    intro ty t0 e1 e2 e3 e4 e5 e6 e7
    subst e3
    refine va_newa (D := (dC, dI)) hx hb (hts _ e5) e1 hK hP hD hS.own (fun x hx => Nat.le_trans (Nat.le_trans (Nat.le_add_right _ _) hsz) hx) e6 hneg rfl (Nat.le_trans (Nat.mul_le_mul hsmall e7) (by decide)) hc1 hs1 hdg fun q cN H1 hK1 h1 h2 h3 => ?_
    refine W.size fun hz => ?_
    obtain ⟨z1, z2⟩ := new_at h1 h2 (by omega)
    subst z1
    have f1 : cN = cA t0 := by
      have a1 := (hK1.2 7 (cN, ty) rfl).2
      have a2 := (hK.2 t0 _ e2).2
      simp only at a1 a2
      rw [e4] at a1 a2
      exact Option.some.inj (a1.symm.trans a2)
    subst f1
    have k := k H1 (by rw [wsF_app]; show va_P (dC, dI) cls (_ ++ [(_, .inl (cA t0, (List.replicate n.toNatClampNeg (0 : Int32)).length, .inl (fun j => (List.replicate n.toNatClampNeg (0 : Int32)).getD j 0)))]) H1; rw [er, List.length_replicate]; exact h1) (by rw [List.length_append]; exact z2) (hS.thru h3)
    have k : W p l e R s m args below meth c H1 locs (cells + 1) (slots + n.toNatClampNeg) Q (F0 m (pc + 2) ls (trv rA sio (.ref F.length) :: trs rA sio st)) := k
    rw [trv_ref rA sio hF, hrA _ hF] at k
    exact k
  rcases hk with ⟨rfl, rfl⟩ | ⟨rfl, rfl⟩
  · exact key .int 0 rfl rfl rfl (fun _ => rfl) hw.1 (fun _ => rfl) (by decide)
  · exact key .boolean 1 rfl rfl rfl (fun _ => rfl) hw.2 (fun _ => rfl) (by decide)
theorem s_anew (hx : p.tables.exec = Jvm.exec) (hb : c.code = cc) {ws : List Cond} {own C : String} (hts : ∀ w ∈ ws, w.before args s = true) (hown : s.vm.findClass own = some m.cls) {pc kk idx : Nat} {n : Int32} {F : MH} {st : List Value} (hdg : decode cc pc = .ok (.anewarray idx, 3))
    (hK : va_K (dC, dI) cls (tysL cA) s) (hw1 : Cond.classLink own idx C ∈ ws) (hw2 : va_AO C s) (ht : (tysL cA)[kk]? = some (cA kk, .object C)) (hn0 : 0 ≤ n.toInt) (hn1 : n.toInt ≤ 100000) (hrA : ∀ a, a < KB → rA a = b0 + a) (hP : va_P (dC, dI) cls (wsF (trE rA sio cA) b0 F) H) (hS : va_S (fun q => b0 ≤ q) s.heap H locs) (hF : F.length < KB) (hI : s.heap.size + cells = b0 + F.length) (hsz : b0 + F.length ≤ H.size) (hc1 : cells + 1 ≤ R.cells) (hs1 : slots + n.toNatClampNeg ≤ R.slots)
    (k : ∀ (H1 : Heap), va_P (dC, dI) cls (wsF (trE rA sio cA) b0 (F ++ [.inr (.inr (kk, List.replicate n.toNatClampNeg none))])) H1 → b0 + (F ++ [(.inr (.inr (kk, List.replicate n.toNatClampNeg none)) : MC)]).length ≤ H1.size → va_S (fun q => b0 ≤ q) s.heap H1 locs → W p l e R s m args below meth c H1 locs (cells + 1) (slots + n.toNatClampNeg) Q (F0 m (pc + 3) ls (trs rA sio (.ref F.length :: st)))) :
    W p l e R s m args below meth c H locs cells slots Q (F0 m pc ls (trs rA sio (.int n :: st))) := by
  have hD := wsF_D (trE rA sio cA) (A := fun q => b0 ≤ q) (b := b0) (fun _ h => h) F
  have hneg : ¬ n < 0 := by rw [Int32.lt_iff_toInt_lt, Int32.toInt_zero]; omega
  have hsmall : n.toNatClampNeg ≤ 100000 := by
    have : (n.toNatClampNeg : Int) = n.toInt := by
      show ((n.toInt.toNat : Nat) : Int) = n.toInt
      omega
    omega
  have er : (fun j => ((List.replicate n.toNatClampNeg (none : Option Nat)).getD j none).map rA) = fun _ => none := by
    funext j
    rw [List.getD_eq_getElem?_getD, List.getElem?_replicate]
    split <;> rfl
  refine va_newq (D := (dC, dI)) hx hb hown (hts _ hw1) hw2 hK hP hD hS.own (fun x hx => Nat.le_trans (Nat.le_trans (Nat.le_add_right _ _) hsz) hx) hneg rfl (by omega) hc1 hs1 hdg fun q cN H1 hK1 h1 h2 h3 => ?_
  refine W.size fun hz => ?_
  obtain ⟨z1, z2⟩ := new_at h1 h2 (by omega)
  subst z1
  have f1 : cN = cA kk := by
    obtain ⟨_, _, -, -, -, a1⟩ := (hK1.2 7 (cN, .object C) rfl).2
    obtain ⟨_, _, -, -, -, a2⟩ := (hK.2 kk _ ht).2
    exact Option.some.inj (a1.symm.trans a2)
  subst f1
  have k := k H1 (by rw [wsF_app]; show va_P (dC, dI) cls (_ ++ [(_, .inl (cA kk, (List.replicate n.toNatClampNeg (none : Option Nat)).length, .inr (.inr (.inr (.inr (fun j => ((List.replicate n.toNatClampNeg (none : Option Nat)).getD j none).map rA))))))]) H1; rw [er, List.length_replicate]; exact h1) (by rw [List.length_append]; exact z2) (hS.thru h3)
  have k : W p l e R s m args below meth c H1 locs (cells + 1) (slots + n.toNatClampNeg) Q (F0 m (pc + 3) ls (trv rA sio (.ref F.length) :: trs rA sio st)) := k
  rw [trv_ref rA sio hF, hrA _ hF] at k
  exact k
end SimG
end
section
/-! THE SMALL MACHINE IS THE MACHINE, VIII: what holds at every method's start; constants; writes; growth -/
def aoC : List String := ["DoorPaints$Visitor", "DoorPaints$Door", "DoorPaints$Told", "DoorPaints$Sheet"]
abbrev StrT : Type := List (String × Nat × Nat)
abbrev NestT : Type := List (String × Nat × MethodName × String)
def CTX (cls : List vw_C) (strT : StrT) (nestT : NestT) (ro : Nat → Option MC) (rA : Nat → Nat) (sio : Value) (b0 : Nat) (dC : Nat → ClassId) (dI : Nat → Nat → Nat) (cA : Nat → ClassId) (U : State) : Prop :=
  va_K (dC, dI) cls (tysL cA) U ∧ (∀ j x, ro j = some x → roC rA sio (fun q => b0 ≤ q) U U.heap j x) ∧ va_Z "java/lang/String" "COMPACT_STRINGS" "Z" (.int 1) (fun q => b0 ≤ q) U U.heap ∧ va_Z "jdk/internal/util/Preconditions" "SIOOBE_FORMATTER" "Ljava/util/function/BiFunction;" sio (fun q => b0 ≤ q) U U.heap ∧
  (∀ q ∈ strT, ∃ tx, vk_R q.1 q.2.1 tx (rA (KB + q.2.2)) U) ∧ (∀ q ∈ nestT, va_Nw (.methodLinkNest q.1 q.2.1 q.2.2.1 q.2.2.2) U) ∧ (∀ C ∈ aoC, va_AO C U)
theorem roC.go {rA : Nat → Nat} {sio : Value} {A : Nat → Prop} {s U : State} {j : Nat} {x : MC} (h : roC rA sio A s s.heap j x) (hvm : s.vm.Alike U.vm) (hq : ∀ a : Nat, a < s.heap.size → ¬ A a → U.heap[a]? = s.heap[a]?) : roC rA sio A U U.heap j x := by
  match x, h with
  | .inl o, h =>
    obtain ⟨h1, v, h2, h3, h4, h5⟩ := h
    exact ⟨h1, v, h2, (h3.moved hvm).kept hq, (h4.moved hvm).kept hq, (h5.moved hvm).kept hq⟩
  | .inr (.inl q), h =>
    rcases h with ⟨h1, h2⟩ | ⟨h1, h2⟩
    · exact Or.inl ⟨h1, (h2.moved hvm).kept hq⟩
    · exact Or.inr ⟨h1, (h2.moved hvm).kept hq⟩
  | .inr (.inr q), h => exact h.elim
theorem CTX.go {cls : List vw_C} {strT : StrT} {nestT : NestT} {ro : Nat → Option MC} {rA : Nat → Nat} {sio : Value} {b0 : Nat} {dC : Nat → ClassId} {dI : Nat → Nat → Nat} {cA : Nat → ClassId} {s U : State} (h : CTX cls strT nestT ro rA sio b0 dC dI cA s) (hW : s.WarmedH U.vm) (hq : ∀ a : Nat, a < s.heap.size → ¬ b0 ≤ a → U.heap[a]? = s.heap[a]?) : CTX cls strT nestT ro rA sio b0 dC dI cA U := by
  obtain ⟨h1, h2, h3, h4, h5, h6, h7⟩ := h
  exact ⟨h1.moved hW.alike, fun j x hx => (h2 j x hx).go hW.alike hq, (h3.moved hW.alike).kept hq, (h4.moved hW.alike).kept hq, fun q hm => (h5 q hm).imp fun tx hz => hz.warm hW, fun q hm => va_Nw.warmM hW (h6 q hm), fun C hm => (h7 C hm).moved hW.alike⟩
/-- what is checked of a constant -/
def cstOK (own : String) (E : MI) (ws : List Cond) (strT : StrT) : Prop := match E.2.1 with
  | .ldc idx => (E.2.2.2.1 = 0 ∧ Cond.constant own idx (Int32.ofInt E.2.2.2.2.2) ∈ ws) ∨ (¬ E.2.2.2.1 = 0 ∧ ¬ E.2.2.2.2.1 = 100 ∧ (own, idx, E.2.2.2.2.1) ∈ strT)
  | .ldc_w idx => Cond.constant own idx (Int32.ofInt E.2.2.2.2.2) ∈ ws
  | .ldc2_w idx => Cond.constantLong own idx (Int64.ofInt E.2.2.2.2.2) ∈ ws
  | .getstatic idx => (E.2.2.2.1 = 0 ∧ E.2.2.2.2.2 = 1 ∧ Cond.fieldLink own idx "java/lang/String" "COMPACT_STRINGS" "Z" ∈ ws) ∨ (¬ E.2.2.2.1 = 0 ∧ E.2.2.2.2.1 = 100 ∧ Cond.fieldLink own idx "jdk/internal/util/Preconditions" "SIOOBE_FORMATTER" "Ljava/util/function/BiFunction;" ∈ ws)
  | _ => True
section SimH
variable {p : Program} {l : Launch} {e : Env} {R : Room} {s : State} {m : MethodId} {args : Array Value} {below : List Frame} {meth : Method} {c : Code} {H : Heap} {locs : List Loc} {cells slots : Nat} {Q : State → Prop}
variable {cc : ByteArray} {ls : Array Slot} {nL : Nat} {rA : Nat → Nat} {sio : Value} {cA : Nat → ClassId} {dC : Nat → ClassId} {dI : Nat → Nat → Nat} {cls : List vw_C} {b0 : Nat} {strT : StrT} {nestT : NestT} {ro : Nat → Option MC}
theorem s_cst (hx : p.tables.exec = Jvm.exec) (hb : c.code = cc) {ws : List Cond} {own : String} (hts : ∀ w ∈ ws, w.before args s = true) (hown : s.vm.findClass own = some m.cls) {E : MI} {v : Value} {rest : List Value} (hdg : decode cc E.1 = .ok (E.2.1, E.2.2.1)) (hlen : m_len E.2.1 = 0 ∨ m_len E.2.1 = E.2.2.1) (hX : CTX cls strT nestT ro rA sio b0 dC dI cA s) (hok : cstOK own E ws strT) (hS : va_S (fun q => b0 ≤ q) s.heap H locs) (h : m_cst E = some v)
    (k : W p l e R s m args below meth c H locs cells slots Q (F0 m (E.1 + E.2.2.1) ls (trv rA sio v :: rest))) : W p l e R s m args below meth c H locs cells slots Q (F0 m E.1 ls rest) := by
  obtain ⟨pc, i, len, a0, b1, z⟩ := E
  obtain ⟨-, -, hZ1, hZ2, hstr, -, -⟩ := hX
  simp only at hdg hlen k h hok ⊢
  cases i
  case ldc idx =>
    simp only [m_len] at hlen
    obtain rfl : len = 2 := by omega
    simp only [m_cst] at h
    simp only [cstOK] at hok
    split at h
    · rename_i ha
      cases h
      rcases hok with ⟨-, q⟩ | ⟨q, -⟩
      · exact lv_ldc hx hb hown (hts _ q) hdg k
      · exact absurd ha q
    · rename_i ha
      cases h
      rcases hok with ⟨q, -⟩ | ⟨-, q1, q2⟩
      · exact absurd q ha
      · obtain ⟨tx, hR⟩ := hstr _ q2
        have e1 : trv rA sio (.ref (KB + b1)) = .ref (rA (KB + b1)) := by
          have : ¬ KB + b1 = KB + 100 := by omega
          simp only [trv, if_neg this]
        rw [e1] at k
        exact va_ldcS hx hb hown hR hdg k
  case ldc_w idx =>
    simp only [m_len] at hlen
    obtain rfl : len = 3 := by omega
    simp only [m_cst] at h
    simp only [cstOK] at hok
    cases h
    exact lv_ldcw hx hb hown (hts _ hok) hdg k
  case ldc2_w idx =>
    simp only [m_len] at hlen
    obtain rfl : len = 3 := by omega
    simp only [m_cst] at h
    simp only [cstOK] at hok
    cases h
    exact lv_ldc2 hx hb hown (hts _ hok) hdg k
  case getstatic idx =>
    simp only [m_len] at hlen
    obtain rfl : len = 3 := by omega
    simp only [m_cst] at h
    simp only [cstOK] at hok
    split at h
    · rename_i ha
      cases h
      rcases hok with ⟨-, q1, q2⟩ | ⟨q, -⟩
      · subst q1
        exact va_gets hx hb hZ1 hS hown (hts _ q2) (fun _ h9 => h9) hdg k
      · exact absurd ha q
    · rename_i ha
      cases h
      rcases hok with ⟨q, -⟩ | ⟨-, q1, q2⟩
      · exact absurd q ha
      · subst q1
        have e1 : trv rA sio (.ref (KB + 100)) = sio := by simp only [trv, if_true]
        rw [e1] at k
        exact va_gets hx hb hZ2 hS hown (hts _ q2) (fun _ h9 => h9) hdg k
  all_goals (simp only [m_cst, reduceCtorEq] at h)
/-- what a write leaves: as many cells or more, rows of references stay as they should -/
theorem wr_grow {fty : Nat → Nat → FieldType} {dfl : Nat → List Value} {F : MH} {E : MI} {st : List Value} {q : MH × List Value} (h : m_wr fty dfl F E st = some q) : F.length ≤ q.1.length ∧ mz F ≤ mz q.1 ∧ (rowsOK F → rowsOK q.1) := by
  have hset : ∀ (a : Nat) (c0 c1 : MC), F[a]? = some c0 → mzC c1 = mzC c0 → (∀ k os, c1 = .inr (.inr (k, os)) → ∃ o i os0, c0 = .inr (.inr (k, os0)) ∧ os = os0.set i (some o) ∧ o < KB) → F.length ≤ (F.set a c1).length ∧ mz F ≤ mz (F.set a c1) ∧ (rowsOK F → rowsOK (F.set a c1)) := by
    intro a c0 c1 h0 h1 h2
    refine ⟨by rw [List.length_set]; exact Nat.le_refl _, by rw [mz_set F a c0 c1 h0 h1]; exact Nat.le_refl _, fun hR a' k os ha' o ho x hx => ?_⟩
    rw [List.getElem?_set] at ha'
    split at ha'
    · split at ha'
      · have e1 : c1 = .inr (.inr (k, os)) := Option.some.inj ha'
        obtain ⟨oo, i, os0, e2, e3, e4⟩ := h2 k os e1
        rw [e2] at h0
        rw [e3] at ho
        rcases List.mem_or_eq_of_mem_set ho with h5 | h5
        · exact hR a k os0 h0 o h5 x hx
        · rw [h5] at hx; cases hx; exact e4
      · cases ha'
    · exact hR a' k os ha' o ho x hx
  have happ : ∀ (c1 : MC), (∀ k os, c1 = .inr (.inr (k, os)) → ∀ o ∈ os, o = none) → F.length ≤ (F ++ [c1]).length ∧ mz F ≤ mz (F ++ [c1]) ∧ (rowsOK F → rowsOK (F ++ [c1])) := by
    intro c1 h2
    refine ⟨by rw [List.length_append]; exact Nat.le_add_right _ _, by rw [mz_app]; exact Nat.le_add_right _ _, fun hR a' k os ha' o ho x hx => ?_⟩
    by_cases hl : a' < F.length
    · rw [List.getElem?_append_left hl] at ha'
      exact hR a' k os ha' o ho x hx
    · rw [List.getElem?_append_right (by omega)] at ha'
      have hz : a' - F.length < 1 := (List.getElem?_eq_some_iff.mp ha').1
      rw [show a' - F.length = 0 by omega] at ha'
      have e1 : c1 = .inr (.inr (k, os)) := by simpa using ha'
      rw [h2 k os e1 o ho] at hx
      cases hx
  obtain ⟨pc, i, len, a0, b1, z⟩ := E
  unfold m_wr at h
  split at h
  · split at h
    · split at h
      · split at h
        · rename_i hc _
          cases h
          exact hset _ _ _ hc (by simp only [mzC, List.length_set]) (fun k os e => by cases e)
        · cases h
      · cases h
    · cases h
  · split at h
    · split at h
      · split at h
        · rename_i hc _
          cases h
          exact hset _ _ _ hc (by simp only [mzC, List.length_set]) (fun k os e => by cases e)
        · cases h
      · cases h
    · cases h
  · split at h
    · split at h
      · split at h
        · rename_i hc _
          cases h
          exact hset _ _ _ hc (by simp only [mzC, List.length_set]) (fun k os e => by cases e)
        · cases h
      · cases h
    · cases h
  · split at h
    · split at h
      · split at h
        · rename_i hc _ hq
          cases h
          exact hset _ _ _ hc (by simp only [mzC, List.length_set]) (fun k os e => by cases e; exact ⟨_, _, _, rfl, rfl, hq.2.1⟩)
        · cases h
      · cases h
    · cases h
  · split at h
    · cases h
      exact happ _ (fun k os e => by cases e)
    · cases h
  · split at h
    · split at h
      · cases h
        exact happ _ (fun k os e => by cases e)
      · cases h
    · cases h
  · split at h
    · split at h
      · cases h
        exact happ _ (fun k os e => by cases e; intro o ho; exact (List.mem_replicate.mp ho).2)
      · cases h
    · cases h
  · cases h
theorem one_grow {fty : Nat → Nat → FieldType} {dfl : Nat → List Value} {F : MH} {E : MI} {lv : LVs} {st : List Value} {q : MS} (h : m_one ro fty dfl E F lv st = some q) : F.length ≤ q.1.length ∧ mz F ≤ mz q.1 ∧ (rowsOK F → rowsOK q.1) := by
  have same : F.length ≤ F.length ∧ mz F ≤ mz F ∧ (rowsOK F → rowsOK F) := ⟨Nat.le_refl _, Nat.le_refl _, id⟩
  unfold m_one at h
  split at h
  · cases h; exact same
  · split at h
    · cases h; exact same
    · split at h
      · cases h; exact same
      · split at h
        · cases h; exact same
        · split at h
          · cases h; exact same
          · split at h
            · cases h; exact same
            · split at h
              · rename_i hw
                cases h; exact wr_grow hw
              · cases h
theorem ex_grow {MT : List MM} {fty : Nat → Nat → FieldType} {dfl : Nat → List Value} : ∀ (n d mi : Nat) (F : MH) (pc : Nat) (lv : LVs) (st : List Value) (z : Option Value × MH), ex MT ro fty dfl n d mi F pc lv st = some z → F.length ≤ z.2.length ∧ mz F ≤ mz z.2 ∧ (rowsOK F → rowsOK z.2) := by
  intro n
  induction n with
  | zero => intro d mi F pc lv st z h; cases h
  | succ n ih =>
    intro d mi F pc lv st z h
    rw [ex] at h
    split at h
    · cases h
    · split at h
      · rename_i q hq
        have h1 := one_grow hq
        have h2 := ih _ _ _ _ _ _ _ h
        exact ⟨Nat.le_trans h1.1 h2.1, Nat.le_trans h1.2.1 h2.2.1, fun hR => h2.2.2 (h1.2.2 hR)⟩
      · split at h
        · cases h; exact ⟨Nat.le_refl _, Nat.le_refl _, id⟩
        · split at h
          · cases h
          · split at h
            · split at h
              · split at h
                · exact ih _ _ _ _ _ _ _ h
                · cases h
              · cases h
            · split at h
              · split at h
                · exact ih _ _ _ _ _ _ _ h
                · cases h
              · split at h
                rotate_left
                · cases h
                split at h
                · cases h
                · split at h
                  · cases h
                  · rename_i z1 hz
                    have h1 := ih _ _ _ _ _ _ _ hz
                    have h2 := ih _ _ _ _ _ _ _ h
                    exact ⟨Nat.le_trans h1.1 h2.1, Nat.le_trans h1.2.1 h2.2.1, fun hR => h2.2.2 (h1.2.2 hR)⟩
end SimH
end
section
/-! THE SMALL MACHINE IS THE MACHINE, IX: one step -/
/-- what is checked of an instruction: it stands there; its length; its local; its links -/
def lnkOK (cls : List vw_C) (fty : Nat → Nat → FieldType) (y : MethodName) (ws : List Cond) (strT : StrT) (E : MI) : Prop :=
  (∀ idx, E.2.1 = .getfield idx → fldOK cls y.cls E ws idx) ∧ (∀ idx, E.2.1 = .putfield idx → fldOK cls y.cls E ws idx ∧ finOK cls y E) ∧ newOK cls y.cls E ws ∧ cstOK y.cls E ws strT
def insOK (cls : List vw_C) (fty : Nat → Nat → FieldType) (y : MethodName) (cc : ByteArray) (nL : Nat) (ws : List Cond) (strT : StrT) (E : MI) : Prop :=
  decode cc E.1 = .ok (E.2.1, E.2.2.1) ∧ (m_len E.2.1 = 0 ∨ m_len E.2.1 = E.2.2.1) ∧ m_sl E.2.1 nL = true ∧ lnkOK cls fty y ws strT E
section SimI
variable {p : Program} {l : Launch} {e : Env} {R : Room} {s : State} {m : MethodId} {args : Array Value} {below : List Frame} {meth : Method} {c : Code} {H : Heap} {locs : List Loc} {cells slots : Nat} {Q : State → Prop}
variable {cc : ByteArray} {ls : Array Slot} {nL : Nat} {rA : Nat → Nat} {sio : Value} {cA : Nat → ClassId} {dC : Nat → ClassId} {dI : Nat → Nat → Nat} {cls : List vw_C} {b0 : Nat} {strT : StrT} {nestT : NestT} {ro : Nat → Option MC}
theorem s_wr (hx : p.tables.exec = Jvm.exec) (hb : c.code = cc) {ws : List Cond} {y : MethodName} (hts : ∀ w ∈ ws, w.before args s = true) (hown : s.vm.findClass y.cls = some m.cls) (hmn : meth.name = y.name) {E : MI} {F : MH} {st : List Value} {q : MH × List Value} {fty : Nat → Nat → FieldType} {dfl : Nat → List Value} (hs : sioOK sio)
    (hok : insOK cls fty y cc nL ws strT E) (hcl : clsOK cls fty dfl ws) (h99 : cls.length ≤ 99) (hX : CTX cls strT nestT ro rA sio b0 dC dI cA s) (hrA : ∀ a, a < KB → rA a = b0 + a) (hP : va_P (dC, dI) cls (wsF (trE rA sio cA) b0 F) H) (hS : va_S (fun q => b0 ≤ q) s.heap H locs) (hI : s.heap.size + cells = b0 + F.length) (hsz : b0 + F.length ≤ H.size) (h : m_wr fty dfl F E st = some q) (hc1 : cells + q.1.length ≤ R.cells + F.length) (hs1 : slots + mz q.1 ≤ R.slots + mz F)
    (k : ∀ (H1 : Heap) (l1 : List Loc) (c1 s1 : Nat), va_P (dC, dI) cls (wsF (trE rA sio cA) b0 q.1) H1 → b0 + q.1.length ≤ H1.size → va_S (fun q => b0 ≤ q) s.heap H1 l1 → c1 + F.length = cells + q.1.length → s1 + mz F = slots + mz q.1 → W p l e R s m args below meth c H1 l1 c1 s1 Q (F0 m (E.1 + E.2.2.1) ls (trs rA sio q.2))) :
    W p l e R s m args below meth c H locs cells slots Q (F0 m E.1 ls (trs rA sio st)) := by
  obtain ⟨pc, i, len, a0, b1, z⟩ := E
  obtain ⟨hdg, hlen, -, -, hpf, hnw, -⟩ := hok
  obtain ⟨hK, -, -, -, -, -, hAO⟩ := hX
  simp only at hdg hlen hpf k h ⊢
  cases i
  case putfield idx =>
    simp only [m_len] at hlen
    obtain rfl : len = 3 := by omega
    obtain ⟨hfl, hfin⟩ := hpf idx rfl
    simp only [m_wr] at h
    split at h
    · rename_i v a r
      split at h
      · rename_i ci fs hc
        split at h
        · rename_i hq
          obtain ⟨ha, hci, hkf, hn, hf⟩ := hq
          subst hci
          cases h
          rcases hfl with ⟨C, T, N, q1, q2, q3⟩ | ⟨q1, -⟩
          · simp only at q1 q2 q3
            exact s_putf hx hb hts hown hmn hs hdg hK hcl q1 q2 q3 (hfin C T N q1) hrA hP hS ha hc hkf hn hf hsz (fun H1 l1 h1 h2 h3 => k H1 l1 _ _ h1 h2 h3 (by rw [List.length_set]) (by rw [mz_set F a _ _ hc (by simp only [mzC, List.length_set])]))
          · simp only at q1
            obtain ⟨rr, g1, -⟩ := (hP a _ (s_cell hc))
            have := (List.getElem?_eq_some_iff.mp g1).1
            simp only at this
            omega
        · cases h
      · cases h
    · cases h
  case iastore =>
    simp only [m_len] at hlen
    obtain rfl : len = 1 := by omega
    simp only [m_wr] at h
    split at h
    · rename_i x i a r
      split at h
      · rename_i kk xs hc
        split at h
        · rename_i hq
          obtain ⟨ha, rfl, hin⟩ := hq
          cases h
          exact s_iast hx hb hdg hK hrA hP hS ha hc hin hsz (fun H1 l1 h1 h2 h3 => k H1 l1 _ _ h1 h2 h3 (by rw [List.length_set]) (by rw [mz_set F a _ _ hc (by simp only [mzC, List.length_set])]))
        · cases h
      · cases h
    · cases h
  case bastore =>
    simp only [m_len] at hlen
    obtain rfl : len = 1 := by omega
    simp only [m_wr] at h
    split at h
    · rename_i x i a r
      split at h
      · rename_i kk xs hc
        split at h
        · rename_i hq
          obtain ⟨ha, rfl, hin⟩ := hq
          cases h
          exact s_zast hx hb hdg hK hrA hP hS ha hc hin hsz (fun H1 l1 h1 h2 h3 => k H1 l1 _ _ h1 h2 h3 (by rw [List.length_set]) (by rw [mz_set F a _ _ hc (by simp only [mzC, List.length_set])]))
        · cases h
      · cases h
    · cases h
  case aastore =>
    simp only [m_len] at hlen
    obtain rfl : len = 1 := by omega
    simp only [m_wr] at h
    simp only [newOK] at hnw
    split at h
    · rename_i o i a r
      split at h
      · rename_i kk os ci vs hc hco
        split at h
        · rename_i hq
          obtain ⟨ha, ho, e1, e2, hin⟩ := hq
          cases h
          subst e1
          subst e2
          obtain ⟨qq, g1, g2⟩ := hnw
          have ht : (tysL cA)[b1]? = some (cA b1, .object qq.1) := by
            rcases g2 with ⟨u, w⟩ | ⟨u, w⟩ | ⟨u, w⟩ | ⟨u, w⟩ <;> (subst u; rw [w]; rfl)
          exact s_aast hx hb hdg hK hrA hP hS ha ho hc hco g1 ht hin hsz (fun H1 l1 h1 h2 h3 => k H1 l1 _ _ h1 h2 h3 (by rw [List.length_set]) (by rw [mz_set F a _ _ hc (by simp only [mzC, List.length_set])]))
        · cases h
      · cases h
    · cases h
  case new idx =>
    simp only [m_len] at hlen
    obtain rfl : len = 3 := by omega
    simp only [m_wr] at h
    simp only [newOK] at hnw
    obtain ⟨qq, g1, g2⟩ := hnw
    split at h
    · rename_i hF
      cases h
      simp only [List.length_append, List.length_cons, List.length_nil, mz_app, mzC] at hc1 hs1 k
      exact s_new hx hb hts hown hdg hK hcl g1 g2 hrA hP hS hF hI hsz (by omega) (by omega) (fun H1 h1 h2 h3 => k H1 locs _ _ h1 (by rw [List.length_append] at h2; exact h2) h3 (by omega) (by omega))
    · cases h
  case newarray t =>
    simp only [m_len] at hlen
    obtain rfl : len = 2 := by omega
    simp only [m_wr] at h
    simp only [newOK] at hnw
    split at h
    · rename_i n r
      split at h
      · rename_i hq
        obtain ⟨hF, hn0, hn1, hk⟩ := hq
        cases h
        simp only [List.length_append, List.length_cons, List.length_nil, mz_app, mzC, List.length_replicate] at hc1 hs1 k
        exact s_newa hx hb hts hdg hK hnw hk hn0 hn1 hrA hP hS hF hI hsz (by omega) (by omega) (fun H1 h1 h2 h3 => k H1 locs _ _ h1 (by rw [List.length_append] at h2; exact h2) h3 (by omega) (by omega))
      · cases h
    · cases h
  case anewarray idx =>
    simp only [m_len] at hlen
    obtain rfl : len = 3 := by omega
    simp only [m_wr] at h
    simp only [newOK] at hnw
    split at h
    · rename_i n r
      split at h
      · rename_i hq
        obtain ⟨hF, hn0, hn1⟩ := hq
        cases h
        simp only [List.length_append, List.length_cons, List.length_nil, mz_app, mzC, List.length_replicate] at hc1 hs1 k
        have key : ∀ C, C ∈ aoC → Cond.classLink y.cls idx C ∈ ws → (tysL cA)[a0]? = some (cA a0, .object C) → W p l e R s m args below meth c H locs cells slots Q (F0 m pc ls (trs rA sio (.int n :: r))) := fun C g1 g2 g3 =>
          s_anew hx hb hts hown hdg hK g2 (hAO C g1) g3 hn0 hn1 hrA hP hS hF hI hsz (by omega) (by omega) (fun H1 h1 h2 h3 => k H1 locs _ _ h1 (by rw [List.length_append] at h2; exact h2) h3 (by omega) (by omega))
        rcases hnw with ⟨u, w⟩ | ⟨u, w⟩ | ⟨u, w⟩ | ⟨u, w⟩
        · subst u; exact key _ (by decide) w rfl
        · subst u; exact key _ (by decide) w rfl
        · subst u; exact key _ (by decide) w rfl
        · subst u; exact key _ (by decide) w rfl
      · cases h
    · cases h
  all_goals (simp only [m_wr, reduceCtorEq] at h)
theorem s_one (hx : p.tables.exec = Jvm.exec) (hb : c.code = cc) {ws : List Cond} {y : MethodName} (hts : ∀ w ∈ ws, w.before args s = true) (hown : s.vm.findClass y.cls = some m.cls) (hmn : meth.name = y.name) {E : MI} {F : MH} {lv : LVs} {st : List Value} {q : MS} {fty : Nat → Nat → FieldType} {dfl : Nat → List Value} (hs : sioOK sio)
    (hok : insOK cls fty y cc nL ws strT E) (hcl : clsOK cls fty dfl ws) (h99 : cls.length ≤ 99) (hX : CTX cls strT nestT ro rA sio b0 dC dI cA s) (hrA : ∀ a, a < KB → rA a = b0 + a) (hr1 : ∀ j y, ro j = some y → j ≠ 100) (hR : rowsOK F) (hl : lv_has ls nL (trl rA sio lv)) (hP : va_P (dC, dI) cls (wsF (trE rA sio cA) b0 F) H) (hS : va_S (fun q => b0 ≤ q) s.heap H locs) (hI : s.heap.size + cells = b0 + F.length) (hsz : b0 + F.length ≤ H.size) (h : m_one ro fty dfl E F lv st = some q) (hc1 : cells + q.1.length ≤ R.cells + F.length) (hs1 : slots + mz q.1 ≤ R.slots + mz F)
    (k : ∀ (H1 : Heap) (l1 : List Loc) (ls1 : Array Slot) (c1 s1 : Nat), va_P (dC, dI) cls (wsF (trE rA sio cA) b0 q.1) H1 → b0 + q.1.length ≤ H1.size → va_S (fun q => b0 ≤ q) s.heap H1 l1 → lv_has ls1 nL (trl rA sio q.2.2.1) → c1 + F.length = cells + q.1.length → s1 + mz F = slots + mz q.1 → W p l e R s m args below meth c H1 l1 c1 s1 Q (F0 m q.2.1 ls1 (trs rA sio q.2.2.2))) :
    W p l e R s m args below meth c H locs cells slots Q (F0 m E.1 ls (trs rA sio st)) := by
  have hok0 := hok
  obtain ⟨hdg, hlen, hsl, hgf, hpf, hnw, hcs⟩ := hok
  unfold m_one at h
  split at h
  · rename_i v hv
    cases h
    exact s_push hx hb hs hdg hlen hl hv (k H locs ls cells slots hP hsz hS hl rfl rfl)
  · split at h
    · rename_i v hv
      cases h
      exact s_cst hx hb hts hown hdg hlen hX hcs hS hv (k H locs ls cells slots hP hsz hS hl rfl rfl)
    · split at h
      · rename_i v hv
        cases h
        exact s_store hx hb hs hdg hlen hsl hl hv (fun ls1 hl1 => k H locs ls1 cells slots hP hsz hS hl1 rfl rfl)
      · split at h
        · rename_i v hv
          cases h
          exact s_alu hx hb hs hdg hlen hv (k H locs ls cells slots hP hsz hS hl rfl rfl)
        · split at h
          · rename_i v hv
            cases h
            exact s_br hx hb hs hdg hlen hv (k H locs ls cells slots hP hsz hS hl rfl rfl)
          · split at h
            · rename_i v hv
              cases h
              exact s_rd hx hb hts hown hs hdg hlen hX.1 (fun ci q hq => (hcl ci q hq).1) h99 hrA hR hX.2.1 hr1 hP hS hgf hv (k H locs ls cells slots hP hsz hS hl rfl rfl)
            · split at h
              · rename_i v hv
                cases h
                exact s_wr hx hb hts hown hmn hs hok0 hcl h99 hX hrA hP hS hI hsz hv hc1 hs1 (fun H1 l1 c1 s1 g1 g2 g3 g4 g5 => k H1 l1 ls c1 s1 g1 g2 g3 hl g4 g5)
              · cases h
end SimI
end
section
/-! THE SMALL MACHINE IS THE MACHINE, X: calls, returns, runs -/
/-- what is checked of a call -/
def invOK (cls : List vw_C) (MT : List MM) (ws : List Cond) (nestT : NestT) (own : String) (E : MI) : Prop := match E.2.1 with
  | .invokestatic idx => ¬ E.2.2.2.1 = 9999 ∧ ((E.2.2.2.1 = 9998 ∧ E.2.2.2.2.1 = 2 ∧ Cond.methodLink own idx Lib.Math.max.name ∈ ws ∧ Cond.static Lib.Math.max.name ∈ ws ∧ Cond.initialized "java/lang/Math" ∈ ws ∧ Cond.code Lib.Math.max.name Lib.Math.max.code 2 (some .int) ∈ ws) ∨ ∃ M, MT[E.2.2.2.1]? = some M ∧ (Cond.methodLink own idx M.1 ∈ ws ∨ ∃ host, (own, idx, M.1, host) ∈ nestT) ∧ Cond.static M.1 ∈ ws ∧ Cond.initialized M.1.cls ∈ ws ∧ M.1.cls ≠ "java/lang/invoke/MethodHandle" ∧ M.1.cls ≠ "java/lang/invoke/VarHandle" ∧ (parseMethodDescriptor M.1.desc).map (fun d => d.parameters.length) = some E.2.2.2.2.1)
  | .invokespecial idx => (E.2.2.2.1 = 9999 ∧ E.2.2.2.2.1 = 1 ∧ Cond.methodLink own idx Lib.objectInit ∈ ws ∧ Cond.instanceMethod Lib.objectInit ∈ ws ∧ Cond.code Lib.objectInit ⟨#[0xb1]⟩ 1 none ∈ ws) ∨
    (¬ E.2.2.2.1 = 9999 ∧ ∃ M, MT[E.2.2.2.1]? = some M ∧ M.2.2.2.1 = none ∧ M.1.name = "<init>" ∧ (Cond.methodLink own idx M.1 ∈ ws ∨ ∃ host, (own, idx, M.1, host) ∈ nestT) ∧ Cond.instanceMethod M.1 ∈ ws ∧ Cond.initialized M.1.cls ∈ ws ∧ M.1.cls ≠ "java/lang/invoke/MethodHandle" ∧ M.1.cls ≠ "java/lang/invoke/VarHandle" ∧ (parseMethodDescriptor M.1.desc).map (fun d => d.parameters.length) = some (E.2.2.2.2.1 - 1))
  | .invokevirtual idx => ¬ E.2.2.2.1 = 9999 ∧ ∃ M, MT[E.2.2.2.1]? = some M ∧ Cond.methodLink own idx M.1 ∈ ws ∧ Cond.instanceMethod M.1 ∈ ws ∧ Cond.selects M.1.cls M.1 M.1 ∈ ws ∧ Cond.initialized M.1.cls ∈ ws ∧ M.1.cls ≠ "java/lang/invoke/MethodHandle" ∧ M.1.cls ≠ "java/lang/invoke/VarHandle" ∧ (parseMethodDescriptor M.1.desc).map (fun d => d.parameters.length) = some (E.2.2.2.2.1 - 1) ∧
    ((∃ (ci : Nat) (q : vw_C), (ci : Int) = E.2.2.2.2.2 ∧ cls[ci]? = some q ∧ q.1 = M.1.cls) ∨ (E.2.2.2.2.2 = 99 ∧ M.1.cls = "java/lang/String"))
  | _ => True
def bodyOK (cls : List vw_C) (fty : Nat → Nat → FieldType) (MT : List MM) (ws : List Cond) (strT : StrT) (nestT : NestT) (M : MM) : Prop := ∀ E ∈ M.2.2.2.2, insOK cls fty M.1 M.2.1 M.2.2.1 ws strT E ∧ invOK cls MT ws nestT M.1.cls E
def callOK (ws : List Cond) (M : MM) : Prop := Cond.code M.1 M.2.1 M.2.2.1 M.2.2.2.1 ∈ ws ∧ M.2.2.1 ≤ 45 ∧ plainName M.1.cls = true
section SimJ
variable {p : Program} {l : Launch} {e : Env} {R : Room} {s : State} {m : MethodId} {args : Array Value} {below : List Frame} {meth : Method} {c : Code} {H : Heap} {locs : List Loc} {cells slots : Nat} {Q : State → Prop}
variable {cc : ByteArray} {ls : Array Slot} {nL : Nat} {rA : Nat → Nat} {sio : Value} {cA : Nat → ClassId} {dC : Nat → ClassId} {dI : Nat → Nat → Nat} {cls : List vw_C} {b0 : Nat} {strT : StrT} {nestT : NestT} {ro : Nat → Option MC}
def Pm (cls : List vw_C) (strT : StrT) (nestT : NestT) (ro : Nat → Option MC) (rA : Nat → Nat) (sio : Value) (b0 : Nat) (dC : Nat → ClassId) (dI : Nat → Nat → Nat) (cA : Nat → ClassId) (as : List Value) (F : MH) : Array Value → State → Prop :=
  va_Pc (trs rA sio as) (fun U => U.heap.size = b0 + F.length ∧ va_P (dC, dI) cls (wsF (trE rA sio cA) b0 F) U.heap ∧ CTX cls strT nestT ro rA sio b0 dC dI cA U)
def Qm (cls : List vw_C) (rA : Nat → Nat) (sio : Value) (b0 : Nat) (dC : Nat → ClassId) (dI : Nat → Nat → Nat) (cA : Nat → ClassId) (v : Option Value) (F1 : MH) : Array Value → State → Outcome → State → Prop := fun _ st o t =>
  o = .returned (v.map (trv rA sio)) ∧ va_P (dC, dI) cls (wsF (trE rA sio cA) b0 F1) t.heap ∧ b0 + F1.length ≤ t.heap.size ∧ va_F (fun q => b0 ≤ q) st t
theorem Pm_blind (as : List Value) (F : MH) : FrameBlind (Pm cls strT nestT ro rA sio b0 dC dI cA as F) := by
  intro a U g mk h
  obtain ⟨h0, h1, h2, h3⟩ := h
  exact ⟨h0, h1, h2, h3.go (U := U.calling g mk a) (State.WarmedH.refl U) (fun _ _ _ => rfl)⟩
theorem s_callgo {pc mc ms : Nat} {st0 rest : List Value} {v : Option Value} {F1 : MH} {a : Array Value} (hr : va_Run p l e R s m args below meth c H locs cells slots mc ms (F0 m pc ls st0) rest (Qm cls rA sio b0 dC dI cA v F1 a) (fun q => b0 ≤ q)) (hS : va_S (fun q => b0 ≤ q) s.heap H locs)
    (k : ∀ (H1 : Heap) (l1 : List Loc), va_P (dC, dI) cls (wsF (trE rA sio cA) b0 F1) H1 → b0 + F1.length ≤ H1.size → va_S (fun q => b0 ≤ q) s.heap H1 l1 → W p l e R s m args below meth c H1 l1 (cells + mc) (slots + ms) Q (F0 m (pc + 3) ls ((v.map (trv rA sio)).toList ++ rest))) :
    W p l e R s m args below meth c H locs cells slots Q (F0 m pc ls st0) := by
  intro T hT X
  obtain ⟨v', st₀, t, T', L, h0, X', hL, e1, e2, ⟨hv, hq1, hq2, hz, hk⟩, st⟩ := hr T hT X
  cases hv
  rw [h0] at hz hk
  obtain ⟨t2, a1, b1⟩ := k T'.heap (locs ++ L) (by rw [e1]; exact hq1) (by rw [e1]; exact hq2)
    ⟨Nat.le_trans hS.1 (by rw [e1]; exact hz), fun q h1 h2 => by rw [e1, hk q (Nat.lt_of_lt_of_le h1 hS.1) h2]; exact hS.2.1 q h1 h2, fun q hq => by
      rcases List.mem_append.mp hq with h | h
      · exact hS.2.2 q h
      · exact hL q h⟩ T' rfl X'
  exact ⟨t2, st t2 a1, b1⟩
theorem sl_len (hs : sioOK sio) : ∀ as : List Value, (lg_sl (trs rA sio as)).length = (as.map fun v => v.category).sum
  | [] => rfl
  | v :: t => by
    have ih := sl_len hs t
    simp only [trs, lg_sl, List.map_cons, List.flatMap_cons, List.length_append, List.sum_cons] at ih ⊢
    rw [ih, trv_cat hs]
    rcases lv_cat v with h | h <;> rw [h] <;> simp
theorem args_tr (hs : sioOK sio) : ∀ (as : List Value) (i : Nat), lv_args i (trs rA sio as) = trl rA sio (lv_args i as)
  | [], i => rfl
  | v :: t, i => by
    have ih := args_tr hs t
    simp only [trs, trl, List.map_cons, lv_args] at ih ⊢
    rw [trv_cat hs, ih]
theorem m_at_spec {MT : List MM} {mi pc : Nat} {z : MI × Option FieldType} (h : m_at MT mi pc = some z) : ∃ M, MT[mi]? = some M ∧ z.1 ∈ M.2.2.2.2 ∧ z.1.1 = pc ∧ z.2 = M.2.2.2.1 := by
  unfold m_at at h
  split at h
  · rename_i M hM
    cases hf : M.2.2.2.2.find? (fun E => E.1 == pc) with
    | none => rw [hf] at h; cases h
    | some E =>
      rw [hf] at h
      cases h
      have h2 : (E.1 == pc) = true := by have := List.find?_some hf; exact this
      exact ⟨M, hM, List.mem_of_find?_eq_some hf, by simpa using h2, rfl⟩
  · cases h
/-- a contract out of runs of its body -/
theorem met_of {M : MM} {ws : List Cond} {d mc ms : Nat} {as : List Value} {F F1 : MH} {v : Option Value} (hs : sioOK sio) (hpl : plainName M.1.cls = true) (hw : (as.map fun v => v.category).sum ≤ M.2.2.1)
    (body : ∀ {p : Program} {e : Env} {s : State} {m : MethodId} {args : Array Value} {below : List Frame} {meth : Method} {c : Code} {ls : Array Slot}, p.tables.exec = Jvm.exec → c.code = M.2.1 → c.maxLocals = M.2.2.1 → s.vm.findClass M.1.cls = some m.cls → meth.name = M.1.name → meth.sig.returnType = M.2.2.2.1 → meth.locks = false → (∀ w ∈ ws, w.before args s = true) → CTX cls strT nestT ro rA sio b0 dC dI cA s → s.heap.size = b0 + F.length → va_P (dC, dI) cls (wsF (trE rA sio cA) b0 F) s.heap → lv_has ls M.2.2.1 (trl rA sio (lv_args 0 as)) →
      W p l e ({ frames := d + 1, cells := mc, slots := ms, locals := 64 * (d + 1) } : Room) s m args below meth c s.heap [] 0 0 (MQ below (Qm cls rA sio b0 dC dI cA v F1) args s mc ms (fun q => b0 ≤ q)) (F0 m 0 ls [])) :
    Met l M.1 (Cond.code M.1 M.2.1 M.2.2.1 M.2.2.2.1 :: ws) ({ frames := d + 1, cells := mc, slots := ms, locals := 64 * (d + 1) } : Room) (Pm cls strT nestT ro rA sio b0 dC dI cA as F) (Qm cls rA sio b0 dC dI cA v F1) mc ms (fun q => b0 ≤ q) := by
  refine Met.ofW (cc := M.2.1) (maxL := M.2.2.1) (ret := M.2.2.2.1) hpl rfl ?_
  intro p e s m args below meth c s₁ B hml hv
  obtain ⟨rfl, hsz, hP, hX⟩ := hv
  have hts := atoms_spec (ws := Cond.code M.1 M.2.1 M.2.2.1 M.2.2.2.1 :: ws) B.pre
  have hown : s.vm.findClass M.1.cls = some m.cls := findClass_of_methodNamed B.named
  have hin : meth.name = M.1.name := (name_of_methodNamed B.named B.method).1
  have hl := lv_entry (trs rA sio as) (n := M.2.2.1) (by rw [sl_len hs]; exact hw)
  rw [args_tr hs] at hl
  rw [lg_entry_eq]
  exact body B.exec B.bytes hml hown hin B.returns B.notSynchronized (fun w h => hts w (List.mem_cons_of_mem _ h)) hX hsz hP hl
/-- a return -/
theorem s_ret (hx : p.tables.exec = Jvm.exec) (hb : c.code = cc) {rt : Option FieldType} (hr : meth.sig.returnType = rt) (hlk : meth.locks = false) {E : MI} {st : List Value} {v : Option Value} {F1 : MH} (hdg : decode cc E.1 = .ok (E.2.1, E.2.2.1)) (hlen : m_len E.2.1 = 0 ∨ m_len E.2.1 = E.2.2.1) (h : m_ret rt E st = some v) (hP : va_P (dC, dI) cls (wsF (trE rA sio cA) b0 F1) H) (hsz : b0 + F1.length ≤ H.size) (hS : va_S (fun q => b0 ≤ q) s.heap H locs) :
    W p l e R s m args below meth c H locs cells slots (MQ below (Qm cls rA sio b0 dC dI cA v F1) args s cells slots (fun q => b0 ≤ q)) (F0 m E.1 ls (trs rA sio st)) := by
  have hq : ∀ t : State, t.heap = H → s.WarmedH t.vm → Qm cls rA sio b0 dC dI cA v F1 args s (.returned (v.map (trv rA sio))) t := fun t ht _ => ⟨rfl, by rw [ht]; exact hP, by rw [ht]; exact hsz, hS.F ht⟩
  obtain ⟨pc, i, len, a0, b1, z⟩ := E
  simp only at hdg hlen h ⊢
  cases i
  case ireturn =>
    simp only [m_len] at hlen
    obtain rfl : len = 1 := by omega
    simp only [m_ret] at h
    split at h
    · split at h
      · split at h
        · rename_i hn
          cases h
          exact W.zret hx hb hr hn hq hS.2.2 hdg hlk
        · cases h
      · cases h
    · cases h
  case lreturn =>
    simp only [m_len] at hlen
    obtain rfl : len = 1 := by omega
    simp only [m_ret] at h
    split at h
    · split at h
      · rename_i hn
        cases h
        exact W.lret hx hb (hr.trans hn) hq hS.2.2 hdg hlk
      · cases h
    · cases h
  case return_ =>
    simp only [m_len] at hlen
    obtain rfl : len = 1 := by omega
    simp only [m_ret] at h
    split at h
    · split at h
      · rename_i hn
        cases h
        exact W.vret hx hb (hr.trans hn) hq hS.2.2 hdg hlk
      · cases h
    · cases h
  all_goals (simp only [m_ret, reduceCtorEq] at h)
end SimJ
end
section
/-! THE SMALL MACHINE IS THE MACHINE, XI: the theorem -/
section SimK
variable {p : Program} {l : Launch} {e : Env} {R : Room} {s : State} {m : MethodId} {args : Array Value} {below : List Frame} {meth : Method} {c : Code} {H : Heap} {locs : List Loc} {cells slots : Nat} {Q : State → Prop}
variable {cc : ByteArray} {ls : Array Slot} {nL : Nat} {rA : Nat → Nat} {sio : Value} {cA : Nat → ClassId} {dC : Nat → ClassId} {dI : Nat → Nat → Nat} {cls : List vw_C} {b0 : Nat} {strT : StrT} {nestT : NestT} {ro : Nat → Option MC}
theorem cat_tr (hs : sioOK sio) (st : List Value) : ((trs rA sio st).map fun v => v.category) = st.map fun v => v.category := by
  simp only [trs, List.map_map]
  apply List.map_congr_left
  intro v _
  exact trv_cat hs v
theorem m_iv_spec {E : MI} {st : List Value} {ok : Nat → Bool} {q : Nat × List Value × List Value} (h : m_iv E st ok = some q) : ∃ (a : Nat) (As : List Value), q = (E.2.2.2.1, .ref a :: As, st.drop E.2.2.2.2.1) ∧ ok a = true ∧ As.length = E.2.2.2.2.1 - 1 ∧ st = As.reverse ++ .ref a :: st.drop E.2.2.2.2.1 ∧ ((st.drop E.2.2.2.2.1).map fun v => v.category).sum ≤ 8 := by
  unfold m_iv at h
  split at h
  · rename_i hq
    obtain ⟨h1, h2, h3⟩ := hq
    split at h
    · rename_i a As hr
      split at h
      · rename_i ho
        cases h
        have e1 : st.take E.2.2.2.2.1 = As.reverse ++ [.ref a] := by
          have := congrArg List.reverse hr
          simpa using this
        refine ⟨a, As, rfl, ho, ?_, ?_, h3⟩
        · have := congrArg List.length hr
          simp only [List.length_reverse, List.length_take, List.length_cons] at this
          omega
        · have e2 := List.take_append_drop E.2.2.2.2.1 st
          rw [e1] at e2
          simpa using e2.symm
      · cases h
    · cases h
  · cases h
/-- one call, out of the callee's contract -/
theorem s_inv (hx : p.tables.exec = Jvm.exec) (hb : c.code = cc) (hml : c.maxLocals = nL) {ws : List Cond} {own : String} (hts : ∀ w ∈ ws, w.before args s = true) (hgw : ∀ w ∈ ws, goodWord w = true) (hown : s.vm.findClass own = some m.cls) {MT : List MM} {E : MI} {F F1 : MH} {st : List Value} {q : Nat × List Value × List Value} {v : Option Value} {d mc ms : Nat} (hs : sioOK sio) (hdg : decode cc E.1 = .ok (E.2.1, E.2.2.1)) (hlen : m_len E.2.1 = 0 ∨ m_len E.2.1 = E.2.2.1) (hsl : ls.size = nL)
    (hok : invOK cls MT ws nestT own E) (h99 : cls.length ≤ 99) (hX : CTX cls strT nestT ro rA sio b0 dC dI cA s) (hrA : ∀ a, a < KB → rA a = b0 + a) (hr1 : ∀ j y, ro j = some y → j ≠ 100) (hP : va_P (dC, dI) cls (wsF (trE rA sio cA) b0 F) H) (hS : va_S (fun q => b0 ≤ q) s.heap H locs) (hI : s.heap.size + cells = b0 + F.length) (hsz : b0 + F.length ≤ H.size) (h : m_inv ro F E st = some q) (h9 : ¬ q.1 = 9999) (h8 : ¬ q.1 = 9998) {M : MM} (hM0 : MT[q.1]? = some M) (hcw : Cond.code M.1 M.2.1 M.2.2.1 M.2.2.2.1 ∈ ws) (h45 : M.2.2.1 ≤ 45)
    (hM : Met l M.1 (Cond.code M.1 M.2.1 M.2.2.1 M.2.2.2.1 :: ws) ({ frames := d + 1, cells := mc, slots := ms, locals := 64 * (d + 1) } : Room) (Pm cls strT nestT ro rA sio b0 dC dI cA q.2.1 F) (Qm cls rA sio b0 dC dI cA v F1) mc ms (fun q => b0 ≤ q))
    (hRf : d + 2 ≤ R.frames) (hRl : 64 * (d + 2) ≤ R.locals) (hf : cells + mc ≤ R.cells ∧ slots + ms ≤ R.slots)
    (k : ∀ (H1 : Heap) (l1 : List Loc), va_P (dC, dI) cls (wsF (trE rA sio cA) b0 F1) H1 → b0 + F1.length ≤ H1.size → va_S (fun q => b0 ≤ q) s.heap H1 l1 → W p l e R s m args below meth c H1 l1 (cells + mc) (slots + ms) Q (F0 m (E.1 + 3) ls (trs rA sio (v.toList ++ q.2.2)))) :
    W p l e R s m args below meth c H locs cells slots Q (F0 m E.1 ls (trs rA sio st)) := by
  refine W.size fun hz => ?_
  have hHs : H.size = b0 + F.length := by omega
  have hFix : CallFix p m c cc nL s args ws own := ⟨hx, hb, hml, hown, hts⟩
  have hG : GoodIn ws (Cond.code M.1 M.2.1 M.2.2.1 M.2.2.2.1 :: ws) := by
    intro w hw
    rcases List.mem_cons.mp hw with rfl | hw
    · exact ⟨hcw, good_of_word (hgw _ hcw)⟩
    · exact ⟨hw, good_of_word (hgw _ hw)⟩
  have hpc : ∀ U : State, U.heap = H → s.WarmedH U.vm → Pm cls strT nestT ro rA sio b0 dC dI cA q.2.1 F (trs rA sio q.2.1).toArray U := fun U hU hW => ⟨rfl, by rw [hU]; exact hHs, by rw [hU]; exact hP, hX.go hW (fun a ha hn => by rw [hU]; exact hS.2.1 a ha hn)⟩
  have hR : (({ frames := d + 1, cells := mc, slots := ms, locals := 64 * (d + 1) } : Room)).frames + 1 ≤ R.frames ∧ 8 + (M.2.2.1 + 11) + (({ frames := d + 1, cells := mc, slots := ms, locals := 64 * (d + 1) } : Room)).locals ≤ R.locals := ⟨hRf, by show 8 + (M.2.2.1 + 11) + 64 * (d + 1) ≤ R.locals; omega⟩
  have ek : ∀ r : List Value, trs rA sio (v.toList ++ r) = (v.map (trv rA sio)).toList ++ trs rA sio r := by
    intro r
    cases v <;> simp [trs]
  rw [ek] at k
  obtain ⟨pc, i, len, a0, b1, z⟩ := E
  simp only at hdg hlen hok h k ⊢
  cases i
  case invokestatic idx =>
    simp only [m_len] at hlen
    obtain rfl : len = 3 := by omega
    simp only [m_inv] at h
    simp only [invOK] at hok
    split at h
    · rename_i hq
      obtain ⟨hq1, hq2⟩ := hq
      cases h
      simp only at hM hM0 h9 h8 hpc k
      obtain ⟨-, g | ⟨M', g0, g1, g2, g3, g4, g5, g6⟩⟩ := hok
      · exact absurd g.1 h8
      cases hM0.symm.trans g0
      have hn : (trs rA sio (st.take b1).reverse).length = b1 := by simp only [trs, List.length_map, List.length_reverse, List.length_take]; omega
      have hst : trs rA sio st = (trs rA sio (st.take b1).reverse).reverse ++ trs rA sio (st.drop b1) := by
        simp only [trs, ← List.map_reverse, List.reverse_reverse, ← List.map_append, List.take_append_drop]
      have hW8 : 2 * (F0 m pc ls (trs rA sio st)).monitorRoom + ((trs rA sio (st.drop b1)).map fun v => v.category).sum ≤ 8 := by
        rw [cat_tr hs]; show 2 * 0 + _ ≤ 8; omega
      rcases g1 with g1 | ⟨host, g1⟩
      · refine s_callgo (va_runS (As := trs rA sio (st.take b1).reverse) (rest := trs rA sio (st.drop b1)) (n := b1) hFix hM ⟨callB_of b1 hts hG rfl rfl rfl (hts _ g3) (hts _ g1) ⟨g4, g5, g6⟩ hR, hts _ g2⟩ ⟨Pm_blind _ _, hpc⟩ rfl hn hsl hst hW8 hdg hf) hS k
      · refine s_callgo (va_runSN (As := trs rA sio (st.take b1).reverse) (rest := trs rA sio (st.drop b1)) (n := b1) (host := host) hFix hM ⟨va_cnB b1 hts hG rfl rfl rfl (hX.2.2.2.2.2.1 _ g1) (hts _ g3) ⟨g4, g5, g6⟩ hR, hts _ g2, trivial⟩ ⟨Pm_blind _ _, hpc⟩ rfl hn hsl hst hW8 hdg hf) hS k
    · cases h
  case invokespecial idx =>
    simp only [m_len] at hlen
    obtain rfl : len = 3 := by omega
    simp only [m_inv] at h
    simp only [invOK] at hok
    obtain ⟨a, As, rfl, ho, hAl, hst0, hcat⟩ := m_iv_spec h
    simp only at hM hM0 h9 hpc k hAl hst0 hcat
    have ha : a < KB := by simpa using ho
    rcases hok with ⟨g, -⟩ | ⟨-, M', g0, g1, g2, g3, g4, g5, g6, g7, g8⟩
    · exact absurd g h9
    cases hM0.symm.trans g0
    have er : trs rA sio (.ref a :: As) = .ref (rA a) :: trs rA sio As := by
      show trv rA sio (.ref a) :: _ = _
      rw [trv_ref rA sio ha]; rfl
    have hn : (trs rA sio As).length = b1 - 1 := by simp only [trs, List.length_map]; exact hAl
    have hst : trs rA sio st = (trs rA sio As).reverse ++ .ref (rA a) :: trs rA sio (st.drop b1) := by
      conv => lhs; rw [hst0]
      simp only [trs, List.map_append, List.map_reverse, List.map_cons, trv_ref rA sio ha]
    have hW8 : 2 * (F0 m pc ls (trs rA sio st)).monitorRoom + ((trs rA sio (st.drop b1)).map fun v => v.category).sum ≤ 8 := by
      rw [cat_tr hs]; show 2 * 0 + _ ≤ 8; omega
    rw [er] at hpc
    rw [g1] at hM hG
    rcases g3 with g3 | ⟨host, g3⟩
    · refine s_callgo (va_runI (As := trs rA sio As) (b := rA a) (rest := trs rA sio (st.drop b1)) (n := b1 - 1) hFix hM (cwI (b1 - 1) hts hG rfl rfl rfl (hts _ g5) (hts _ g3) (hts _ g4) g2 ⟨g6, g7, g8⟩ hR) ⟨Pm_blind _ _, hpc⟩ rfl hn hsl hst hW8 hdg hf) hS k
    · refine s_callgo (va_runIN (As := trs rA sio As) (b := rA a) (rest := trs rA sio (st.drop b1)) (n := b1 - 1) (host := host) hFix hM ⟨va_cnB (b1 - 1) hts hG rfl rfl rfl (hX.2.2.2.2.2.1 _ g3) (hts _ g5) ⟨g6, g7, g8⟩ hR, g2, hts _ g4⟩ ⟨Pm_blind _ _, hpc⟩ rfl hn hsl hst hW8 hdg hf) hS k
  case invokevirtual idx =>
    simp only [m_len] at hlen
    obtain rfl : len = 3 := by omega
    simp only [m_inv] at h
    simp only [invOK] at hok
    obtain ⟨a, As, rfl, ho, hAl, hst0, hcat⟩ := m_iv_spec h
    simp only at hM hM0 h9 hpc k hAl hst0 hcat
    obtain ⟨-, M', g0, g1, g2, g3, g4, g5, g6, g7, g8⟩ := hok
    cases hM0.symm.trans g0
    have hn : (trs rA sio As).length = b1 - 1 := by simp only [trs, List.length_map]; exact hAl
    have hW8 : 2 * (F0 m pc ls (trs rA sio st)).monitorRoom + ((trs rA sio (st.drop b1)).map fun v => v.category).sum ≤ 8 := by
      rw [cat_tr hs]; show 2 * 0 + _ ≤ 8; omega
    have key : ∀ aR : Nat, trv rA sio (.ref a) = .ref aR → (∃ cellB : Cell, H[aR]? = some cellB ∧ cellB.vm.isStatics = false ∧ s.vm.findClass M.1.cls = some cellB.cls) → W p l e R s m args below meth c H locs cells slots Q (F0 m pc ls (trs rA sio st)) := by
      intro aR eR hcell
      have er : trs rA sio (.ref a :: As) = .ref aR :: trs rA sio As := by
        show trv rA sio (.ref a) :: _ = _
        rw [eR]; rfl
      have hst : trs rA sio st = (trs rA sio As).reverse ++ .ref aR :: trs rA sio (st.drop b1) := by
        conv => lhs; rw [hst0]
        simp only [trs, List.map_append, List.map_reverse, List.map_cons, eR]
      rw [er] at hpc
      have hGV : GoodIn ws (wsV own idx M.1.cls M.1 (Cond.code M.1 M.2.1 M.2.2.1 M.2.2.2.1 :: ws)) := by
        intro w hw
        unfold wsV at hw
        rcases List.mem_append.mp hw with hw | hw
        · have : w ∈ ws := by
            simp only [List.mem_cons, List.not_mem_nil, or_false] at hw
            rcases hw with rfl | rfl | rfl | rfl
            · exact g1
            · exact g2
            · exact g3
            · exact g4
          exact ⟨this, good_of_word (hgw _ this)⟩
        · exact hG w hw
      refine s_callgo (va_runV (C := M.1.cls) (As := trs rA sio As) (b := aR) (rest := trs rA sio (st.drop b1)) (n := b1 - 1) hFix hM (cwV (b1 - 1) hts hGV rfl rfl rfl ⟨rfl, g5, g6, g7⟩ hR) ⟨Pm_blind _ _, hcell, hpc⟩ rfl hn hsl hst hW8 hdg hf) hS k
    unfold m_rc at ho
    split at ho
    · rename_i o hc
      simp only [decide_eq_true_eq] at ho
      unfold m_cell at hc
      split at hc
      · rename_i ha
        obtain ⟨ci, fs⟩ := o
        rcases g8 with ⟨ci', qq, e1, e2, e3⟩ | ⟨e1, e2⟩
        · have : ci' = ci := by simp only at ho; omega
          subst this
          rw [← e3] at key
          exact key (b0 + a) (by rw [trv_ref rA sio ha, hrA a ha]) (va_recv hX.1 hP e2 (s_cell hc))
        · obtain ⟨rr, g9, -⟩ := (hP a _ (s_cell hc))
          have := (List.getElem?_eq_some_iff.mp g9).1
          simp only at this ho
          omega
      · rename_i ha
        obtain ⟨h1, v0, h2, h3, -⟩ := hX.2.1 _ _ hc
        rcases g8 with ⟨ci', qq, e1, e2, e3⟩ | ⟨e1, e2⟩
        · have := (List.getElem?_eq_some_iff.mp e2).1
          omega
        · rw [e2] at key
          obtain ⟨cell, q1, q2, q3, -⟩ := h3.kept hS.2.1
          exact key _ (trv_ro hr1 ha hc) ⟨cell, q1, q2, q3⟩
    · cases ho
  all_goals (simp only [m_inv, reduceCtorEq] at h)
end SimK
end
section
/-! THE SMALL MACHINE IS THE MACHINE, XII: what the small machine answers, the machine answers -/
section SimL
variable {l : Launch} {rA : Nat → Nat} {sio : Value} {cA : Nat → ClassId} {dC : Nat → ClassId} {dI : Nat → Nat → Nat} {cls : List vw_C} {b0 : Nat} {strT : StrT} {nestT : NestT} {ro : Nat → Option MC}
theorem sim {MT : List MM} {ws : List Cond} {fty : Nat → Nat → FieldType} {dfl : Nat → List Value} (hMT : ∀ mi M, MT[mi]? = some M → bodyOK cls fty MT ws strT nestT M ∧ (0 < mi → callOK ws M)) (hgw : ∀ w ∈ ws, goodWord w = true) (hcl : clsOK cls fty dfl ws) (h99 : cls.length ≤ 99) (hmt : MT.length ≤ 9000) (hs : sioOK sio) (hrA : ∀ a, a < KB → rA a = b0 + a) (hr1 : ∀ j y, ro j = some y → j ≠ 100) :
    ∀ (n d mi : Nat) (M : MM) (F : MH) (pc : Nat) (lv : LVs) (st : List Value) (z : Option Value × MH), MT[mi]? = some M → ex MT ro fty dfl n d mi F pc lv st = some z → rowsOK F →
    ∀ {p : Program} {e : Env} {R : Room} {s : State} {m : MethodId} {args : Array Value} {below : List Frame} {meth : Method} {c : Code} {H : Heap} {locs : List Loc} {cells slots : Nat} {ls : Array Slot} {Q : State → Prop},
    p.tables.exec = Jvm.exec → c.code = M.2.1 → c.maxLocals = M.2.2.1 → s.vm.findClass M.1.cls = some m.cls → meth.name = M.1.name → (∀ w ∈ ws, w.before args s = true) → CTX cls strT nestT ro rA sio b0 dC dI cA s → lv_has ls M.2.2.1 (trl rA sio lv) → va_P (dC, dI) cls (wsF (trE rA sio cA) b0 F) H → va_S (fun q => b0 ≤ q) s.heap H locs → s.heap.size + cells = b0 + F.length → b0 + F.length ≤ H.size →
    d + 1 ≤ R.frames → 64 * (d + 1) ≤ R.locals → cells + z.2.length ≤ R.cells + F.length → slots + mz z.2 ≤ R.slots + mz F →
    (∀ (E : MI) (st1 : List Value) (H1 : Heap) (l1 : List Loc) (ls1 : Array Slot) (c1 s1 : Nat), E ∈ M.2.2.2.2 → m_ret M.2.2.2.1 E st1 = some z.1 → va_P (dC, dI) cls (wsF (trE rA sio cA) b0 z.2) H1 → b0 + z.2.length ≤ H1.size → va_S (fun q => b0 ≤ q) s.heap H1 l1 → c1 + F.length = cells + z.2.length → s1 + mz F = slots + mz z.2 → W p l e R s m args below meth c H1 l1 c1 s1 Q (F0 m E.1 ls1 (trs rA sio st1))) →
    W p l e R s m args below meth c H locs cells slots Q (F0 m pc ls (trs rA sio st)) := by
  intro n
  induction n with
  | zero => intro d mi M F pc lv st z _ h; cases h
  | succ n ih =>
    intro d mi M F pc lv st z hM h hR p e R s m args below meth c H locs cells slots ls Q hx hb hml hown hmn hts hX hl hP hS hI hsz hRf hRl hc1 hs1 hret
    obtain ⟨hbody, -⟩ := hMT mi M hM
    rw [ex] at h
    split at h
    · cases h
    · rename_i EE hat
      obtain ⟨E, rt⟩ := EE
      obtain ⟨M', hM', hE, hpc, hrt⟩ := m_at_spec hat
      cases hM.symm.trans hM'
      simp only at hE hpc hrt h
      subst hpc
      subst hrt
      obtain ⟨hok, hiv⟩ := hbody E hE
      split at h
      · rename_i q hq
        have hg1 := one_grow hq
        have hg2 := ex_grow _ _ _ _ _ _ _ _ h
        refine s_one hx hb hts hown hmn hs hok hcl h99 hX hrA hr1 hR hl hP hS hI hsz hq (by omega) (by omega) (fun H1 l1 ls1 c1 s1 g1 g2 g3 g4 g5 g6 => ?_)
        exact ih d mi M q.1 q.2.1 q.2.2.1 q.2.2.2 z hM h (hg1.2.2 hR) hx hb hml hown hmn hts hX g4 g1 g3 (by omega) g2 hRf hRl (by omega) (by omega) (fun E1 st1 H2 l2 ls2 c2 s2 k1 k2 k3 k4 k5 k6 k7 => hret E1 st1 H2 l2 ls2 c2 s2 k1 k2 k3 k4 k5 (by omega) (by omega))
      · split at h
        · rename_i v hv
          cases h
          exact hret E st H locs ls cells slots hE hv hP hsz hS rfl rfl
        · split at h
          · cases h
          · rename_i q hq
            split at h
            · rename_i h9
              split at h
              · rename_i a hq2
                split at h
                · rename_i ha
                  obtain ⟨hdg, hlen, -, -⟩ := hok
                  have hEi : ∃ idx, E.2.1 = .invokespecial idx ∧ E.2.2.2.1 = 9999 ∧ Cond.methodLink M.1.cls idx Lib.objectInit ∈ ws ∧ Cond.instanceMethod Lib.objectInit ∈ ws ∧ Cond.code Lib.objectInit ⟨#[0xb1]⟩ 1 none ∈ ws ∧ ∃ (aa : Nat) (As : List Value), q = (E.2.2.2.1, .ref aa :: As, st.drop E.2.2.2.2.1) ∧ st = As.reverse ++ .ref aa :: st.drop E.2.2.2.2.1 ∧ ((st.drop E.2.2.2.2.1).map fun v => v.category).sum ≤ 8 := by
                    unfold m_inv at hq
                    unfold invOK at hiv
                    split at hq
                    · rename_i idx hEq
                      rw [hEq] at hiv
                      split at hq
                      · cases hq; exact absurd h9 hiv.1
                      · cases hq
                    · rename_i idx hEq
                      rw [hEq] at hiv
                      obtain ⟨aa, As, e1, -, -, e4, e5⟩ := m_iv_spec hq
                      subst e1
                      rcases hiv with ⟨g1, g2, g3, g4, g5⟩ | ⟨g1, -⟩
                      · exact ⟨idx, hEq, g1, g3, g4, g5, aa, As, rfl, e4, e5⟩
                      · exact absurd h9 g1
                    · rename_i idx hEq
                      rw [hEq] at hiv
                      obtain ⟨aa, As, e1, -⟩ := m_iv_spec hq
                      subst e1
                      exact absurd h9 hiv.1
                    · cases hq
                  obtain ⟨idx, hEq, -, g3, g4, g5, aa, As, eq1, eq2, eq3⟩ := hEi
                  subst eq1
                  simp only at hq2 h
                  obtain ⟨rfl, rfl⟩ : aa = a ∧ As = [] := by simpa using hq2
                  rw [hEq] at hdg hlen
                  simp only [m_len] at hlen
                  have hl3 : E.2.2.1 = 3 := by omega
                  rw [hl3] at hdg
                  have hst : trs rA sio st = .ref (rA aa) :: trs rA sio (st.drop E.2.2.2.2.1) := by
                    conv => lhs; rw [eq2]
                    simp only [trs, List.reverse_nil, List.nil_append, List.map_cons, trv_ref rA sio ha]
                  rw [hst]
                  refine W.objInit hx hb hown (hts _ g3) (hts _ g4) (hts _ g5) rfl (by rw [hml]; exact hl.1) rfl hdg (by omega) ?_ ?_
                  · have h8 := cat_tr (rA := rA) hs (st.drop E.2.2.2.2.1)
                    rw [h8]
                    show 2 * 0 + _ + 12 ≤ R.locals
                    omega
                  · exact ih d mi M F (E.1 + 3) lv _ z hM h hR hx hb hml hown hmn hts hX hl hP hS hI hsz hRf hRl hc1 hs1 hret
                · cases h
              · cases h
            · rename_i h9
              split at h
              · rename_i h8
                split at h
                · rename_i x y hq2
                  obtain ⟨hdg, hlen, -, -⟩ := hok
                  have hEi : ∃ idx, E.2.1 = .invokestatic idx ∧ Cond.methodLink M.1.cls idx Lib.Math.max.name ∈ ws ∧ Cond.static Lib.Math.max.name ∈ ws ∧ Cond.initialized "java/lang/Math" ∈ ws ∧ Cond.code Lib.Math.max.name Lib.Math.max.code 2 (some .int) ∈ ws ∧ q.2.1 = (st.take 2).reverse ∧ q.2.2 = st.drop 2 ∧ 2 ≤ st.length ∧ ((st.drop 2).map fun v => v.category).sum ≤ 8 := by
                    unfold m_inv at hq
                    unfold invOK at hiv
                    split at hq
                    · rename_i idx hEq
                      rw [hEq] at hiv
                      split at hq
                      · rename_i hb2
                        cases hq
                        simp only at h8 hiv
                        obtain ⟨-, ⟨-, g2, g3, g4, g5, g6⟩ | ⟨M', g0, -⟩⟩ := hiv
                        · rw [g2] at hb2 ⊢
                          exact ⟨idx, hEq, g3, g4, g5, g6, rfl, rfl, hb2.1, hb2.2⟩
                        · rw [h8] at g0
                          have hlt := (List.getElem?_eq_some_iff.mp g0).1
                          exact absurd hlt (by omega)
                      · cases hq
                    · rename_i idx hEq
                      rw [hEq] at hiv
                      obtain ⟨aa, As, e1, -, -, e4, e5⟩ := m_iv_spec hq
                      subst e1
                      simp only at h8 hiv
                      rcases hiv with ⟨g1, -⟩ | ⟨-, M', g0, -⟩
                      · omega
                      · rw [h8] at g0
                        have hlt := (List.getElem?_eq_some_iff.mp g0).1
                        exact absurd hlt (by omega)
                    · rename_i idx hEq
                      rw [hEq] at hiv
                      obtain ⟨aa, As, e1, -⟩ := m_iv_spec hq
                      subst e1
                      simp only at h8 hiv
                      obtain ⟨-, M', g0, -⟩ := hiv
                      rw [h8] at g0
                      have hlt := (List.getElem?_eq_some_iff.mp g0).1
                      exact absurd hlt (by omega)
                    · cases hq
                  obtain ⟨idx, hEq, g3, g4, g5, g6, eq1, eq2, hlen2, h8c⟩ := hEi
                  rw [hEq] at hdg hlen
                  simp only [m_len] at hlen
                  have hl3 : E.2.2.1 = 3 := by omega
                  rw [hl3] at hdg
                  have hst0 : st = .int y :: .int x :: st.drop 2 := by
                    rw [eq1] at hq2
                    have e1 : st.take 2 = [.int y, .int x] := by
                      have := congrArg List.reverse hq2
                      simpa using this
                    have e2 := List.take_append_drop 2 st
                    rw [e1] at e2
                    exact e2.symm
                  have hst : trs rA sio st = .int y :: .int x :: trs rA sio (st.drop 2) := by
                    conv => lhs; rw [hst0]
                    rfl
                  rw [hst]
                  rw [eq2] at h
                  have hg2 := ex_grow _ _ _ _ _ _ _ _ h
                  refine va_mmax hx hb (hml.trans hl.1.symm) hown (hts _ g3) (hts _ g4) (hts _ g5) (hts _ g6) (by omega) ?_ (by omega) (by omega) hdg ?_
                  · have h8 := cat_tr (rA := rA) hs (st.drop 2)
                    rw [h8]
                    omega
                  · exact ih d mi M F (E.1 + 3) lv _ z hM h hR hx hb hml hown hmn hts hX hl hP hS hI hsz hRf hRl hc1 hs1 hret
                · cases h
              · rename_i h8
                split at h
                rotate_left
                · cases h
                rename_i hroom
                split at h
                · cases h
                · rename_i d'
                  split at h
                  · cases h
                  · rename_i z1 hz1
                    unfold m_room at hroom
                    split at hroom
                    · rename_i Mc hMc
                      simp only [decide_eq_true_eq] at hroom
                      obtain ⟨hbc, hcc⟩ := hMT _ _ hMc
                      obtain ⟨hcw, h45, hpl⟩ := hcc hroom.1
                      have hg1 := ex_grow _ _ _ _ _ _ _ _ hz1
                      have hg2 := ex_grow _ _ _ _ _ _ _ _ h
                      have hMet : Met l Mc.1 (Cond.code Mc.1 Mc.2.1 Mc.2.2.1 Mc.2.2.2.1 :: ws) ({ frames := d' + 1, cells := z1.2.length - F.length, slots := mz z1.2 - mz F, locals := 64 * (d' + 1) } : Room) (Pm cls strT nestT ro rA sio b0 dC dI cA q.2.1 F) (Qm cls rA sio b0 dC dI cA z1.1 z1.2) (z1.2.length - F.length) (mz z1.2 - mz F) (fun q => b0 ≤ q) := by
                        refine met_of hs hpl hroom.2 ?_
                        intro p2 e2 s2 m2 args2 below2 meth2 c2 ls2 hx2 hb2 hml2 hown2 hmn2 hr2 hlk2 hts2 hX2 hsz2 hP2 hl2
                        refine ih d' q.1 Mc F 0 (lv_args 0 q.2.1) [] z1 hMc hz1 hR hx2 hb2 hml2 hown2 hmn2 hts2 hX2 hl2 hP2 va_S.rf (by omega) (by omega) (Nat.le_refl _) (Nat.le_refl _) (by show 0 + z1.2.length ≤ z1.2.length - F.length + F.length; omega) (by show 0 + mz z1.2 ≤ mz z1.2 - mz F + mz F; omega) ?_
                        intro E1 st1 H1 l1 ls1 c1 s1 k1 k2 k3 k4 k5 k6 k7
                        obtain ⟨⟨q1, q2, -, -⟩, -⟩ := hbc E1 k1
                        obtain rfl : c1 = z1.2.length - F.length := by omega
                        obtain rfl : s1 = mz z1.2 - mz F := by omega
                        exact s_ret hx2 hb2 hr2 hlk2 q1 q2 k2 k3 k4 k5
                      refine s_inv hx hb hml hts hgw hown hs hok.1 hok.2.1 hl.1 hiv h99 hX hrA hr1 hP hS hI hsz hq h9 h8 hMc hcw h45 hMet (by omega) (by omega) ⟨by omega, by omega⟩ (fun H1 l1 g1 g2 g3 => ?_)
                      exact ih (d' + 1) mi M z1.2 (E.1 + 3) lv _ z hM h (hg1.2.2 hR) hx hb hml hown hmn hts hX hl g1 g3 (by omega) g2 hRf hRl (by omega) (by omega) (fun E1 st1 H2 l2 ls2 c2 s2 k1 k2 k3 k4 k5 k6 k7 => hret E1 st1 H2 l2 ls2 c2 s2 k1 k2 k3 k4 k5 (by omega) (by omega))
                    · cases hroom
end SimL
end
section
/-! TABLES: the classes, their fields (written by a program) -/
def tF0 : u_T := fun k => ([("DoorPaints", "reader", "LDoorPaints$Reader;", true), ("DoorPaints", "tape", "LDoorPaints$Tape;", true), ("DoorPaints", "told", "LDoorPaints$Told;", true), ("DoorPaints", "images", "[LDoorPaints$Told;", true), ("DoorPaints", "kept", "[Z", true), ("DoorPaints", "trial", "LDoorPaints$Town;", true), ("DoorPaints", "search", "LDoorPaints$Search;", true), ("DoorPaints", "order", "[I", true), ("DoorPaints", "sheets", "[LDoorPaints$Sheet;", true), ("DoorPaints", "latestFault", "I", false), ("DoorPaints", "latestTear", "I", false), ("DoorPaints", "ordersFound", "I", false), ("DoorPaints", "lastsFound", "I", false)] : List (String × String × String × Bool)).getD k ("", "", "", false)
def tF1 : u_T := fun k => ([("DoorPaints$Reader", "draft", "LDoorPaints$Told;", true), ("DoorPaints$Reader", "from", "LDoorPaints$Tape;", true), ("DoorPaints$Reader", "found", "I", false), ("DoorPaints$Reader", "place", "I", false), ("DoorPaints$Reader", "planned", "Z", false)] : List (String × String × String × Bool)).getD k ("", "", "", false)
def tF2 : u_T := fun k => ([("DoorPaints$Told", "town", "LDoorPaints$Town;", true), ("DoorPaints$Told", "acts", "[I", true), ("DoorPaints$Told", "actCount", "I", false), ("DoorPaints$Told", "seenDoors", "[I", true), ("DoorPaints$Told", "seenLayers", "[I", true), ("DoorPaints$Told", "seenColours", "[I", true), ("DoorPaints$Told", "seenCount", "I", false)] : List (String × String × String × Bool)).getD k ("", "", "", false)
def tF3 : u_T := fun k => ([("DoorPaints$Town", "visitors", "[LDoorPaints$Visitor;", true), ("DoorPaints$Town", "doors", "[LDoorPaints$Door;", true), ("DoorPaints$Town", "visitorCount", "I", false), ("DoorPaints$Town", "doorCount", "I", false), ("DoorPaints$Town", "borrower", "I", false), ("DoorPaints$Town", "borrowed", "I", false)] : List (String × String × String × Bool)).getD k ("", "", "", false)
def tF4 : u_T := fun k => ([("DoorPaints$Visitor", "kind", "I", false), ("DoorPaints$Visitor", "colour", "I", false), ("DoorPaints$Visitor", "paint", "I", false), ("DoorPaints$Visitor", "sleeve", "I", false)] : List (String × String × String × Bool)).getD k ("", "", "", false)
def tF5 : u_T := fun k => ([("DoorPaints$Door", "layers", "[I", true), ("DoorPaints$Door", "height", "I", false), ("DoorPaints$Door", "forbidden", "I", false), ("DoorPaints$Door", "wet", "Z", false)] : List (String × String × String × Bool)).getD k ("", "", "", false)
def tF6 : u_T := fun k => ([("DoorPaints$Tape", "bytes", "[I", true), ("DoorPaints$Tape", "length", "I", false), ("DoorPaints$Tape", "kind", "I", false), ("DoorPaints$Tape", "start", "I", false), ("DoorPaints$Tape", "next", "I", false), ("DoorPaints$Tape", "value", "I", false)] : List (String × String × String × Bool)).getD k ("", "", "", false)
def tF7 : u_T := fun k => ([("DoorPaints$Search", "town", "LDoorPaints$Town;", true), ("DoorPaints$Search", "row", "[I", true), ("DoorPaints$Search", "bestRow", "[I", true), ("DoorPaints$Search", "length", "I", false), ("DoorPaints$Search", "fewestWrong", "I", false), ("DoorPaints$Search", "leastPaint", "I", false), ("DoorPaints$Search", "byPaint", "Z", false)] : List (String × String × String × Bool)).getD k ("", "", "", false)
def tF8 : u_T := fun k => ([("DoorPaints$Sheet", "cells", "[I", true), ("DoorPaints$Sheet", "size", "I", false), ("DoorPaints$Sheet", "lane", "I", false)] : List (String × String × String × Bool)).getD k ("", "", "", false)
def tF9 : u_T := fun k => ([("DoorPaintsModel", "st", "[I", true), ("DoorPaintsModel", "at", "[I", true), ("DoorPaintsModel", "isKept", "[Z", true), ("DoorPaintsModel", "visitors", "I", false), ("DoorPaintsModel", "doors", "I", false), ("DoorPaintsModel", "draft", "[I", true), ("DoorPaintsModel", "dVisitors", "I", false), ("DoorPaintsModel", "dDoors", "I", false), ("DoorPaintsModel", "hasPlan", "Z", false), ("DoorPaintsModel", "highestVisitor", "I", false), ("DoorPaintsModel", "highestDoor", "I", false), ("DoorPaintsModel", "oughts", "[I", true), ("DoorPaintsModel", "tape", "[I", true), ("DoorPaintsModel", "taped", "I", false), ("DoorPaintsModel", "pos", "I", false), ("DoorPaintsModel", "from", "I", false), ("DoorPaintsModel", "sort", "I", false), ("DoorPaintsModel", "value", "I", false), ("DoorPaintsModel", "fault", "I", false), ("DoorPaintsModel", "wrongAt", "I", false), ("DoorPaintsModel", "borrower", "I", false), ("DoorPaintsModel", "lender", "I", false), ("DoorPaintsModel", "taken", "I", false), ("DoorPaintsModel", "couldBe", "Z", false), ("DoorPaintsModel", "order", "[I", true), ("DoorPaintsModel", "wrongSum", "J", false), ("DoorPaintsModel", "paintSum", "J", false), ("DoorPaintsModel", "allWays", "J", false), ("DoorPaintsModel", "lanes", "[I", true), ("DoorPaintsModel", "sizes", "[I", true), ("DoorPaintsModel", "cells", "[I", true), ("DoorPaintsModel", "torn", "I", false), ("DoorPaintsModel", "had", "[I", true)] : List (String × String × String × Bool)).getD k ("", "", "", false)
def tCls : List vw_C := [("DoorPaints", tF0, 13), ("DoorPaints$Reader", tF1, 5), ("DoorPaints$Told", tF2, 7), ("DoorPaints$Town", tF3, 6), ("DoorPaints$Visitor", tF4, 4), ("DoorPaints$Door", tF5, 4), ("DoorPaints$Tape", tF6, 6), ("DoorPaints$Search", tF7, 7), ("DoorPaints$Sheet", tF8, 3), ("DoorPaintsModel", tF9, 33)]
def tFtyL : List (List FieldType) := [[.object "DoorPaints$Reader", .object "DoorPaints$Tape", .object "DoorPaints$Told", .array (.object "DoorPaints$Told"), .array .boolean, .object "DoorPaints$Town", .object "DoorPaints$Search", .array .int, .array (.object "DoorPaints$Sheet"), .int, .int, .int, .int], [.object "DoorPaints$Told", .object "DoorPaints$Tape", .int, .int, .boolean], [.object "DoorPaints$Town", .array .int, .int, .array .int, .array .int, .array .int, .int], [.array (.object "DoorPaints$Visitor"), .array (.object "DoorPaints$Door"), .int, .int, .int, .int], [.int, .int, .int, .int], [.array .int, .int, .int, .boolean], [.array .int, .int, .int, .int, .int, .int], [.object "DoorPaints$Town", .array .int, .array .int, .int, .int, .int, .boolean], [.array .int, .int, .int], [.array .int, .array .int, .array .boolean, .int, .int, .array .int, .int, .int, .boolean, .int, .int, .array .int, .array .int, .int, .int, .int, .int, .int, .int, .int, .int, .int, .int, .boolean, .array .int, .long, .long, .long, .array .int, .array .int, .array .int, .int, .array .int]]
def tFty (ci k : Nat) : FieldType := (tFtyL.getD ci []).getD k .int
def tDflL : List (List Value) := [[.null, .null, .null, .null, .null, .null, .null, .null, .null, .int 0, .int 0, .int 0, .int 0], [.null, .null, .int 0, .int 0, .int 0], [.null, .null, .int 0, .null, .null, .null, .int 0], [.null, .null, .int 0, .int 0, .int 0, .int 0], [.int 0, .int 0, .int 0, .int 0], [.null, .int 0, .int 0, .int 0], [.null, .int 0, .int 0, .int 0, .int 0, .int 0], [.null, .null, .null, .int 0, .int 0, .int 0, .int 0], [.null, .int 0, .int 0], [.null, .null, .null, .int 0, .int 0, .null, .int 0, .int 0, .int 0, .int 0, .int 0, .null, .null, .int 0, .int 0, .int 0, .int 0, .int 0, .int 0, .int 0, .int 0, .int 0, .int 0, .int 0, .null, .long 0, .long 0, .long 0, .null, .null, .null, .int 0, .null]]
def tDfl (ci : Nat) : List Value := tDflL.getD ci []
def tStr : StrT := [("DoorPaints$Reader", 59, 1), ("DoorPaints$Reader", 68, 3), ("DoorPaints$Reader", 73, 5), ("DoorPaints$Reader", 86, 7), ("DoorPaints$Reader", 88, 9), ("DoorPaints$Reader", 90, 11), ("DoorPaints$Reader", 92, 13)]
def tNest : NestT := [("DoorPaints$Town", 17, ⟨"DoorPaints$Visitor", "<init>", "()V"⟩, "DoorPaints"), ("DoorPaints$Reader", 141, ⟨"DoorPaints", "isAct", "(I)Z"⟩, "DoorPaints"), ("DoorPaints$Town", 45, ⟨"DoorPaints", "isSkyAct", "(I)Z"⟩, "DoorPaints"), ("DoorPaints$Visitor", 22, ⟨"DoorPaints", "isColour", "(I)Z"⟩, "DoorPaints"), ("DoorPaints$Town", 112, ⟨"DoorPaints", "isRefusal", "(I)Z"⟩, "DoorPaints"), ("DoorPaints$Told", 59, ⟨"DoorPaints", "isSkyAct", "(I)Z"⟩, "DoorPaints")]
def gw : List Cond := lw_tbl.filter goodWord
end
section
/-! TABLES: the methods' listings (written by a program) -/
/-- DoorPaintsLaw.law([I)Z -/
def cL0_0 : List MI := [(0, .new 7, 3, 0, 0, 0), (3, .dup, 1, 0, 0, 0), (4, .invokespecial 9, 3, 1, 1, 0), (7, .astore_n 1, 1, 0, 0, 0), (8, .new 10, 3, 9, 0, 0), (11, .dup, 1, 0, 0, 0), (12, .invokespecial 12, 3, 144, 1, 0), (15, .astore_n 2, 1, 0, 0, 0), (16, .iconst 0, 1, 0, 0, 0), (17, .istore_n 3, 1, 0, 0, 0), (18, .iload_n 3, 1, 0, 0, 0), (19, .aload_n 0, 1, 0, 0, 0), (20, .arraylength, 1, 0, 0, 0), (21, .iconst 5, 1, 0, 0, 0), (22, .isub, 1, 0, 0, 0), (23, .if_icmp .gt 1236, 3, 0, 0, 0), (26, .aload_n 0, 1, 0, 0, 0), (27, .iload_n 3, 1, 0, 0, 0), (28, .iaload, 1, 0, 0, 0), (29, .bipush 63, 2, 0, 0, 0), (31, .iand, 1, 0, 0, 0), (32, .tableswitch 1221 0 36 #[164, 187, 210, 223, 236, 259, 292, 325, 348, 381, 414, 437, 460, 503, 562, 585, 608, 631, 654, 677, 710, 733, 756, 799, 822, 845, 858, 881, 924, 957, 1000, 1023, 1046, 1089, 1132, 1185, 1198], 164, 0, 0, 0), (196, .aload_n 1, 1, 0, 0, 0), (197, .aload_n 0, 1, 0, 0, 0), (198, .iload_n 3, 1, 0, 0, 0), (199, .iconst 1, 1, 0, 0, 0), (200, .iadd, 1, 0, 0, 0), (201, .iaload, 1, 0, 0, 0), (202, .invokevirtual 13, 3, 10, 2, 0), (205, .pop, 1, 0, 0, 0), (206, .aload_n 2, 1, 0, 0, 0), (207, .aload_n 0, 1, 0, 0, 0), (208, .iload_n 3, 1, 0, 0, 0), (209, .iconst 1, 1, 0, 0, 0), (210, .iadd, 1, 0, 0, 0), (211, .iaload, 1, 0, 0, 0), (212, .invokevirtual 17, 3, 147, 2, 9), (215, .pop, 1, 0, 0, 0), (216, .goto 1037, 3, 0, 0, 0), (219, .aload_n 1, 1, 0, 0, 0), (220, .aload_n 0, 1, 0, 0, 0), (221, .iload_n 3, 1, 0, 0, 0), (222, .iconst 1, 1, 0, 0, 0), (223, .iadd, 1, 0, 0, 0), (224, .iaload, 1, 0, 0, 0), (225, .invokevirtual 18, 3, 12, 2, 0), (228, .pop, 1, 0, 0, 0), (229, .aload_n 2, 1, 0, 0, 0), (230, .aload_n 0, 1, 0, 0, 0), (231, .iload_n 3, 1, 0, 0, 0)]
def cL0_1 : List MI := [(232, .iconst 1, 1, 0, 0, 0), (233, .iadd, 1, 0, 0, 0), (234, .iaload, 1, 0, 0, 0), (235, .invokevirtual 21, 3, 149, 2, 9), (238, .pop, 1, 0, 0, 0), (239, .goto 1014, 3, 0, 0, 0), (242, .aload_n 1, 1, 0, 0, 0), (243, .invokevirtual 22, 3, 13, 1, 0), (246, .pop, 1, 0, 0, 0), (247, .aload_n 2, 1, 0, 0, 0), (248, .invokevirtual 26, 3, 150, 1, 9), (251, .pop, 1, 0, 0, 0), (252, .goto 1001, 3, 0, 0, 0), (255, .aload_n 1, 1, 0, 0, 0), (256, .invokevirtual 27, 3, 55, 1, 0), (259, .pop, 1, 0, 0, 0), (260, .aload_n 2, 1, 0, 0, 0), (261, .invokevirtual 30, 3, 166, 1, 9), (264, .pop, 1, 0, 0, 0), (265, .goto 988, 3, 0, 0, 0), (268, .aload_n 1, 1, 0, 0, 0), (269, .aload_n 0, 1, 0, 0, 0), (270, .iload_n 3, 1, 0, 0, 0), (271, .iconst 1, 1, 0, 0, 0), (272, .iadd, 1, 0, 0, 0), (273, .iaload, 1, 0, 0, 0), (274, .invokevirtual 31, 3, 56, 2, 0), (277, .pop, 1, 0, 0, 0), (278, .aload_n 2, 1, 0, 0, 0), (279, .aload_n 0, 1, 0, 0, 0), (280, .iload_n 3, 1, 0, 0, 0), (281, .iconst 1, 1, 0, 0, 0), (282, .iadd, 1, 0, 0, 0), (283, .iaload, 1, 0, 0, 0), (284, .invokevirtual 34, 3, 167, 2, 9), (287, .pop, 1, 0, 0, 0), (288, .goto 965, 3, 0, 0, 0), (291, .aload_n 1, 1, 0, 0, 0), (292, .aload_n 0, 1, 0, 0, 0), (293, .iload_n 3, 1, 0, 0, 0), (294, .iconst 1, 1, 0, 0, 0), (295, .iadd, 1, 0, 0, 0), (296, .iaload, 1, 0, 0, 0), (297, .aload_n 0, 1, 0, 0, 0), (298, .iload_n 3, 1, 0, 0, 0), (299, .iconst 2, 1, 0, 0, 0), (300, .iadd, 1, 0, 0, 0), (301, .iaload, 1, 0, 0, 0), (302, .invokevirtual 35, 3, 62, 3, 0), (305, .pop, 1, 0, 0, 0)]
def cL0_2 : List MI := [(306, .aload_n 2, 1, 0, 0, 0), (307, .aload_n 0, 1, 0, 0, 0), (308, .iload_n 3, 1, 0, 0, 0), (309, .iconst 1, 1, 0, 0, 0), (310, .iadd, 1, 0, 0, 0), (311, .iaload, 1, 0, 0, 0), (312, .aload_n 0, 1, 0, 0, 0), (313, .iload_n 3, 1, 0, 0, 0), (314, .iconst 2, 1, 0, 0, 0), (315, .iadd, 1, 0, 0, 0), (316, .iaload, 1, 0, 0, 0), (317, .invokevirtual 39, 3, 176, 3, 9), (320, .pop, 1, 0, 0, 0), (321, .goto 932, 3, 0, 0, 0), (324, .aload_n 1, 1, 0, 0, 0), (325, .aload_n 0, 1, 0, 0, 0), (326, .iload_n 3, 1, 0, 0, 0), (327, .iconst 1, 1, 0, 0, 0), (328, .iadd, 1, 0, 0, 0), (329, .iaload, 1, 0, 0, 0), (330, .aload_n 0, 1, 0, 0, 0), (331, .iload_n 3, 1, 0, 0, 0), (332, .iconst 2, 1, 0, 0, 0), (333, .iadd, 1, 0, 0, 0), (334, .iaload, 1, 0, 0, 0), (335, .invokevirtual 40, 3, 64, 3, 0), (338, .pop, 1, 0, 0, 0), (339, .aload_n 2, 1, 0, 0, 0), (340, .aload_n 0, 1, 0, 0, 0), (341, .iload_n 3, 1, 0, 0, 0), (342, .iconst 1, 1, 0, 0, 0), (343, .iadd, 1, 0, 0, 0), (344, .iaload, 1, 0, 0, 0), (345, .aload_n 0, 1, 0, 0, 0), (346, .iload_n 3, 1, 0, 0, 0), (347, .iconst 2, 1, 0, 0, 0), (348, .iadd, 1, 0, 0, 0), (349, .iaload, 1, 0, 0, 0), (350, .invokevirtual 43, 3, 180, 3, 9), (353, .pop, 1, 0, 0, 0), (354, .goto 899, 3, 0, 0, 0), (357, .aload_n 1, 1, 0, 0, 0), (358, .aload_n 0, 1, 0, 0, 0), (359, .iload_n 3, 1, 0, 0, 0), (360, .iconst 1, 1, 0, 0, 0), (361, .iadd, 1, 0, 0, 0), (362, .iaload, 1, 0, 0, 0), (363, .invokevirtual 44, 3, 66, 2, 0), (366, .pop, 1, 0, 0, 0), (367, .aload_n 2, 1, 0, 0, 0)]
def cL0_3 : List MI := [(368, .aload_n 0, 1, 0, 0, 0), (369, .iload_n 3, 1, 0, 0, 0), (370, .iconst 1, 1, 0, 0, 0), (371, .iadd, 1, 0, 0, 0), (372, .iaload, 1, 0, 0, 0), (373, .invokevirtual 47, 3, 182, 2, 9), (376, .pop, 1, 0, 0, 0), (377, .goto 876, 3, 0, 0, 0), (380, .aload_n 1, 1, 0, 0, 0), (381, .aload_n 0, 1, 0, 0, 0), (382, .iload_n 3, 1, 0, 0, 0), (383, .iconst 1, 1, 0, 0, 0), (384, .iadd, 1, 0, 0, 0), (385, .iaload, 1, 0, 0, 0), (386, .aload_n 0, 1, 0, 0, 0), (387, .iload_n 3, 1, 0, 0, 0), (388, .iconst 2, 1, 0, 0, 0), (389, .iadd, 1, 0, 0, 0), (390, .iaload, 1, 0, 0, 0), (391, .invokevirtual 48, 3, 67, 3, 0), (394, .pop, 1, 0, 0, 0), (395, .aload_n 2, 1, 0, 0, 0), (396, .aload_n 0, 1, 0, 0, 0), (397, .iload_n 3, 1, 0, 0, 0), (398, .iconst 1, 1, 0, 0, 0), (399, .iadd, 1, 0, 0, 0), (400, .iaload, 1, 0, 0, 0), (401, .aload_n 0, 1, 0, 0, 0), (402, .iload_n 3, 1, 0, 0, 0), (403, .iconst 2, 1, 0, 0, 0), (404, .iadd, 1, 0, 0, 0), (405, .iaload, 1, 0, 0, 0), (406, .invokevirtual 51, 3, 183, 3, 9), (409, .pop, 1, 0, 0, 0), (410, .goto 843, 3, 0, 0, 0), (413, .aload_n 1, 1, 0, 0, 0), (414, .aload_n 0, 1, 0, 0, 0), (415, .iload_n 3, 1, 0, 0, 0), (416, .iconst 1, 1, 0, 0, 0), (417, .iadd, 1, 0, 0, 0), (418, .iaload, 1, 0, 0, 0), (419, .aload_n 0, 1, 0, 0, 0), (420, .iload_n 3, 1, 0, 0, 0), (421, .iconst 2, 1, 0, 0, 0), (422, .iadd, 1, 0, 0, 0), (423, .iaload, 1, 0, 0, 0), (424, .invokevirtual 52, 3, 69, 3, 0), (427, .pop, 1, 0, 0, 0), (428, .aload_n 2, 1, 0, 0, 0), (429, .aload_n 0, 1, 0, 0, 0)]
def cL0_4 : List MI := [(430, .iload_n 3, 1, 0, 0, 0), (431, .iconst 1, 1, 0, 0, 0), (432, .iadd, 1, 0, 0, 0), (433, .iaload, 1, 0, 0, 0), (434, .aload_n 0, 1, 0, 0, 0), (435, .iload_n 3, 1, 0, 0, 0), (436, .iconst 2, 1, 0, 0, 0), (437, .iadd, 1, 0, 0, 0), (438, .iaload, 1, 0, 0, 0), (439, .invokevirtual 55, 3, 185, 3, 9), (442, .pop, 1, 0, 0, 0), (443, .goto 810, 3, 0, 0, 0), (446, .aload_n 1, 1, 0, 0, 0), (447, .aload_n 0, 1, 0, 0, 0), (448, .iload_n 3, 1, 0, 0, 0), (449, .iconst 1, 1, 0, 0, 0), (450, .iadd, 1, 0, 0, 0), (451, .iaload, 1, 0, 0, 0), (452, .invokevirtual 56, 3, 75, 2, 0), (455, .pop, 1, 0, 0, 0), (456, .aload_n 2, 1, 0, 0, 0), (457, .aload_n 0, 1, 0, 0, 0), (458, .iload_n 3, 1, 0, 0, 0), (459, .iconst 1, 1, 0, 0, 0), (460, .iadd, 1, 0, 0, 0), (461, .iaload, 1, 0, 0, 0), (462, .invokevirtual 59, 3, 190, 2, 9), (465, .pop, 1, 0, 0, 0), (466, .goto 787, 3, 0, 0, 0), (469, .aload_n 1, 1, 0, 0, 0), (470, .aload_n 0, 1, 0, 0, 0), (471, .iload_n 3, 1, 0, 0, 0), (472, .iconst 1, 1, 0, 0, 0), (473, .iadd, 1, 0, 0, 0), (474, .iaload, 1, 0, 0, 0), (475, .invokevirtual 60, 3, 81, 2, 0), (478, .pop, 1, 0, 0, 0), (479, .aload_n 2, 1, 0, 0, 0), (480, .aload_n 0, 1, 0, 0, 0), (481, .iload_n 3, 1, 0, 0, 0), (482, .iconst 1, 1, 0, 0, 0), (483, .iadd, 1, 0, 0, 0), (484, .iaload, 1, 0, 0, 0), (485, .invokevirtual 63, 3, 194, 2, 9), (488, .pop, 1, 0, 0, 0), (489, .goto 764, 3, 0, 0, 0), (492, .aload_n 1, 1, 0, 0, 0), (493, .aload_n 0, 1, 0, 0, 0), (494, .iload_n 3, 1, 0, 0, 0), (495, .iconst 1, 1, 0, 0, 0)]
def cL0_5 : List MI := [(496, .iadd, 1, 0, 0, 0), (497, .iaload, 1, 0, 0, 0), (498, .aload_n 0, 1, 0, 0, 0), (499, .iload_n 3, 1, 0, 0, 0), (500, .iconst 2, 1, 0, 0, 0), (501, .iadd, 1, 0, 0, 0), (502, .iaload, 1, 0, 0, 0), (503, .aload_n 0, 1, 0, 0, 0), (504, .iload_n 3, 1, 0, 0, 0), (505, .iconst 3, 1, 0, 0, 0), (506, .iadd, 1, 0, 0, 0), (507, .iaload, 1, 0, 0, 0), (508, .invokevirtual 64, 3, 82, 4, 0), (511, .pop, 1, 0, 0, 0), (512, .aload_n 2, 1, 0, 0, 0), (513, .aload_n 0, 1, 0, 0, 0), (514, .iload_n 3, 1, 0, 0, 0), (515, .iconst 1, 1, 0, 0, 0), (516, .iadd, 1, 0, 0, 0), (517, .iaload, 1, 0, 0, 0), (518, .aload_n 0, 1, 0, 0, 0), (519, .iload_n 3, 1, 0, 0, 0), (520, .iconst 2, 1, 0, 0, 0), (521, .iadd, 1, 0, 0, 0), (522, .iaload, 1, 0, 0, 0), (523, .aload_n 0, 1, 0, 0, 0), (524, .iload_n 3, 1, 0, 0, 0), (525, .iconst 3, 1, 0, 0, 0), (526, .iadd, 1, 0, 0, 0), (527, .iaload, 1, 0, 0, 0), (528, .invokevirtual 68, 3, 195, 4, 9), (531, .pop, 1, 0, 0, 0), (532, .goto 721, 3, 0, 0, 0), (535, .aload_n 1, 1, 0, 0, 0), (536, .aload_n 0, 1, 0, 0, 0), (537, .iload_n 3, 1, 0, 0, 0), (538, .iconst 1, 1, 0, 0, 0), (539, .iadd, 1, 0, 0, 0), (540, .iaload, 1, 0, 0, 0), (541, .aload_n 0, 1, 0, 0, 0), (542, .iload_n 3, 1, 0, 0, 0), (543, .iconst 2, 1, 0, 0, 0), (544, .iadd, 1, 0, 0, 0), (545, .iaload, 1, 0, 0, 0), (546, .aload_n 0, 1, 0, 0, 0), (547, .iload_n 3, 1, 0, 0, 0), (548, .iconst 3, 1, 0, 0, 0), (549, .iadd, 1, 0, 0, 0), (550, .iaload, 1, 0, 0, 0), (551, .ifCond .eq 7, 3, 0, 0, 0)]
def cL0_6 : List MI := [(554, .iconst 1, 1, 0, 0, 0), (555, .goto 4, 3, 0, 0, 0), (558, .iconst 0, 1, 0, 0, 0), (559, .invokevirtual 69, 3, 83, 4, 0), (562, .pop, 1, 0, 0, 0), (563, .aload_n 2, 1, 0, 0, 0), (564, .aload_n 0, 1, 0, 0, 0), (565, .iload_n 3, 1, 0, 0, 0), (566, .iconst 1, 1, 0, 0, 0), (567, .iadd, 1, 0, 0, 0), (568, .iaload, 1, 0, 0, 0), (569, .aload_n 0, 1, 0, 0, 0), (570, .iload_n 3, 1, 0, 0, 0), (571, .iconst 2, 1, 0, 0, 0), (572, .iadd, 1, 0, 0, 0), (573, .iaload, 1, 0, 0, 0), (574, .aload_n 0, 1, 0, 0, 0), (575, .iload_n 3, 1, 0, 0, 0), (576, .iconst 3, 1, 0, 0, 0), (577, .iadd, 1, 0, 0, 0), (578, .iaload, 1, 0, 0, 0), (579, .ifCond .eq 7, 3, 0, 0, 0), (582, .iconst 1, 1, 0, 0, 0), (583, .goto 4, 3, 0, 0, 0), (586, .iconst 0, 1, 0, 0, 0), (587, .invokevirtual 73, 3, 198, 4, 9), (590, .pop, 1, 0, 0, 0), (591, .goto 662, 3, 0, 0, 0), (594, .aload_n 1, 1, 0, 0, 0), (595, .aload_n 0, 1, 0, 0, 0), (596, .iload_n 3, 1, 0, 0, 0), (597, .iconst 1, 1, 0, 0, 0), (598, .iadd, 1, 0, 0, 0), (599, .iaload, 1, 0, 0, 0), (600, .invokevirtual 74, 3, 84, 2, 0), (603, .pop, 1, 0, 0, 0), (604, .aload_n 2, 1, 0, 0, 0), (605, .aload_n 0, 1, 0, 0, 0), (606, .iload_n 3, 1, 0, 0, 0), (607, .iconst 1, 1, 0, 0, 0), (608, .iadd, 1, 0, 0, 0), (609, .iaload, 1, 0, 0, 0), (610, .invokevirtual 77, 3, 199, 2, 9), (613, .pop, 1, 0, 0, 0), (614, .goto 639, 3, 0, 0, 0), (617, .aload_n 1, 1, 0, 0, 0), (618, .aload_n 0, 1, 0, 0, 0), (619, .iload_n 3, 1, 0, 0, 0), (620, .iconst 1, 1, 0, 0, 0), (621, .iadd, 1, 0, 0, 0)]
def cL0_7 : List MI := [(622, .iaload, 1, 0, 0, 0), (623, .invokevirtual 78, 3, 85, 2, 0), (626, .pop, 1, 0, 0, 0), (627, .aload_n 2, 1, 0, 0, 0), (628, .aload_n 0, 1, 0, 0, 0), (629, .iload_n 3, 1, 0, 0, 0), (630, .iconst 1, 1, 0, 0, 0), (631, .iadd, 1, 0, 0, 0), (632, .iaload, 1, 0, 0, 0), (633, .invokevirtual 81, 3, 201, 2, 9), (636, .pop, 1, 0, 0, 0), (637, .goto 616, 3, 0, 0, 0), (640, .aload_n 1, 1, 0, 0, 0), (641, .aload_n 0, 1, 0, 0, 0), (642, .iload_n 3, 1, 0, 0, 0), (643, .iconst 1, 1, 0, 0, 0), (644, .iadd, 1, 0, 0, 0), (645, .iaload, 1, 0, 0, 0), (646, .invokevirtual 82, 3, 86, 2, 0), (649, .pop, 1, 0, 0, 0), (650, .aload_n 2, 1, 0, 0, 0), (651, .aload_n 0, 1, 0, 0, 0), (652, .iload_n 3, 1, 0, 0, 0), (653, .iconst 1, 1, 0, 0, 0), (654, .iadd, 1, 0, 0, 0), (655, .iaload, 1, 0, 0, 0), (656, .invokevirtual 85, 3, 202, 2, 9), (659, .pop, 1, 0, 0, 0), (660, .goto 593, 3, 0, 0, 0), (663, .aload_n 1, 1, 0, 0, 0), (664, .aload_n 0, 1, 0, 0, 0), (665, .iload_n 3, 1, 0, 0, 0), (666, .iconst 1, 1, 0, 0, 0), (667, .iadd, 1, 0, 0, 0), (668, .iaload, 1, 0, 0, 0), (669, .invokevirtual 86, 3, 93, 2, 0), (672, .pop, 1, 0, 0, 0), (673, .aload_n 2, 1, 0, 0, 0), (674, .aload_n 0, 1, 0, 0, 0), (675, .iload_n 3, 1, 0, 0, 0), (676, .iconst 1, 1, 0, 0, 0), (677, .iadd, 1, 0, 0, 0), (678, .iaload, 1, 0, 0, 0), (679, .invokevirtual 89, 3, 204, 2, 9), (682, .pop, 1, 0, 0, 0), (683, .goto 570, 3, 0, 0, 0), (686, .aload_n 1, 1, 0, 0, 0), (687, .aload_n 0, 1, 0, 0, 0), (688, .iload_n 3, 1, 0, 0, 0), (689, .iconst 1, 1, 0, 0, 0)]
def cL0_8 : List MI := [(690, .iadd, 1, 0, 0, 0), (691, .iaload, 1, 0, 0, 0), (692, .invokevirtual 90, 3, 94, 2, 0), (695, .pop, 1, 0, 0, 0), (696, .aload_n 2, 1, 0, 0, 0), (697, .aload_n 0, 1, 0, 0, 0), (698, .iload_n 3, 1, 0, 0, 0), (699, .iconst 1, 1, 0, 0, 0), (700, .iadd, 1, 0, 0, 0), (701, .iaload, 1, 0, 0, 0), (702, .invokevirtual 93, 3, 206, 2, 9), (705, .pop, 1, 0, 0, 0), (706, .goto 547, 3, 0, 0, 0), (709, .aload_n 1, 1, 0, 0, 0), (710, .aload_n 0, 1, 0, 0, 0), (711, .iload_n 3, 1, 0, 0, 0), (712, .iconst 1, 1, 0, 0, 0), (713, .iadd, 1, 0, 0, 0), (714, .iaload, 1, 0, 0, 0), (715, .aload_n 0, 1, 0, 0, 0), (716, .iload_n 3, 1, 0, 0, 0), (717, .iconst 2, 1, 0, 0, 0), (718, .iadd, 1, 0, 0, 0), (719, .iaload, 1, 0, 0, 0), (720, .invokevirtual 94, 3, 95, 3, 0), (723, .pop, 1, 0, 0, 0), (724, .aload_n 2, 1, 0, 0, 0), (725, .aload_n 0, 1, 0, 0, 0), (726, .iload_n 3, 1, 0, 0, 0), (727, .iconst 1, 1, 0, 0, 0), (728, .iadd, 1, 0, 0, 0), (729, .iaload, 1, 0, 0, 0), (730, .aload_n 0, 1, 0, 0, 0), (731, .iload_n 3, 1, 0, 0, 0), (732, .iconst 2, 1, 0, 0, 0), (733, .iadd, 1, 0, 0, 0), (734, .iaload, 1, 0, 0, 0), (735, .invokevirtual 97, 3, 207, 3, 9), (738, .pop, 1, 0, 0, 0), (739, .goto 514, 3, 0, 0, 0), (742, .aload_n 1, 1, 0, 0, 0), (743, .aload_n 0, 1, 0, 0, 0), (744, .iload_n 3, 1, 0, 0, 0), (745, .iconst 1, 1, 0, 0, 0), (746, .iadd, 1, 0, 0, 0), (747, .iaload, 1, 0, 0, 0), (748, .invokevirtual 98, 3, 107, 2, 0), (751, .pop, 1, 0, 0, 0), (752, .aload_n 2, 1, 0, 0, 0), (753, .aload_n 0, 1, 0, 0, 0)]
def cL0_9 : List MI := [(754, .iload_n 3, 1, 0, 0, 0), (755, .iconst 1, 1, 0, 0, 0), (756, .iadd, 1, 0, 0, 0), (757, .iaload, 1, 0, 0, 0), (758, .invokevirtual 101, 3, 215, 2, 9), (761, .pop, 1, 0, 0, 0), (762, .goto 491, 3, 0, 0, 0), (765, .aload_n 1, 1, 0, 0, 0), (766, .aload_n 0, 1, 0, 0, 0), (767, .iload_n 3, 1, 0, 0, 0), (768, .iconst 1, 1, 0, 0, 0), (769, .iadd, 1, 0, 0, 0), (770, .iaload, 1, 0, 0, 0), (771, .invokevirtual 102, 3, 109, 2, 0), (774, .pop, 1, 0, 0, 0), (775, .aload_n 2, 1, 0, 0, 0), (776, .aload_n 0, 1, 0, 0, 0), (777, .iload_n 3, 1, 0, 0, 0), (778, .iconst 1, 1, 0, 0, 0), (779, .iadd, 1, 0, 0, 0), (780, .iaload, 1, 0, 0, 0), (781, .invokevirtual 105, 3, 216, 2, 9), (784, .pop, 1, 0, 0, 0), (785, .goto 468, 3, 0, 0, 0), (788, .aload_n 1, 1, 0, 0, 0), (789, .aload_n 0, 1, 0, 0, 0), (790, .iload_n 3, 1, 0, 0, 0), (791, .iconst 1, 1, 0, 0, 0), (792, .iadd, 1, 0, 0, 0), (793, .iaload, 1, 0, 0, 0), (794, .aload_n 0, 1, 0, 0, 0), (795, .iload_n 3, 1, 0, 0, 0), (796, .iconst 2, 1, 0, 0, 0), (797, .iadd, 1, 0, 0, 0), (798, .iaload, 1, 0, 0, 0), (799, .aload_n 0, 1, 0, 0, 0), (800, .iload_n 3, 1, 0, 0, 0), (801, .iconst 3, 1, 0, 0, 0), (802, .iadd, 1, 0, 0, 0), (803, .iaload, 1, 0, 0, 0), (804, .invokevirtual 106, 3, 111, 4, 0), (807, .pop, 1, 0, 0, 0), (808, .aload_n 2, 1, 0, 0, 0), (809, .aload_n 0, 1, 0, 0, 0), (810, .iload_n 3, 1, 0, 0, 0), (811, .iconst 1, 1, 0, 0, 0), (812, .iadd, 1, 0, 0, 0), (813, .iaload, 1, 0, 0, 0), (814, .aload_n 0, 1, 0, 0, 0), (815, .iload_n 3, 1, 0, 0, 0)]
def cL0_10 : List MI := [(816, .iconst 2, 1, 0, 0, 0), (817, .iadd, 1, 0, 0, 0), (818, .iaload, 1, 0, 0, 0), (819, .aload_n 0, 1, 0, 0, 0), (820, .iload_n 3, 1, 0, 0, 0), (821, .iconst 3, 1, 0, 0, 0), (822, .iadd, 1, 0, 0, 0), (823, .iaload, 1, 0, 0, 0), (824, .invokevirtual 109, 3, 217, 4, 9), (827, .pop, 1, 0, 0, 0), (828, .goto 425, 3, 0, 0, 0), (831, .aload_n 1, 1, 0, 0, 0), (832, .aload_n 0, 1, 0, 0, 0), (833, .iload_n 3, 1, 0, 0, 0), (834, .iconst 1, 1, 0, 0, 0), (835, .iadd, 1, 0, 0, 0), (836, .iaload, 1, 0, 0, 0), (837, .invokevirtual 110, 3, 113, 2, 0), (840, .pop, 1, 0, 0, 0), (841, .aload_n 2, 1, 0, 0, 0), (842, .aload_n 0, 1, 0, 0, 0), (843, .iload_n 3, 1, 0, 0, 0), (844, .iconst 1, 1, 0, 0, 0), (845, .iadd, 1, 0, 0, 0), (846, .iaload, 1, 0, 0, 0), (847, .invokevirtual 113, 3, 218, 2, 9), (850, .pop, 1, 0, 0, 0), (851, .goto 402, 3, 0, 0, 0), (854, .aload_n 1, 1, 0, 0, 0), (855, .aload_n 0, 1, 0, 0, 0), (856, .iload_n 3, 1, 0, 0, 0), (857, .iconst 1, 1, 0, 0, 0), (858, .iadd, 1, 0, 0, 0), (859, .iaload, 1, 0, 0, 0), (860, .invokevirtual 114, 3, 114, 2, 0), (863, .pop, 1, 0, 0, 0), (864, .aload_n 2, 1, 0, 0, 0), (865, .aload_n 0, 1, 0, 0, 0), (866, .iload_n 3, 1, 0, 0, 0), (867, .iconst 1, 1, 0, 0, 0), (868, .iadd, 1, 0, 0, 0), (869, .iaload, 1, 0, 0, 0), (870, .invokevirtual 117, 3, 219, 2, 9), (873, .pop, 1, 0, 0, 0), (874, .goto 379, 3, 0, 0, 0), (877, .aload_n 1, 1, 0, 0, 0), (878, .invokevirtual 118, 3, 117, 1, 0), (881, .pop, 1, 0, 0, 0), (882, .aload_n 2, 1, 0, 0, 0), (883, .invokevirtual 121, 3, 221, 1, 9)]
def cL0_11 : List MI := [(886, .pop, 1, 0, 0, 0), (887, .goto 366, 3, 0, 0, 0), (890, .aload_n 1, 1, 0, 0, 0), (891, .aload_n 0, 1, 0, 0, 0), (892, .iload_n 3, 1, 0, 0, 0), (893, .iconst 1, 1, 0, 0, 0), (894, .iadd, 1, 0, 0, 0), (895, .iaload, 1, 0, 0, 0), (896, .invokevirtual 122, 3, 118, 2, 0), (899, .pop, 1, 0, 0, 0), (900, .aload_n 2, 1, 0, 0, 0), (901, .aload_n 0, 1, 0, 0, 0), (902, .iload_n 3, 1, 0, 0, 0), (903, .iconst 1, 1, 0, 0, 0), (904, .iadd, 1, 0, 0, 0), (905, .iaload, 1, 0, 0, 0), (906, .invokevirtual 125, 3, 222, 2, 9), (909, .pop, 1, 0, 0, 0), (910, .goto 343, 3, 0, 0, 0), (913, .aload_n 1, 1, 0, 0, 0), (914, .aload_n 0, 1, 0, 0, 0), (915, .iload_n 3, 1, 0, 0, 0), (916, .iconst 1, 1, 0, 0, 0), (917, .iadd, 1, 0, 0, 0), (918, .iaload, 1, 0, 0, 0), (919, .aload_n 0, 1, 0, 0, 0), (920, .iload_n 3, 1, 0, 0, 0), (921, .iconst 2, 1, 0, 0, 0), (922, .iadd, 1, 0, 0, 0), (923, .iaload, 1, 0, 0, 0), (924, .aload_n 0, 1, 0, 0, 0), (925, .iload_n 3, 1, 0, 0, 0), (926, .iconst 3, 1, 0, 0, 0), (927, .iadd, 1, 0, 0, 0), (928, .iaload, 1, 0, 0, 0), (929, .invokevirtual 126, 3, 121, 4, 0), (932, .pop2, 1, 0, 0, 0), (933, .aload_n 2, 1, 0, 0, 0), (934, .aload_n 0, 1, 0, 0, 0), (935, .iload_n 3, 1, 0, 0, 0), (936, .iconst 1, 1, 0, 0, 0), (937, .iadd, 1, 0, 0, 0), (938, .iaload, 1, 0, 0, 0), (939, .aload_n 0, 1, 0, 0, 0), (940, .iload_n 3, 1, 0, 0, 0), (941, .iconst 2, 1, 0, 0, 0), (942, .iadd, 1, 0, 0, 0), (943, .iaload, 1, 0, 0, 0), (944, .aload_n 0, 1, 0, 0, 0), (945, .iload_n 3, 1, 0, 0, 0)]
def cL0_12 : List MI := [(946, .iconst 3, 1, 0, 0, 0), (947, .iadd, 1, 0, 0, 0), (948, .iaload, 1, 0, 0, 0), (949, .invokevirtual 130, 3, 224, 4, 9), (952, .pop2, 1, 0, 0, 0), (953, .goto 300, 3, 0, 0, 0), (956, .aload_n 1, 1, 0, 0, 0), (957, .aload_n 0, 1, 0, 0, 0), (958, .iload_n 3, 1, 0, 0, 0), (959, .iconst 1, 1, 0, 0, 0), (960, .iadd, 1, 0, 0, 0), (961, .iaload, 1, 0, 0, 0), (962, .aload_n 0, 1, 0, 0, 0), (963, .iload_n 3, 1, 0, 0, 0), (964, .iconst 2, 1, 0, 0, 0), (965, .iadd, 1, 0, 0, 0), (966, .iaload, 1, 0, 0, 0), (967, .invokevirtual 131, 3, 127, 3, 0), (970, .pop2, 1, 0, 0, 0), (971, .aload_n 2, 1, 0, 0, 0), (972, .aload_n 0, 1, 0, 0, 0), (973, .iload_n 3, 1, 0, 0, 0), (974, .iconst 1, 1, 0, 0, 0), (975, .iadd, 1, 0, 0, 0), (976, .iaload, 1, 0, 0, 0), (977, .aload_n 0, 1, 0, 0, 0), (978, .iload_n 3, 1, 0, 0, 0), (979, .iconst 2, 1, 0, 0, 0), (980, .iadd, 1, 0, 0, 0), (981, .iaload, 1, 0, 0, 0), (982, .invokevirtual 135, 3, 228, 3, 9), (985, .pop2, 1, 0, 0, 0), (986, .goto 267, 3, 0, 0, 0), (989, .aload_n 1, 1, 0, 0, 0), (990, .aload_n 0, 1, 0, 0, 0), (991, .iload_n 3, 1, 0, 0, 0), (992, .iconst 1, 1, 0, 0, 0), (993, .iadd, 1, 0, 0, 0), (994, .iaload, 1, 0, 0, 0), (995, .aload_n 0, 1, 0, 0, 0), (996, .iload_n 3, 1, 0, 0, 0), (997, .iconst 2, 1, 0, 0, 0), (998, .iadd, 1, 0, 0, 0), (999, .iaload, 1, 0, 0, 0), (1000, .aload_n 0, 1, 0, 0, 0), (1001, .iload_n 3, 1, 0, 0, 0), (1002, .iconst 3, 1, 0, 0, 0), (1003, .iadd, 1, 0, 0, 0), (1004, .iaload, 1, 0, 0, 0), (1005, .invokevirtual 136, 3, 128, 4, 0)]
def cL0_13 : List MI := [(1008, .pop, 1, 0, 0, 0), (1009, .aload_n 2, 1, 0, 0, 0), (1010, .aload_n 0, 1, 0, 0, 0), (1011, .iload_n 3, 1, 0, 0, 0), (1012, .iconst 1, 1, 0, 0, 0), (1013, .iadd, 1, 0, 0, 0), (1014, .iaload, 1, 0, 0, 0), (1015, .aload_n 0, 1, 0, 0, 0), (1016, .iload_n 3, 1, 0, 0, 0), (1017, .iconst 2, 1, 0, 0, 0), (1018, .iadd, 1, 0, 0, 0), (1019, .iaload, 1, 0, 0, 0), (1020, .aload_n 0, 1, 0, 0, 0), (1021, .iload_n 3, 1, 0, 0, 0), (1022, .iconst 3, 1, 0, 0, 0), (1023, .iadd, 1, 0, 0, 0), (1024, .iaload, 1, 0, 0, 0), (1025, .invokevirtual 139, 3, 229, 4, 9), (1028, .pop, 1, 0, 0, 0), (1029, .goto 224, 3, 0, 0, 0), (1032, .aload_n 1, 1, 0, 0, 0), (1033, .aload_n 0, 1, 0, 0, 0), (1034, .iload_n 3, 1, 0, 0, 0), (1035, .iconst 1, 1, 0, 0, 0), (1036, .iadd, 1, 0, 0, 0), (1037, .iaload, 1, 0, 0, 0), (1038, .invokevirtual 140, 3, 130, 2, 0), (1041, .pop, 1, 0, 0, 0), (1042, .aload_n 2, 1, 0, 0, 0), (1043, .aload_n 0, 1, 0, 0, 0), (1044, .iload_n 3, 1, 0, 0, 0), (1045, .iconst 1, 1, 0, 0, 0), (1046, .iadd, 1, 0, 0, 0), (1047, .iaload, 1, 0, 0, 0), (1048, .invokevirtual 143, 3, 230, 2, 9), (1051, .pop, 1, 0, 0, 0), (1052, .goto 201, 3, 0, 0, 0), (1055, .aload_n 1, 1, 0, 0, 0), (1056, .aload_n 0, 1, 0, 0, 0), (1057, .iload_n 3, 1, 0, 0, 0), (1058, .iconst 1, 1, 0, 0, 0), (1059, .iadd, 1, 0, 0, 0), (1060, .iaload, 1, 0, 0, 0), (1061, .invokevirtual 144, 3, 131, 2, 0), (1064, .pop, 1, 0, 0, 0), (1065, .aload_n 2, 1, 0, 0, 0), (1066, .aload_n 0, 1, 0, 0, 0), (1067, .iload_n 3, 1, 0, 0, 0), (1068, .iconst 1, 1, 0, 0, 0), (1069, .iadd, 1, 0, 0, 0)]
def cL0_14 : List MI := [(1070, .iaload, 1, 0, 0, 0), (1071, .invokevirtual 147, 3, 232, 2, 9), (1074, .pop, 1, 0, 0, 0), (1075, .goto 178, 3, 0, 0, 0), (1078, .aload_n 1, 1, 0, 0, 0), (1079, .aload_n 0, 1, 0, 0, 0), (1080, .iload_n 3, 1, 0, 0, 0), (1081, .iconst 1, 1, 0, 0, 0), (1082, .iadd, 1, 0, 0, 0), (1083, .iaload, 1, 0, 0, 0), (1084, .aload_n 0, 1, 0, 0, 0), (1085, .iload_n 3, 1, 0, 0, 0), (1086, .iconst 2, 1, 0, 0, 0), (1087, .iadd, 1, 0, 0, 0), (1088, .iaload, 1, 0, 0, 0), (1089, .aload_n 0, 1, 0, 0, 0), (1090, .iload_n 3, 1, 0, 0, 0), (1091, .iconst 3, 1, 0, 0, 0), (1092, .iadd, 1, 0, 0, 0), (1093, .iaload, 1, 0, 0, 0), (1094, .invokevirtual 148, 3, 132, 4, 0), (1097, .aload_n 2, 1, 0, 0, 0), (1098, .aload_n 0, 1, 0, 0, 0), (1099, .iload_n 3, 1, 0, 0, 0), (1100, .iconst 1, 1, 0, 0, 0), (1101, .iadd, 1, 0, 0, 0), (1102, .iaload, 1, 0, 0, 0), (1103, .aload_n 0, 1, 0, 0, 0), (1104, .iload_n 3, 1, 0, 0, 0), (1105, .iconst 2, 1, 0, 0, 0), (1106, .iadd, 1, 0, 0, 0), (1107, .iaload, 1, 0, 0, 0), (1108, .aload_n 0, 1, 0, 0, 0), (1109, .iload_n 3, 1, 0, 0, 0), (1110, .iconst 3, 1, 0, 0, 0), (1111, .iadd, 1, 0, 0, 0), (1112, .iaload, 1, 0, 0, 0), (1113, .invokevirtual 151, 3, 233, 4, 9), (1116, .if_icmp .eq 137, 3, 0, 0, 0), (1119, .iconst 0, 1, 0, 0, 0), (1120, .ireturn, 1, 0, 0, 0), (1121, .aload_n 1, 1, 0, 0, 0), (1122, .aload_n 0, 1, 0, 0, 0), (1123, .iload_n 3, 1, 0, 0, 0), (1124, .iconst 1, 1, 0, 0, 0), (1125, .iadd, 1, 0, 0, 0), (1126, .iaload, 1, 0, 0, 0), (1127, .aload_n 0, 1, 0, 0, 0), (1128, .iload_n 3, 1, 0, 0, 0), (1129, .iconst 2, 1, 0, 0, 0)]
def cL0_15 : List MI := [(1130, .iadd, 1, 0, 0, 0), (1131, .iaload, 1, 0, 0, 0), (1132, .aload_n 0, 1, 0, 0, 0), (1133, .iload_n 3, 1, 0, 0, 0), (1134, .iconst 3, 1, 0, 0, 0), (1135, .iadd, 1, 0, 0, 0), (1136, .iaload, 1, 0, 0, 0), (1137, .invokevirtual 152, 3, 136, 4, 0), (1140, .pop, 1, 0, 0, 0), (1141, .aload_n 2, 1, 0, 0, 0), (1142, .aload_n 0, 1, 0, 0, 0), (1143, .iload_n 3, 1, 0, 0, 0), (1144, .iconst 1, 1, 0, 0, 0), (1145, .iadd, 1, 0, 0, 0), (1146, .iaload, 1, 0, 0, 0), (1147, .aload_n 0, 1, 0, 0, 0), (1148, .iload_n 3, 1, 0, 0, 0), (1149, .iconst 2, 1, 0, 0, 0), (1150, .iadd, 1, 0, 0, 0), (1151, .iaload, 1, 0, 0, 0), (1152, .aload_n 0, 1, 0, 0, 0), (1153, .iload_n 3, 1, 0, 0, 0), (1154, .iconst 3, 1, 0, 0, 0), (1155, .iadd, 1, 0, 0, 0), (1156, .iaload, 1, 0, 0, 0), (1157, .invokevirtual 155, 3, 235, 4, 9), (1160, .pop, 1, 0, 0, 0), (1161, .goto 92, 3, 0, 0, 0), (1164, .aload_n 1, 1, 0, 0, 0), (1165, .aload_n 0, 1, 0, 0, 0), (1166, .iload_n 3, 1, 0, 0, 0), (1167, .iconst 1, 1, 0, 0, 0), (1168, .iadd, 1, 0, 0, 0), (1169, .iaload, 1, 0, 0, 0), (1170, .aload_n 0, 1, 0, 0, 0), (1171, .iload_n 3, 1, 0, 0, 0), (1172, .iconst 2, 1, 0, 0, 0), (1173, .iadd, 1, 0, 0, 0), (1174, .iaload, 1, 0, 0, 0), (1175, .aload_n 0, 1, 0, 0, 0), (1176, .iload_n 3, 1, 0, 0, 0), (1177, .iconst 3, 1, 0, 0, 0), (1178, .iadd, 1, 0, 0, 0), (1179, .iaload, 1, 0, 0, 0), (1180, .aload_n 0, 1, 0, 0, 0), (1181, .iload_n 3, 1, 0, 0, 0), (1182, .iconst 4, 1, 0, 0, 0), (1183, .iadd, 1, 0, 0, 0), (1184, .iaload, 1, 0, 0, 0), (1185, .invokevirtual 156, 3, 139, 5, 0)]
def cL0_16 : List MI := [(1188, .pop, 1, 0, 0, 0), (1189, .aload_n 2, 1, 0, 0, 0), (1190, .aload_n 0, 1, 0, 0, 0), (1191, .iload_n 3, 1, 0, 0, 0), (1192, .iconst 1, 1, 0, 0, 0), (1193, .iadd, 1, 0, 0, 0), (1194, .iaload, 1, 0, 0, 0), (1195, .aload_n 0, 1, 0, 0, 0), (1196, .iload_n 3, 1, 0, 0, 0), (1197, .iconst 2, 1, 0, 0, 0), (1198, .iadd, 1, 0, 0, 0), (1199, .iaload, 1, 0, 0, 0), (1200, .aload_n 0, 1, 0, 0, 0), (1201, .iload_n 3, 1, 0, 0, 0), (1202, .iconst 3, 1, 0, 0, 0), (1203, .iadd, 1, 0, 0, 0), (1204, .iaload, 1, 0, 0, 0), (1205, .aload_n 0, 1, 0, 0, 0), (1206, .iload_n 3, 1, 0, 0, 0), (1207, .iconst 4, 1, 0, 0, 0), (1208, .iadd, 1, 0, 0, 0), (1209, .iaload, 1, 0, 0, 0), (1210, .invokevirtual 160, 3, 236, 5, 9), (1213, .pop, 1, 0, 0, 0), (1214, .goto 39, 3, 0, 0, 0), (1217, .aload_n 1, 1, 0, 0, 0), (1218, .invokevirtual 161, 3, 142, 1, 0), (1221, .pop, 1, 0, 0, 0), (1222, .aload_n 2, 1, 0, 0, 0), (1223, .invokevirtual 164, 3, 237, 1, 9), (1226, .pop, 1, 0, 0, 0), (1227, .goto 26, 3, 0, 0, 0), (1230, .aload_n 1, 1, 0, 0, 0), (1231, .aload_n 0, 1, 0, 0, 0), (1232, .iload_n 3, 1, 0, 0, 0), (1233, .iconst 1, 1, 0, 0, 0), (1234, .iadd, 1, 0, 0, 0), (1235, .iaload, 1, 0, 0, 0), (1236, .invokevirtual 165, 3, 143, 2, 0), (1239, .pop, 1, 0, 0, 0), (1240, .aload_n 2, 1, 0, 0, 0), (1241, .aload_n 0, 1, 0, 0, 0), (1242, .iload_n 3, 1, 0, 0, 0), (1243, .iconst 1, 1, 0, 0, 0), (1244, .iadd, 1, 0, 0, 0), (1245, .iaload, 1, 0, 0, 0), (1246, .invokevirtual 168, 3, 238, 2, 9), (1249, .pop, 1, 0, 0, 0), (1250, .goto 3, 3, 0, 0, 0), (1253, .iinc 3 5, 3, 0, 0, 0)]
def cL0_17 : List MI := [(1256, .goto (-1238), 3, 0, 0, 0), (1259, .iconst 1, 1, 0, 0, 0), (1260, .ireturn, 1, 0, 0, 0)]
def cL0 : List MI := cL0_0 ++ (cL0_1 ++ (cL0_2 ++ (cL0_3 ++ (cL0_4 ++ (cL0_5 ++ (cL0_6 ++ (cL0_7 ++ (cL0_8 ++ (cL0_9 ++ (cL0_10 ++ (cL0_11 ++ (cL0_12 ++ (cL0_13 ++ (cL0_14 ++ (cL0_15 ++ (cL0_16 ++ (cL0_17)))))))))))))))))
/-- DoorPaints.<init>()V -/
def cL1_0 : List MI := [(0, .aload_n 0, 1, 0, 0, 0), (1, .invokespecial 1, 3, 9999, 1, 0), (4, .aload_n 0, 1, 0, 0, 0), (5, .new 7, 3, 1, 0, 0), (8, .dup, 1, 0, 0, 0), (9, .invokespecial 9, 3, 2, 1, 0), (12, .putfield 10, 3, 0, 0, 0), (15, .aload_n 0, 1, 0, 0, 0), (16, .aload_n 0, 1, 0, 0, 0), (17, .getfield 10, 3, 0, 0, 0), (20, .getfield 16, 3, 1, 1, 0), (23, .putfield 20, 3, 0, 1, 0), (26, .aload_n 0, 1, 0, 0, 0), (27, .new 23, 3, 2, 0, 0), (30, .dup, 1, 0, 0, 0), (31, .invokespecial 25, 3, 3, 1, 0), (34, .putfield 26, 3, 0, 2, 0), (37, .aload_n 0, 1, 0, 0, 0), (38, .iconst 2, 1, 0, 0, 0), (39, .anewarray 23, 3, 5, 0, 0), (42, .putfield 30, 3, 0, 3, 0), (45, .iconst 0, 1, 0, 0, 0), (46, .istore_n 1, 1, 0, 0, 0), (47, .iload_n 1, 1, 0, 0, 0), (48, .iconst 2, 1, 0, 0, 0), (49, .if_icmp .ge 22, 3, 0, 0, 0), (52, .aload_n 0, 1, 0, 0, 0), (53, .getfield 30, 3, 0, 3, 0), (56, .iload_n 1, 1, 0, 0, 0), (57, .new 23, 3, 2, 0, 0), (60, .dup, 1, 0, 0, 0), (61, .invokespecial 25, 3, 3, 1, 0), (64, .aastore, 1, 2, 5, 0), (65, .iinc 1 1, 3, 0, 0, 0), (68, .goto (-21), 3, 0, 0, 0), (71, .aload_n 0, 1, 0, 0, 0), (72, .iconst 2, 1, 0, 0, 0), (73, .newarray .boolean, 2, 1, 0, 0), (75, .putfield 34, 3, 0, 4, 0), (78, .aload_n 0, 1, 0, 0, 0), (79, .new 38, 3, 3, 0, 0), (82, .dup, 1, 0, 0, 0), (83, .invokespecial 40, 3, 4, 1, 0), (86, .putfield 41, 3, 0, 5, 0), (89, .aload_n 0, 1, 0, 0, 0), (90, .new 45, 3, 7, 0, 0), (93, .dup, 1, 0, 0, 0), (94, .invokespecial 47, 3, 8, 1, 0), (97, .putfield 48, 3, 0, 6, 0), (100, .aload_n 0, 1, 0, 0, 0)]
def cL1_1 : List MI := [(101, .iconst 5, 1, 0, 0, 0), (102, .newarray .int, 2, 0, 0, 0), (104, .putfield 52, 3, 0, 7, 0), (107, .aload_n 0, 1, 0, 0, 0), (108, .iconst 4, 1, 0, 0, 0), (109, .anewarray 56, 3, 6, 0, 0), (112, .putfield 58, 3, 0, 8, 0), (115, .iconst 0, 1, 0, 0, 0), (116, .istore_n 1, 1, 0, 0, 0), (117, .iload_n 1, 1, 0, 0, 0), (118, .iconst 4, 1, 0, 0, 0), (119, .if_icmp .ge 22, 3, 0, 0, 0), (122, .aload_n 0, 1, 0, 0, 0), (123, .getfield 58, 3, 0, 8, 0), (126, .iload_n 1, 1, 0, 0, 0), (127, .new 56, 3, 8, 0, 0), (130, .dup, 1, 0, 0, 0), (131, .invokespecial 62, 3, 9, 1, 0), (134, .aastore, 1, 8, 6, 0), (135, .iinc 1 1, 3, 0, 0, 0), (138, .goto (-21), 3, 0, 0, 0), (141, .return_, 1, 0, 0, 0)]
def cL1 : List MI := cL1_0 ++ (cL1_1)
/-- DoorPaints$Reader.<init>()V -/
def cL2 : List MI := [(0, .aload_n 0, 1, 0, 0, 0), (1, .invokespecial 3, 3, 9999, 1, 0), (4, .aload_n 0, 1, 0, 0, 0), (5, .new 9, 3, 2, 0, 0), (8, .dup, 1, 0, 0, 0), (9, .invokespecial 11, 3, 3, 1, 0), (12, .putfield 12, 3, 1, 0, 0), (15, .aload_n 0, 1, 0, 0, 0), (16, .new 18, 3, 6, 0, 0), (19, .dup, 1, 0, 0, 0), (20, .invokespecial 20, 3, 7, 1, 0), (23, .putfield 21, 3, 1, 1, 0), (26, .return_, 1, 0, 0, 0)]
/-- DoorPaints$Told.<init>()V -/
def cL3 : List MI := [(0, .aload_n 0, 1, 0, 0, 0), (1, .invokespecial 3, 3, 9999, 1, 0), (4, .aload_n 0, 1, 0, 0, 0), (5, .new 9, 3, 3, 0, 0), (8, .dup, 1, 0, 0, 0), (9, .invokespecial 11, 3, 4, 1, 0), (12, .putfield 12, 3, 2, 0, 0), (15, .aload_n 0, 1, 0, 0, 0), (16, .bipush 8, 2, 0, 0, 0), (18, .newarray .int, 2, 0, 0, 0), (20, .putfield 18, 3, 2, 1, 0), (23, .aload_n 0, 1, 0, 0, 0), (24, .bipush 6, 2, 0, 0, 0), (26, .newarray .int, 2, 0, 0, 0), (28, .putfield 22, 3, 2, 3, 0), (31, .aload_n 0, 1, 0, 0, 0), (32, .bipush 6, 2, 0, 0, 0), (34, .newarray .int, 2, 0, 0, 0), (36, .putfield 25, 3, 2, 4, 0), (39, .aload_n 0, 1, 0, 0, 0), (40, .bipush 6, 2, 0, 0, 0), (42, .newarray .int, 2, 0, 0, 0), (44, .putfield 28, 3, 2, 5, 0), (47, .return_, 1, 0, 0, 0)]
/-- DoorPaints$Town.<init>()V -/
def cL4 : List MI := [(0, .aload_n 0, 1, 0, 0, 0), (1, .invokespecial 3, 3, 9999, 1, 0), (4, .aload_n 0, 1, 0, 0, 0), (5, .iconst 4, 1, 0, 0, 0), (6, .anewarray 9, 3, 3, 0, 0), (9, .putfield 11, 3, 3, 0, 0), (12, .iconst 0, 1, 0, 0, 0), (13, .istore_n 1, 1, 0, 0, 0), (14, .iload_n 1, 1, 0, 0, 0), (15, .iconst 4, 1, 0, 0, 0), (16, .if_icmp .ge 22, 3, 0, 0, 0), (19, .aload_n 0, 1, 0, 0, 0), (20, .getfield 11, 3, 3, 0, 0), (23, .iload_n 1, 1, 0, 0, 0), (24, .new 9, 3, 4, 0, 0), (27, .dup, 1, 0, 0, 0), (28, .invokespecial 17, 3, 5, 1, 0), (31, .aastore, 1, 4, 3, 0), (32, .iinc 1 1, 3, 0, 0, 0), (35, .goto (-21), 3, 0, 0, 0), (38, .aload_n 0, 1, 0, 0, 0), (39, .iconst 4, 1, 0, 0, 0), (40, .anewarray 18, 3, 4, 0, 0), (43, .putfield 20, 3, 3, 1, 0), (46, .iconst 0, 1, 0, 0, 0), (47, .istore_n 1, 1, 0, 0, 0), (48, .iload_n 1, 1, 0, 0, 0), (49, .iconst 4, 1, 0, 0, 0), (50, .if_icmp .ge 22, 3, 0, 0, 0), (53, .aload_n 0, 1, 0, 0, 0), (54, .getfield 20, 3, 3, 1, 0), (57, .iload_n 1, 1, 0, 0, 0), (58, .new 18, 3, 5, 0, 0), (61, .dup, 1, 0, 0, 0), (62, .invokespecial 24, 3, 6, 1, 0), (65, .aastore, 1, 5, 4, 0), (66, .iinc 1 1, 3, 0, 0, 0), (69, .goto (-21), 3, 0, 0, 0), (72, .aload_n 0, 1, 0, 0, 0), (73, .bipush (-4), 2, 0, 0, 0), (75, .putfield 25, 3, 3, 4, 0), (78, .return_, 1, 0, 0, 0)]
/-- DoorPaints$Visitor.<init>()V -/
def cL5 : List MI := [(0, .aload_n 0, 1, 0, 0, 0), (1, .invokespecial 1, 3, 9999, 1, 0), (4, .return_, 1, 0, 0, 0)]
/-- DoorPaints$Door.<init>()V -/
def cL6 : List MI := [(0, .aload_n 0, 1, 0, 0, 0), (1, .invokespecial 3, 3, 9999, 1, 0), (4, .aload_n 0, 1, 0, 0, 0), (5, .bipush 6, 2, 0, 0, 0), (7, .newarray .int, 2, 0, 0, 0), (9, .putfield 9, 3, 5, 0, 0), (12, .return_, 1, 0, 0, 0)]
/-- DoorPaints$Tape.<init>()V -/
def cL7 : List MI := [(0, .aload_n 0, 1, 0, 0, 0), (1, .invokespecial 3, 3, 9999, 1, 0), (4, .aload_n 0, 1, 0, 0, 0), (5, .sipush 160, 3, 0, 0, 0), (8, .newarray .int, 2, 0, 0, 0), (10, .putfield 9, 3, 6, 0, 0), (13, .return_, 1, 0, 0, 0)]
/-- DoorPaints$Search.<init>()V -/
def cL8 : List MI := [(0, .aload_n 0, 1, 0, 0, 0), (1, .invokespecial 3, 3, 9999, 1, 0), (4, .aload_n 0, 1, 0, 0, 0), (5, .new 9, 3, 3, 0, 0), (8, .dup, 1, 0, 0, 0), (9, .invokespecial 11, 3, 4, 1, 0), (12, .putfield 12, 3, 7, 0, 0), (15, .aload_n 0, 1, 0, 0, 0), (16, .iconst 3, 1, 0, 0, 0), (17, .newarray .int, 2, 0, 0, 0), (19, .putfield 18, 3, 7, 1, 0), (22, .aload_n 0, 1, 0, 0, 0), (23, .iconst 3, 1, 0, 0, 0), (24, .newarray .int, 2, 0, 0, 0), (26, .putfield 22, 3, 7, 2, 0), (29, .return_, 1, 0, 0, 0)]
/-- DoorPaints$Sheet.<init>()V -/
def cL9 : List MI := [(0, .aload_n 0, 1, 0, 0, 0), (1, .invokespecial 3, 3, 9999, 1, 0), (4, .aload_n 0, 1, 0, 0, 0), (5, .bipush 40, 2, 0, 0, 0), (7, .newarray .int, 2, 0, 0, 0), (9, .putfield 9, 3, 8, 0, 0), (12, .aload_n 0, 1, 0, 0, 0), (13, .bipush (-4), 2, 0, 0, 0), (15, .putfield 15, 3, 8, 2, 0), (18, .return_, 1, 0, 0, 0)]
/-- DoorPaints.feed(I)I -/
def cL10 : List MI := [(0, .iload_n 1, 1, 0, 0, 0), (1, .ifCond .lt 9, 3, 0, 0, 0), (4, .iload_n 1, 1, 0, 0, 0), (5, .bipush 127, 2, 0, 0, 0), (7, .if_icmp .le 5, 3, 0, 0, 0), (10, .iconst (-1), 1, 0, 0, 0), (11, .ireturn, 1, 0, 0, 0), (12, .aload_n 0, 1, 0, 0, 0), (13, .getfield 20, 3, 0, 1, 0), (16, .iload_n 1, 1, 0, 0, 0), (17, .invokevirtual 63, 3, 11, 2, 6), (20, .ifCond .eq 13, 3, 0, 0, 0), (23, .aload_n 0, 1, 0, 0, 0), (24, .getfield 20, 3, 0, 1, 0), (27, .getfield 69, 3, 6, 1, 0), (30, .goto 5, 3, 0, 0, 0), (33, .bipush (-3), 2, 0, 0, 0), (35, .ireturn, 1, 0, 0, 0)]
/-- DoorPaints$Tape.append(I)Z -/
def cL11 : List MI := [(0, .aload_n 0, 1, 0, 0, 0), (1, .getfield 15, 3, 6, 1, 0), (4, .sipush 160, 3, 0, 0, 0), (7, .if_icmp .lt 5, 3, 0, 0, 0), (10, .iconst 0, 1, 0, 0, 0), (11, .ireturn, 1, 0, 0, 0), (12, .aload_n 0, 1, 0, 0, 0), (13, .getfield 9, 3, 6, 0, 0), (16, .aload_n 0, 1, 0, 0, 0), (17, .getfield 15, 3, 6, 1, 0), (20, .iload_n 1, 1, 0, 0, 0), (21, .iastore, 1, 0, 0, 0), (22, .aload_n 0, 1, 0, 0, 0), (23, .dup, 1, 0, 0, 0), (24, .getfield 15, 3, 6, 1, 0), (27, .iconst 1, 1, 0, 0, 0), (28, .iadd, 1, 0, 0, 0), (29, .putfield 15, 3, 6, 1, 0), (32, .iconst 1, 1, 0, 0, 0), (33, .ireturn, 1, 0, 0, 0)]
/-- DoorPaints.end(I)I -/
def cL12 : List MI := [(0, .iload_n 1, 1, 0, 0, 0), (1, .ifCond .lt 14, 3, 0, 0, 0), (4, .iload_n 1, 1, 0, 0, 0), (5, .aload_n 0, 1, 0, 0, 0), (6, .getfield 20, 3, 0, 1, 0), (9, .getfield 69, 3, 6, 1, 0), (12, .if_icmp .le 5, 3, 0, 0, 0), (15, .iconst (-1), 1, 0, 0, 0), (16, .ireturn, 1, 0, 0, 0), (17, .aload_n 0, 1, 0, 0, 0), (18, .getfield 20, 3, 0, 1, 0), (21, .getfield 69, 3, 6, 1, 0), (24, .istore_n 2, 1, 0, 0, 0), (25, .aload_n 0, 1, 0, 0, 0), (26, .getfield 20, 3, 0, 1, 0), (29, .iload_n 1, 1, 0, 0, 0), (30, .putfield 69, 3, 6, 1, 0), (33, .iload_n 2, 1, 0, 0, 0), (34, .ireturn, 1, 0, 0, 0)]
/-- DoorPaints.text()I -/
def cL13 : List MI := [(0, .aload_n 0, 1, 0, 0, 0), (1, .getfield 10, 3, 0, 0, 0), (4, .invokevirtual 73, 3, 14, 1, 1), (7, .istore_n 1, 1, 0, 0, 0), (8, .aload_n 0, 1, 0, 0, 0), (9, .getfield 20, 3, 0, 1, 0), (12, .iconst 0, 1, 0, 0, 0), (13, .putfield 69, 3, 6, 1, 0), (16, .aload_n 0, 1, 0, 0, 0), (17, .aload_n 0, 1, 0, 0, 0), (18, .getfield 10, 3, 0, 0, 0), (21, .getfield 77, 3, 1, 2, 0), (24, .putfield 80, 3, 0, 9, 0), (27, .aload_n 0, 1, 0, 0, 0), (28, .getfield 80, 3, 0, 9, 0), (31, .ifCond .ne 37, 3, 0, 0, 0), (34, .aload_n 0, 1, 0, 0, 0), (35, .getfield 26, 3, 0, 2, 0), (38, .aload_n 0, 1, 0, 0, 0), (39, .getfield 10, 3, 0, 0, 0), (42, .getfield 83, 3, 1, 0, 0), (45, .invokevirtual 86, 3, 51, 2, 2), (48, .iconst 0, 1, 0, 0, 0), (49, .istore_n 2, 1, 0, 0, 0), (50, .iload_n 2, 1, 0, 0, 0), (51, .iconst 2, 1, 0, 0, 0), (52, .if_icmp .ge 16, 3, 0, 0, 0), (55, .aload_n 0, 1, 0, 0, 0), (56, .getfield 34, 3, 0, 4, 0), (59, .iload_n 2, 1, 0, 0, 0), (60, .iconst 0, 1, 0, 0, 0), (61, .bastore, 1, 0, 0, 0), (62, .iinc 2 1, 3, 0, 0, 0), (65, .goto (-15), 3, 0, 0, 0), (68, .iload_n 1, 1, 0, 0, 0), (69, .ireturn, 1, 0, 0, 0)]
/-- DoorPaints$Reader.readAll()I -/
def cL14_0 : List MI := [(0, .aload_n 0, 1, 0, 0, 0), (1, .iconst 0, 1, 0, 0, 0), (2, .putfield 25, 3, 1, 2, 0), (5, .aload_n 0, 1, 0, 0, 0), (6, .iconst 0, 1, 0, 0, 0), (7, .putfield 29, 3, 1, 4, 0), (10, .aload_n 0, 1, 0, 0, 0), (11, .getfield 12, 3, 1, 0, 0), (14, .invokevirtual 33, 3, 15, 1, 2), (17, .aload_n 0, 1, 0, 0, 0), (18, .getfield 21, 3, 1, 1, 0), (21, .invokevirtual 36, 3, 18, 1, 6), (24, .iconst 0, 1, 0, 0, 0), (25, .istore_n 1, 1, 0, 0, 0), (26, .iload_n 1, 1, 0, 0, 0), (27, .sipush 160, 3, 0, 0, 0), (30, .if_icmp .ge 30, 3, 0, 0, 0), (33, .aload_n 0, 1, 0, 0, 0), (34, .getfield 25, 3, 1, 2, 0), (37, .ifCond .ne 23, 3, 0, 0, 0), (40, .aload_n 0, 1, 0, 0, 0), (41, .getfield 21, 3, 1, 1, 0), (44, .getfield 39, 3, 6, 2, 0), (47, .ifCond .eq 13, 3, 0, 0, 0), (50, .aload_n 0, 1, 0, 0, 0), (51, .invokevirtual 42, 3, 22, 1, 1), (54, .iinc 1 1, 3, 0, 0, 0), (57, .goto (-31), 3, 0, 0, 0), (60, .aload_n 0, 1, 0, 0, 0), (61, .getfield 25, 3, 1, 2, 0), (64, .ifCond .ne 30, 3, 0, 0, 0), (67, .aload_n 0, 1, 0, 0, 0), (68, .getfield 12, 3, 1, 0, 0), (71, .invokevirtual 45, 3, 47, 1, 2), (74, .ifCond .ne 20, 3, 0, 0, 0), (77, .aload_n 0, 1, 0, 0, 0), (78, .bipush 6, 2, 0, 0, 0), (80, .putfield 25, 3, 1, 2, 0), (83, .aload_n 0, 1, 0, 0, 0), (84, .aload_n 0, 1, 0, 0, 0), (85, .getfield 21, 3, 1, 1, 0), (88, .getfield 49, 3, 6, 1, 0), (91, .putfield 52, 3, 1, 3, 0), (94, .aload_n 0, 1, 0, 0, 0), (95, .getfield 25, 3, 1, 2, 0), (98, .ifCond .ne 7, 3, 0, 0, 0), (101, .iload_n 1, 1, 0, 0, 0), (102, .goto 10, 3, 0, 0, 0), (105, .bipush (-10), 2, 0, 0, 0), (107, .aload_n 0, 1, 0, 0, 0)]
def cL14_1 : List MI := [(108, .getfield 52, 3, 1, 3, 0), (111, .isub, 1, 0, 0, 0), (112, .ireturn, 1, 0, 0, 0)]
def cL14 : List MI := cL14_0 ++ (cL14_1)
/-- DoorPaints$Told.clear()V -/
def cL15 : List MI := [(0, .aload_n 0, 1, 0, 0, 0), (1, .getfield 12, 3, 2, 0, 0), (4, .invokevirtual 42, 3, 16, 1, 3), (7, .aload_n 0, 1, 0, 0, 0), (8, .iconst 0, 1, 0, 0, 0), (9, .putfield 35, 3, 2, 2, 0), (12, .aload_n 0, 1, 0, 0, 0), (13, .iconst 0, 1, 0, 0, 0), (14, .putfield 39, 3, 2, 6, 0), (17, .return_, 1, 0, 0, 0)]
/-- DoorPaints$Town.clear()V -/
def cL16 : List MI := [(0, .aload_n 0, 1, 0, 0, 0), (1, .iconst 0, 1, 0, 0, 0), (2, .putfield 29, 3, 3, 2, 0), (5, .aload_n 0, 1, 0, 0, 0), (6, .iconst 0, 1, 0, 0, 0), (7, .putfield 36, 3, 3, 3, 0), (10, .iconst 0, 1, 0, 0, 0), (11, .istore_n 1, 1, 0, 0, 0), (12, .iload_n 1, 1, 0, 0, 0), (13, .iconst 4, 1, 0, 0, 0), (14, .if_icmp .ge 18, 3, 0, 0, 0), (17, .aload_n 0, 1, 0, 0, 0), (18, .getfield 20, 3, 3, 1, 0), (21, .iload_n 1, 1, 0, 0, 0), (22, .aaload, 1, 0, 0, 0), (23, .invokevirtual 42, 3, 17, 1, 5), (26, .iinc 1 1, 3, 0, 0, 0), (29, .goto (-17), 3, 0, 0, 0), (32, .return_, 1, 0, 0, 0)]
/-- DoorPaints$Door.clear()V -/
def cL17 : List MI := [(0, .aload_n 0, 1, 0, 0, 0), (1, .iconst 0, 1, 0, 0, 0), (2, .putfield 15, 3, 5, 1, 0), (5, .aload_n 0, 1, 0, 0, 0), (6, .iconst 0, 1, 0, 0, 0), (7, .putfield 19, 3, 5, 2, 0), (10, .aload_n 0, 1, 0, 0, 0), (11, .iconst 0, 1, 0, 0, 0), (12, .putfield 22, 3, 5, 3, 0), (15, .return_, 1, 0, 0, 0)]
/-- DoorPaints$Tape.rewind()V -/
def cL18 : List MI := [(0, .aload_n 0, 1, 0, 0, 0), (1, .iconst 0, 1, 0, 0, 0), (2, .putfield 19, 3, 6, 4, 0), (5, .aload_n 0, 1, 0, 0, 0), (6, .invokevirtual 22, 3, 19, 1, 6), (9, .return_, 1, 0, 0, 0)]
/-- DoorPaints$Tape.advance()V -/
def cL19_0 : List MI := [(0, .aload_n 0, 1, 0, 0, 0), (1, .getfield 19, 3, 6, 4, 0), (4, .aload_n 0, 1, 0, 0, 0), (5, .getfield 15, 3, 6, 1, 0), (8, .if_icmp .ge 30, 3, 0, 0, 0), (11, .aload_n 0, 1, 0, 0, 0), (12, .getfield 9, 3, 6, 0, 0), (15, .aload_n 0, 1, 0, 0, 0), (16, .getfield 19, 3, 6, 4, 0), (19, .iaload, 1, 0, 0, 0), (20, .bipush 32, 2, 0, 0, 0), (22, .if_icmp .ne 16, 3, 0, 0, 0), (25, .aload_n 0, 1, 0, 0, 0), (26, .dup, 1, 0, 0, 0), (27, .getfield 19, 3, 6, 4, 0), (30, .iconst 1, 1, 0, 0, 0), (31, .iadd, 1, 0, 0, 0), (32, .putfield 19, 3, 6, 4, 0), (35, .goto (-35), 3, 0, 0, 0), (38, .aload_n 0, 1, 0, 0, 0), (39, .aload_n 0, 1, 0, 0, 0), (40, .getfield 19, 3, 6, 4, 0), (43, .putfield 25, 3, 6, 3, 0), (46, .aload_n 0, 1, 0, 0, 0), (47, .getfield 19, 3, 6, 4, 0), (50, .aload_n 0, 1, 0, 0, 0), (51, .getfield 15, 3, 6, 1, 0), (54, .if_icmp .lt 11, 3, 0, 0, 0), (57, .aload_n 0, 1, 0, 0, 0), (58, .iconst 0, 1, 0, 0, 0), (59, .putfield 28, 3, 6, 2, 0), (62, .goto 73, 3, 0, 0, 0), (65, .aload_n 0, 1, 0, 0, 0), (66, .bipush 97, 2, 0, 0, 0), (68, .bipush 122, 2, 0, 0, 0), (70, .invokevirtual 31, 3, 20, 3, 6), (73, .ifCond .eq 11, 3, 0, 0, 0), (76, .aload_n 0, 1, 0, 0, 0), (77, .iconst 1, 1, 0, 0, 0), (78, .putfield 28, 3, 6, 2, 0), (81, .goto 54, 3, 0, 0, 0), (84, .aload_n 0, 1, 0, 0, 0), (85, .bipush 48, 2, 0, 0, 0), (87, .bipush 57, 2, 0, 0, 0), (89, .invokevirtual 31, 3, 20, 3, 6), (92, .ifCond .eq 10, 3, 0, 0, 0), (95, .aload_n 0, 1, 0, 0, 0), (96, .invokevirtual 35, 3, 21, 1, 6), (99, .goto 36, 3, 0, 0, 0), (102, .aload_n 0, 1, 0, 0, 0)]
def cL19_1 : List MI := [(103, .aload_n 0, 1, 0, 0, 0), (104, .getfield 9, 3, 6, 0, 0), (107, .aload_n 0, 1, 0, 0, 0), (108, .getfield 19, 3, 6, 4, 0), (111, .iaload, 1, 0, 0, 0), (112, .bipush 59, 2, 0, 0, 0), (114, .if_icmp .ne 7, 3, 0, 0, 0), (117, .iconst 3, 1, 0, 0, 0), (118, .goto 4, 3, 0, 0, 0), (121, .iconst 4, 1, 0, 0, 0), (122, .putfield 28, 3, 6, 2, 0), (125, .aload_n 0, 1, 0, 0, 0), (126, .dup, 1, 0, 0, 0), (127, .getfield 19, 3, 6, 4, 0), (130, .iconst 1, 1, 0, 0, 0), (131, .iadd, 1, 0, 0, 0), (132, .putfield 19, 3, 6, 4, 0), (135, .return_, 1, 0, 0, 0)]
def cL19 : List MI := cL19_0 ++ (cL19_1)
/-- DoorPaints$Tape.skip(II)Z -/
def cL20 : List MI := [(0, .aload_n 0, 1, 0, 0, 0), (1, .getfield 19, 3, 6, 4, 0), (4, .aload_n 0, 1, 0, 0, 0), (5, .getfield 15, 3, 6, 1, 0), (8, .if_icmp .ge 42, 3, 0, 0, 0), (11, .aload_n 0, 1, 0, 0, 0), (12, .getfield 9, 3, 6, 0, 0), (15, .aload_n 0, 1, 0, 0, 0), (16, .getfield 19, 3, 6, 4, 0), (19, .iaload, 1, 0, 0, 0), (20, .iload_n 1, 1, 0, 0, 0), (21, .if_icmp .lt 29, 3, 0, 0, 0), (24, .aload_n 0, 1, 0, 0, 0), (25, .getfield 9, 3, 6, 0, 0), (28, .aload_n 0, 1, 0, 0, 0), (29, .getfield 19, 3, 6, 4, 0), (32, .iaload, 1, 0, 0, 0), (33, .iload_n 2, 1, 0, 0, 0), (34, .if_icmp .gt 16, 3, 0, 0, 0), (37, .aload_n 0, 1, 0, 0, 0), (38, .dup, 1, 0, 0, 0), (39, .getfield 19, 3, 6, 4, 0), (42, .iconst 1, 1, 0, 0, 0), (43, .iadd, 1, 0, 0, 0), (44, .putfield 19, 3, 6, 4, 0), (47, .goto (-47), 3, 0, 0, 0), (50, .aload_n 0, 1, 0, 0, 0), (51, .getfield 19, 3, 6, 4, 0), (54, .aload_n 0, 1, 0, 0, 0), (55, .getfield 25, 3, 6, 3, 0), (58, .if_icmp .le 7, 3, 0, 0, 0), (61, .iconst 1, 1, 0, 0, 0), (62, .goto 4, 3, 0, 0, 0), (65, .iconst 0, 1, 0, 0, 0), (66, .ireturn, 1, 0, 0, 0)]
/-- DoorPaints$Tape.takeNumber()V -/
def cL21 : List MI := [(0, .aload_n 0, 1, 0, 0, 0), (1, .aload_n 0, 1, 0, 0, 0), (2, .getfield 19, 3, 6, 4, 0), (5, .aload_n 0, 1, 0, 0, 0), (6, .getfield 25, 3, 6, 3, 0), (9, .isub, 1, 0, 0, 0), (10, .iconst 2, 1, 0, 0, 0), (11, .if_icmp .le 7, 3, 0, 0, 0), (14, .iconst 4, 1, 0, 0, 0), (15, .goto 4, 3, 0, 0, 0), (18, .iconst 2, 1, 0, 0, 0), (19, .putfield 28, 3, 6, 2, 0), (22, .aload_n 0, 1, 0, 0, 0), (23, .iconst 0, 1, 0, 0, 0), (24, .putfield 38, 3, 6, 5, 0), (27, .aload_n 0, 1, 0, 0, 0), (28, .getfield 25, 3, 6, 3, 0), (31, .istore_n 1, 1, 0, 0, 0), (32, .iload_n 1, 1, 0, 0, 0), (33, .aload_n 0, 1, 0, 0, 0), (34, .getfield 19, 3, 6, 4, 0), (37, .if_icmp .ge 38, 3, 0, 0, 0), (40, .aload_n 0, 1, 0, 0, 0), (41, .getfield 28, 3, 6, 2, 0), (44, .iconst 2, 1, 0, 0, 0), (45, .if_icmp .ne 30, 3, 0, 0, 0), (48, .aload_n 0, 1, 0, 0, 0), (49, .aload_n 0, 1, 0, 0, 0), (50, .getfield 38, 3, 6, 5, 0), (53, .bipush 10, 2, 0, 0, 0), (55, .imul, 1, 0, 0, 0), (56, .aload_n 0, 1, 0, 0, 0), (57, .getfield 9, 3, 6, 0, 0), (60, .iload_n 1, 1, 0, 0, 0), (61, .iaload, 1, 0, 0, 0), (62, .iadd, 1, 0, 0, 0), (63, .bipush 48, 2, 0, 0, 0), (65, .isub, 1, 0, 0, 0), (66, .putfield 38, 3, 6, 5, 0), (69, .iinc 1 1, 3, 0, 0, 0), (72, .goto (-40), 3, 0, 0, 0), (75, .return_, 1, 0, 0, 0)]
/-- DoorPaints$Reader.readLine()V -/
def cL22 : List MI := [(0, .aload_n 0, 1, 0, 0, 0), (1, .iconst 1, 1, 0, 0, 0), (2, .invokevirtual 55, 3, 23, 2, 1), (5, .ifCond .ne 4, 3, 0, 0, 0), (8, .return_, 1, 0, 0, 0), (9, .aload_n 0, 1, 0, 0, 0), (10, .getfield 21, 3, 1, 1, 0), (13, .ldc 59, 2, 1, 1, 0), (15, .invokevirtual 61, 3, 25, 2, 6), (18, .ifCond .eq 10, 3, 0, 0, 0), (21, .aload_n 0, 1, 0, 0, 0), (22, .invokevirtual 65, 3, 33, 1, 1), (25, .goto 49, 3, 0, 0, 0), (28, .aload_n 0, 1, 0, 0, 0), (29, .getfield 21, 3, 1, 1, 0), (32, .ldc 68, 2, 1, 3, 0), (34, .invokevirtual 61, 3, 25, 2, 6), (37, .ifCond .eq 10, 3, 0, 0, 0), (40, .aload_n 0, 1, 0, 0, 0), (41, .invokevirtual 70, 3, 37, 1, 1), (44, .goto 30, 3, 0, 0, 0), (47, .aload_n 0, 1, 0, 0, 0), (48, .getfield 21, 3, 1, 1, 0), (51, .ldc 73, 2, 1, 5, 0), (53, .invokevirtual 61, 3, 25, 2, 6), (56, .ifCond .eq 10, 3, 0, 0, 0), (59, .aload_n 0, 1, 0, 0, 0), (60, .invokevirtual 75, 3, 40, 1, 1), (63, .goto 11, 3, 0, 0, 0), (66, .aload_n 0, 1, 0, 0, 0), (67, .aload_n 0, 1, 0, 0, 0), (68, .invokevirtual 78, 3, 44, 1, 1), (71, .invokevirtual 82, 3, 45, 2, 1), (74, .return_, 1, 0, 0, 0)]
/-- DoorPaints$Reader.stands(I)Z -/
def cL23 : List MI := [(0, .aload_n 0, 1, 0, 0, 0), (1, .getfield 21, 3, 1, 1, 0), (4, .getfield 39, 3, 6, 2, 0), (7, .iload_n 1, 1, 0, 0, 0), (8, .if_icmp .ne 5, 3, 0, 0, 0), (11, .iconst 1, 1, 0, 0, 0), (12, .ireturn, 1, 0, 0, 0), (13, .aload_n 0, 1, 0, 0, 0), (14, .aload_n 0, 1, 0, 0, 0), (15, .getfield 21, 3, 1, 1, 0), (18, .getfield 39, 3, 6, 2, 0), (21, .iconst 4, 1, 0, 0, 0), (22, .if_icmp .ne 7, 3, 0, 0, 0), (25, .iconst 1, 1, 0, 0, 0), (26, .goto 4, 3, 0, 0, 0), (29, .iconst 2, 1, 0, 0, 0), (30, .invokevirtual 94, 3, 24, 2, 1), (33, .iconst 0, 1, 0, 0, 0), (34, .ireturn, 1, 0, 0, 0)]
/-- DoorPaints$Reader.fail(I)V -/
def cL24 : List MI := [(0, .aload_n 0, 1, 0, 0, 0), (1, .iload_n 1, 1, 0, 0, 0), (2, .putfield 25, 3, 1, 2, 0), (5, .aload_n 0, 1, 0, 0, 0), (6, .aload_n 0, 1, 0, 0, 0), (7, .getfield 21, 3, 1, 1, 0), (10, .getfield 147, 3, 6, 3, 0), (13, .putfield 52, 3, 1, 3, 0), (16, .return_, 1, 0, 0, 0)]
/-- DoorPaints$Tape.nameIs(Ljava/lang/String;)Z -/
def cL25 : List MI := [(0, .aload_n 0, 1, 0, 0, 0), (1, .getfield 28, 3, 6, 2, 0), (4, .iconst 1, 1, 0, 0, 0), (5, .if_icmp .ne 19, 3, 0, 0, 0), (8, .aload_n 0, 1, 0, 0, 0), (9, .getfield 19, 3, 6, 4, 0), (12, .aload_n 0, 1, 0, 0, 0), (13, .getfield 25, 3, 6, 3, 0), (16, .isub, 1, 0, 0, 0), (17, .aload_n 1, 1, 0, 0, 0), (18, .invokevirtual 41, 3, 26, 1, 99), (21, .if_icmp .eq 5, 3, 0, 0, 0), (24, .iconst 0, 1, 0, 0, 0), (25, .ireturn, 1, 0, 0, 0), (26, .iconst 0, 1, 0, 0, 0), (27, .istore_n 2, 1, 0, 0, 0), (28, .iload_n 2, 1, 0, 0, 0), (29, .aload_n 1, 1, 0, 0, 0), (30, .invokevirtual 41, 3, 26, 1, 99), (33, .if_icmp .ge 30, 3, 0, 0, 0), (36, .aload_n 0, 1, 0, 0, 0), (37, .getfield 9, 3, 6, 0, 0), (40, .aload_n 0, 1, 0, 0, 0), (41, .getfield 25, 3, 6, 3, 0), (44, .iload_n 2, 1, 0, 0, 0), (45, .iadd, 1, 0, 0, 0), (46, .iaload, 1, 0, 0, 0), (47, .aload_n 1, 1, 0, 0, 0), (48, .iload_n 2, 1, 0, 0, 0), (49, .invokevirtual 46, 3, 28, 2, 99), (52, .if_icmp .eq 5, 3, 0, 0, 0), (55, .iconst 0, 1, 0, 0, 0), (56, .ireturn, 1, 0, 0, 0), (57, .iinc 2 1, 3, 0, 0, 0), (60, .goto (-32), 3, 0, 0, 0), (63, .iconst 1, 1, 0, 0, 0), (64, .ireturn, 1, 0, 0, 0)]
/-- java/lang/String.length()I -/
def cL26 : List MI := [(0, .aload_n 0, 1, 0, 0, 0), (1, .getfield 9, 3, 99, 0, 0), (4, .arraylength, 1, 0, 0, 0), (5, .aload_n 0, 1, 0, 0, 0), (6, .invokevirtual 335, 3, 27, 1, 99), (9, .ishr, 1, 0, 0, 0), (10, .ireturn, 1, 0, 0, 0)]
/-- java/lang/String.coder()B -/
def cL27 : List MI := [(0, .getstatic 38, 3, 0, 0, 1), (3, .ifCond .eq 10, 3, 0, 0, 0), (6, .aload_n 0, 1, 0, 0, 0), (7, .getfield 15, 3, 99, 1, 0), (10, .goto 4, 3, 0, 0, 0), (13, .iconst 1, 1, 0, 0, 0), (14, .ireturn, 1, 0, 0, 0)]
/-- java/lang/String.charAt(I)C -/
def cL28 : List MI := [(0, .aload_n 0, 1, 0, 0, 0), (1, .invokevirtual 492, 3, 29, 1, 99), (4, .ifCond .eq 12, 3, 0, 0, 0), (7, .aload_n 0, 1, 0, 0, 0), (8, .getfield 9, 3, 99, 0, 0), (11, .iload_n 1, 1, 0, 0, 0), (12, .invokestatic 495, 3, 30, 2, 0), (15, .ireturn, 1, 0, 0, 0), (16, .aload_n 0, 1, 0, 0, 0), (17, .getfield 9, 3, 99, 0, 0), (20, .iload_n 1, 1, 0, 0, 0), (24, .ireturn, 1, 0, 0, 0)]
end
section
/-! TABLES: the methods' listings (written by a program) -/
/-- java/lang/String.isLatin1()Z -/
def cL29 : List MI := [(0, .getstatic 38, 3, 0, 0, 1), (3, .ifCond .eq 14, 3, 0, 0, 0), (6, .aload_n 0, 1, 0, 0, 0), (7, .getfield 15, 3, 99, 1, 0), (10, .ifCond .ne 7, 3, 0, 0, 0), (13, .iconst 1, 1, 0, 0, 0), (14, .goto 4, 3, 0, 0, 0), (17, .iconst 0, 1, 0, 0, 0), (18, .ireturn, 1, 0, 0, 0)]
/-- java/lang/StringLatin1.charAt([BI)C -/
def cL30 : List MI := [(0, .iload_n 1, 1, 0, 0, 0), (1, .aload_n 0, 1, 0, 0, 0), (2, .arraylength, 1, 0, 0, 0), (3, .invokestatic 9, 3, 31, 2, 0), (6, .aload_n 0, 1, 0, 0, 0), (7, .iload_n 1, 1, 0, 0, 0), (8, .baload, 1, 0, 0, 0), (9, .sipush 255, 3, 0, 0, 0), (12, .iand, 1, 0, 0, 0), (13, .i2c, 1, 0, 0, 0), (14, .ireturn, 1, 0, 0, 0)]
/-- java/lang/String.checkIndex(II)V -/
def cL31 : List MI := [(0, .iload_n 0, 1, 0, 0, 0), (1, .iload_n 1, 1, 0, 0, 0), (2, .getstatic 1053, 3, 1, 100, 0), (5, .invokestatic 1059, 3, 32, 3, 0), (8, .pop, 1, 0, 0, 0), (9, .return_, 1, 0, 0, 0)]
/-- jdk/internal/util/Preconditions.checkIndex(IILjava/util/function/BiFunction;)I -/
def cL32 : List MI := [(0, .iload_n 0, 1, 0, 0, 0), (1, .ifCond .lt 8, 3, 0, 0, 0), (4, .iload_n 0, 1, 0, 0, 0), (5, .iload_n 1, 1, 0, 0, 0), (6, .if_icmp .lt 10, 3, 0, 0, 0), (9, .aload_n 2, 1, 0, 0, 0), (10, .iload_n 0, 1, 0, 0, 0), (11, .iload_n 1, 1, 0, 0, 0), (16, .iload_n 0, 1, 0, 0, 0), (17, .ireturn, 1, 0, 0, 0)]
/-- DoorPaints$Reader.readDoor()V -/
def cL33_0 : List MI := [(0, .aload_n 0, 1, 0, 0, 0), (1, .getfield 12, 3, 1, 0, 0), (4, .getfield 97, 3, 2, 0, 0), (7, .getfield 122, 3, 3, 3, 0), (10, .iconst 4, 1, 0, 0, 0), (11, .if_icmp .lt 9, 3, 0, 0, 0), (14, .aload_n 0, 1, 0, 0, 0), (15, .iconst 5, 1, 0, 0, 0), (16, .invokevirtual 94, 3, 24, 2, 1), (19, .return_, 1, 0, 0, 0), (20, .aload_n 0, 1, 0, 0, 0), (21, .getfield 12, 3, 1, 0, 0), (24, .getfield 97, 3, 2, 0, 0), (27, .getfield 125, 3, 3, 1, 0), (30, .aload_n 0, 1, 0, 0, 0), (31, .getfield 12, 3, 1, 0, 0), (34, .getfield 97, 3, 2, 0, 0), (37, .getfield 122, 3, 3, 3, 0), (40, .aaload, 1, 0, 0, 0), (41, .astore_n 1, 1, 0, 0, 0), (42, .aload_n 0, 1, 0, 0, 0), (43, .getfield 12, 3, 1, 0, 0), (46, .getfield 97, 3, 2, 0, 0), (49, .dup, 1, 0, 0, 0), (50, .getfield 122, 3, 3, 3, 0), (53, .iconst 1, 1, 0, 0, 0), (54, .iadd, 1, 0, 0, 0), (55, .putfield 122, 3, 3, 3, 0), (58, .aload_n 0, 1, 0, 0, 0), (59, .getfield 21, 3, 1, 1, 0), (62, .invokevirtual 106, 3, 19, 1, 6), (65, .iconst 0, 1, 0, 0, 0), (66, .istore_n 2, 1, 0, 0, 0), (67, .iload_n 2, 1, 0, 0, 0), (68, .bipush 6, 2, 0, 0, 0), (70, .if_icmp .gt 56, 3, 0, 0, 0), (73, .aload_n 0, 1, 0, 0, 0), (74, .getfield 21, 3, 1, 1, 0), (77, .getfield 39, 3, 6, 2, 0), (80, .iconst 2, 1, 0, 0, 0), (81, .if_icmp .ne 45, 3, 0, 0, 0), (84, .aload_n 0, 1, 0, 0, 0), (85, .iconst 5, 1, 0, 0, 0), (86, .invokevirtual 109, 3, 34, 2, 1), (89, .ifCond .ne 4, 3, 0, 0, 0), (92, .return_, 1, 0, 0, 0), (93, .aload_n 1, 1, 0, 0, 0), (94, .aload_n 0, 1, 0, 0, 0), (95, .getfield 21, 3, 1, 1, 0), (98, .getfield 112, 3, 6, 5, 0)]
def cL33_1 : List MI := [(101, .invokevirtual 129, 3, 35, 2, 5), (104, .ifCond .ne 9, 3, 0, 0, 0), (107, .aload_n 0, 1, 0, 0, 0), (108, .iconst 5, 1, 0, 0, 0), (109, .invokevirtual 94, 3, 24, 2, 1), (112, .return_, 1, 0, 0, 0), (113, .aload_n 0, 1, 0, 0, 0), (114, .getfield 21, 3, 1, 1, 0), (117, .invokevirtual 106, 3, 19, 1, 6), (120, .iinc 2 1, 3, 0, 0, 0), (123, .goto (-56), 3, 0, 0, 0), (126, .aload_n 0, 1, 0, 0, 0), (127, .invokevirtual 119, 3, 36, 1, 1), (130, .return_, 1, 0, 0, 0)]
def cL33 : List MI := cL33_0 ++ (cL33_1)
/-- DoorPaints$Reader.numberStands(I)Z -/
def cL34 : List MI := [(0, .aload_n 0, 1, 0, 0, 0), (1, .iconst 2, 1, 0, 0, 0), (2, .invokevirtual 55, 3, 23, 2, 1), (5, .ifCond .ne 5, 3, 0, 0, 0), (8, .iconst 0, 1, 0, 0, 0), (9, .ireturn, 1, 0, 0, 0), (10, .aload_n 0, 1, 0, 0, 0), (11, .getfield 21, 3, 1, 1, 0), (14, .getfield 112, 3, 6, 5, 0), (17, .iload_n 1, 1, 0, 0, 0), (18, .if_icmp .le 10, 3, 0, 0, 0), (21, .aload_n 0, 1, 0, 0, 0), (22, .iconst 3, 1, 0, 0, 0), (23, .invokevirtual 94, 3, 24, 2, 1), (26, .iconst 0, 1, 0, 0, 0), (27, .ireturn, 1, 0, 0, 0), (28, .iconst 1, 1, 0, 0, 0), (29, .ireturn, 1, 0, 0, 0)]
/-- DoorPaints$Door.addLayer(I)Z -/
def cL35 : List MI := [(0, .aload_n 0, 1, 0, 0, 0), (1, .getfield 15, 3, 5, 1, 0), (4, .bipush 6, 2, 0, 0, 0), (6, .if_icmp .lt 5, 3, 0, 0, 0), (9, .iconst 0, 1, 0, 0, 0), (10, .ireturn, 1, 0, 0, 0), (11, .aload_n 0, 1, 0, 0, 0), (12, .getfield 9, 3, 5, 0, 0), (15, .aload_n 0, 1, 0, 0, 0), (16, .getfield 15, 3, 5, 1, 0), (19, .iload_n 1, 1, 0, 0, 0), (20, .iastore, 1, 0, 0, 0), (21, .aload_n 0, 1, 0, 0, 0), (22, .dup, 1, 0, 0, 0), (23, .getfield 15, 3, 5, 1, 0), (26, .iconst 1, 1, 0, 0, 0), (27, .iadd, 1, 0, 0, 0), (28, .putfield 15, 3, 5, 1, 0), (31, .iconst 1, 1, 0, 0, 0), (32, .ireturn, 1, 0, 0, 0)]
/-- DoorPaints$Reader.endLine()V -/
def cL36 : List MI := [(0, .aload_n 0, 1, 0, 0, 0), (1, .iconst 3, 1, 0, 0, 0), (2, .invokevirtual 55, 3, 23, 2, 1), (5, .ifCond .eq 10, 3, 0, 0, 0), (8, .aload_n 0, 1, 0, 0, 0), (9, .getfield 21, 3, 1, 1, 0), (12, .invokevirtual 106, 3, 19, 1, 6), (15, .return_, 1, 0, 0, 0)]
/-- DoorPaints$Reader.readNot()V -/
def cL37 : List MI := [(0, .aload_n 0, 1, 0, 0, 0), (1, .getfield 21, 3, 1, 1, 0), (4, .invokevirtual 106, 3, 19, 1, 6), (7, .aload_n 0, 1, 0, 0, 0), (8, .iconst 3, 1, 0, 0, 0), (9, .invokevirtual 109, 3, 34, 2, 1), (12, .ifCond .ne 4, 3, 0, 0, 0), (15, .return_, 1, 0, 0, 0), (16, .aload_n 0, 1, 0, 0, 0), (17, .getfield 12, 3, 1, 0, 0), (20, .getfield 97, 3, 2, 0, 0), (23, .getfield 125, 3, 3, 1, 0), (26, .aload_n 0, 1, 0, 0, 0), (27, .getfield 21, 3, 1, 1, 0), (30, .getfield 112, 3, 6, 5, 0), (33, .aaload, 1, 0, 0, 0), (34, .astore_n 1, 1, 0, 0, 0), (35, .aload_n 0, 1, 0, 0, 0), (36, .getfield 21, 3, 1, 1, 0), (39, .invokevirtual 106, 3, 19, 1, 6), (42, .aload_n 0, 1, 0, 0, 0), (43, .iconst 5, 1, 0, 0, 0), (44, .invokevirtual 109, 3, 34, 2, 1), (47, .ifCond .ne 4, 3, 0, 0, 0), (50, .return_, 1, 0, 0, 0), (51, .aload_n 1, 1, 0, 0, 0), (52, .aload_n 0, 1, 0, 0, 0), (53, .getfield 21, 3, 1, 1, 0), (56, .getfield 112, 3, 6, 5, 0), (59, .invokevirtual 134, 3, 38, 2, 5), (62, .ifCond .eq 9, 3, 0, 0, 0), (65, .aload_n 0, 1, 0, 0, 0), (66, .iconst 4, 1, 0, 0, 0), (67, .invokevirtual 94, 3, 24, 2, 1), (70, .return_, 1, 0, 0, 0), (71, .aload_n 1, 1, 0, 0, 0), (72, .aload_n 0, 1, 0, 0, 0), (73, .getfield 21, 3, 1, 1, 0), (76, .getfield 112, 3, 6, 5, 0), (79, .iconst 1, 1, 0, 0, 0), (80, .invokevirtual 137, 3, 39, 3, 5), (83, .aload_n 0, 1, 0, 0, 0), (84, .getfield 21, 3, 1, 1, 0), (87, .invokevirtual 106, 3, 19, 1, 6), (90, .aload_n 0, 1, 0, 0, 0), (91, .invokevirtual 119, 3, 36, 1, 1), (94, .return_, 1, 0, 0, 0)]
/-- DoorPaints$Door.forbids(I)Z -/
def cL38 : List MI := [(0, .aload_n 0, 1, 0, 0, 0), (1, .getfield 19, 3, 5, 2, 0), (4, .iload_n 1, 1, 0, 0, 0), (5, .ishr, 1, 0, 0, 0), (6, .iconst 1, 1, 0, 0, 0), (7, .iand, 1, 0, 0, 0), (8, .iconst 1, 1, 0, 0, 0), (9, .if_icmp .ne 7, 3, 0, 0, 0), (12, .iconst 1, 1, 0, 0, 0), (13, .goto 4, 3, 0, 0, 0), (16, .iconst 0, 1, 0, 0, 0), (17, .ireturn, 1, 0, 0, 0)]
/-- DoorPaints$Door.forbid(IZ)V -/
def cL39 : List MI := [(0, .iconst 1, 1, 0, 0, 0), (1, .iload_n 1, 1, 0, 0, 0), (2, .ishl, 1, 0, 0, 0), (3, .istore_n 3, 1, 0, 0, 0), (4, .aload_n 0, 1, 0, 0, 0), (5, .iload_n 2, 1, 0, 0, 0), (6, .ifCond .eq 12, 3, 0, 0, 0), (9, .aload_n 0, 1, 0, 0, 0), (10, .getfield 19, 3, 5, 2, 0), (13, .iload_n 3, 1, 0, 0, 0), (14, .ior, 1, 0, 0, 0), (15, .goto 11, 3, 0, 0, 0), (18, .aload_n 0, 1, 0, 0, 0), (19, .getfield 19, 3, 5, 2, 0), (22, .iload_n 3, 1, 0, 0, 0), (23, .iconst (-1), 1, 0, 0, 0), (24, .ixor, 1, 0, 0, 0), (25, .iand, 1, 0, 0, 0), (26, .putfield 19, 3, 5, 2, 0), (29, .return_, 1, 0, 0, 0)]
/-- DoorPaints$Reader.readPlan()V -/
def cL40_0 : List MI := [(0, .aload_n 0, 1, 0, 0, 0), (1, .getfield 29, 3, 1, 4, 0), (4, .ifCond .eq 9, 3, 0, 0, 0), (7, .aload_n 0, 1, 0, 0, 0), (8, .iconst 4, 1, 0, 0, 0), (9, .invokevirtual 94, 3, 24, 2, 1), (12, .return_, 1, 0, 0, 0), (13, .aload_n 0, 1, 0, 0, 0), (14, .iconst 1, 1, 0, 0, 0), (15, .putfield 29, 3, 1, 4, 0), (18, .aload_n 0, 1, 0, 0, 0), (19, .getfield 21, 3, 1, 1, 0), (22, .invokevirtual 106, 3, 19, 1, 6), (25, .iconst 0, 1, 0, 0, 0), (26, .istore_n 1, 1, 0, 0, 0), (27, .iload_n 1, 1, 0, 0, 0), (28, .bipush 8, 2, 0, 0, 0), (30, .if_icmp .gt 69, 3, 0, 0, 0), (33, .aload_n 0, 1, 0, 0, 0), (34, .getfield 21, 3, 1, 1, 0), (37, .getfield 39, 3, 6, 2, 0), (40, .iconst 2, 1, 0, 0, 0), (41, .if_icmp .ne 58, 3, 0, 0, 0), (44, .aload_n 0, 1, 0, 0, 0), (45, .getfield 21, 3, 1, 1, 0), (48, .getfield 112, 3, 6, 5, 0), (51, .invokestatic 141, 3, 41, 1, 0), (54, .ifCond .ne 9, 3, 0, 0, 0), (57, .aload_n 0, 1, 0, 0, 0), (58, .iconst 3, 1, 0, 0, 0), (59, .invokevirtual 94, 3, 24, 2, 1), (62, .return_, 1, 0, 0, 0), (63, .aload_n 0, 1, 0, 0, 0), (64, .getfield 12, 3, 1, 0, 0), (67, .aload_n 0, 1, 0, 0, 0), (68, .getfield 21, 3, 1, 1, 0), (71, .getfield 112, 3, 6, 5, 0), (74, .invokevirtual 144, 3, 43, 2, 2), (77, .ifCond .ne 9, 3, 0, 0, 0), (80, .aload_n 0, 1, 0, 0, 0), (81, .iconst 5, 1, 0, 0, 0), (82, .invokevirtual 94, 3, 24, 2, 1), (85, .return_, 1, 0, 0, 0), (86, .aload_n 0, 1, 0, 0, 0), (87, .getfield 21, 3, 1, 1, 0), (90, .invokevirtual 106, 3, 19, 1, 6), (93, .iinc 1 1, 3, 0, 0, 0), (96, .goto (-69), 3, 0, 0, 0), (99, .aload_n 0, 1, 0, 0, 0), (100, .invokevirtual 119, 3, 36, 1, 1)]
def cL40_1 : List MI := [(103, .return_, 1, 0, 0, 0)]
def cL40 : List MI := cL40_0 ++ (cL40_1)
/-- DoorPaints.isAct(I)Z -/
def cL41 : List MI := [(0, .iload_n 0, 1, 0, 0, 0), (1, .ifCond .lt 23, 3, 0, 0, 0), (4, .iload_n 0, 1, 0, 0, 0), (5, .bipush 10, 2, 0, 0, 0), (7, .idiv, 1, 0, 0, 0), (8, .iconst 4, 1, 0, 0, 0), (9, .if_icmp .ge 15, 3, 0, 0, 0), (12, .iload_n 0, 1, 0, 0, 0), (13, .bipush 10, 2, 0, 0, 0), (15, .irem, 1, 0, 0, 0), (16, .iconst 4, 1, 0, 0, 0), (17, .if_icmp .ge 7, 3, 0, 0, 0), (20, .iconst 1, 1, 0, 0, 0), (21, .goto 4, 3, 0, 0, 0), (24, .iconst 0, 1, 0, 0, 0), (25, .istore_n 1, 1, 0, 0, 0), (26, .iload_n 1, 1, 0, 0, 0), (27, .ifCond .ne 10, 3, 0, 0, 0), (30, .iload_n 0, 1, 0, 0, 0), (31, .invokestatic 320, 3, 42, 1, 0), (34, .ifCond .eq 7, 3, 0, 0, 0), (37, .iconst 1, 1, 0, 0, 0), (38, .goto 4, 3, 0, 0, 0), (41, .iconst 0, 1, 0, 0, 0), (42, .ireturn, 1, 0, 0, 0)]
/-- DoorPaints.isSkyAct(I)Z -/
def cL42 : List MI := [(0, .iload_n 0, 1, 0, 0, 0), (1, .bipush 90, 2, 0, 0, 0), (3, .if_icmp .lt 13, 3, 0, 0, 0), (6, .iload_n 0, 1, 0, 0, 0), (7, .bipush 92, 2, 0, 0, 0), (9, .if_icmp .gt 7, 3, 0, 0, 0), (12, .iconst 1, 1, 0, 0, 0), (13, .goto 4, 3, 0, 0, 0), (16, .iconst 0, 1, 0, 0, 0), (17, .ireturn, 1, 0, 0, 0)]
/-- DoorPaints$Told.addAct(I)Z -/
def cL43 : List MI := [(0, .aload_n 0, 1, 0, 0, 0), (1, .getfield 35, 3, 2, 2, 0), (4, .bipush 8, 2, 0, 0, 0), (6, .if_icmp .lt 5, 3, 0, 0, 0), (9, .iconst 0, 1, 0, 0, 0), (10, .ireturn, 1, 0, 0, 0), (11, .aload_n 0, 1, 0, 0, 0), (12, .getfield 18, 3, 2, 1, 0), (15, .aload_n 0, 1, 0, 0, 0), (16, .getfield 35, 3, 2, 2, 0), (19, .iload_n 1, 1, 0, 0, 0), (20, .iastore, 1, 0, 0, 0), (21, .aload_n 0, 1, 0, 0, 0), (22, .dup, 1, 0, 0, 0), (23, .getfield 35, 3, 2, 2, 0), (26, .iconst 1, 1, 0, 0, 0), (27, .iadd, 1, 0, 0, 0), (28, .putfield 35, 3, 2, 2, 0), (31, .iconst 1, 1, 0, 0, 0), (32, .ireturn, 1, 0, 0, 0)]
/-- DoorPaints$Reader.kindNamed()I -/
def cL44 : List MI := [(0, .aload_n 0, 1, 0, 0, 0), (1, .getfield 21, 3, 1, 1, 0), (4, .ldc 86, 2, 1, 7, 0), (6, .invokevirtual 61, 3, 25, 2, 6), (9, .ifCond .eq 5, 3, 0, 0, 0), (12, .iconst 0, 1, 0, 0, 0), (13, .ireturn, 1, 0, 0, 0), (14, .aload_n 0, 1, 0, 0, 0), (15, .getfield 21, 3, 1, 1, 0), (18, .ldc 88, 2, 1, 9, 0), (20, .invokevirtual 61, 3, 25, 2, 6), (23, .ifCond .eq 5, 3, 0, 0, 0), (26, .iconst 1, 1, 0, 0, 0), (27, .ireturn, 1, 0, 0, 0), (28, .aload_n 0, 1, 0, 0, 0), (29, .getfield 21, 3, 1, 1, 0), (32, .ldc 90, 2, 1, 11, 0), (34, .invokevirtual 61, 3, 25, 2, 6), (37, .ifCond .eq 5, 3, 0, 0, 0), (40, .iconst 2, 1, 0, 0, 0), (41, .ireturn, 1, 0, 0, 0), (42, .aload_n 0, 1, 0, 0, 0), (43, .getfield 21, 3, 1, 1, 0), (46, .ldc 92, 2, 1, 13, 0), (48, .invokevirtual 61, 3, 25, 2, 6), (51, .ifCond .eq 7, 3, 0, 0, 0), (54, .iconst 3, 1, 0, 0, 0), (55, .goto 5, 3, 0, 0, 0), (58, .bipush (-4), 2, 0, 0, 0), (60, .ireturn, 1, 0, 0, 0)]
/-- DoorPaints$Reader.readVisitor(I)V -/
def cL45_0 : List MI := [(0, .iload_n 1, 1, 0, 0, 0), (1, .bipush (-4), 2, 0, 0, 0), (3, .if_icmp .ne 9, 3, 0, 0, 0), (6, .aload_n 0, 1, 0, 0, 0), (7, .iconst 2, 1, 0, 0, 0), (8, .invokevirtual 94, 3, 24, 2, 1), (11, .return_, 1, 0, 0, 0), (12, .aload_n 0, 1, 0, 0, 0), (13, .getfield 12, 3, 1, 0, 0), (16, .getfield 97, 3, 2, 0, 0), (19, .getfield 101, 3, 3, 2, 0), (22, .iconst 4, 1, 0, 0, 0), (23, .if_icmp .lt 9, 3, 0, 0, 0), (26, .aload_n 0, 1, 0, 0, 0), (27, .iconst 5, 1, 0, 0, 0), (28, .invokevirtual 94, 3, 24, 2, 1), (31, .return_, 1, 0, 0, 0), (32, .aload_n 0, 1, 0, 0, 0), (33, .getfield 21, 3, 1, 1, 0), (36, .invokevirtual 106, 3, 19, 1, 6), (39, .aload_n 0, 1, 0, 0, 0), (40, .iconst 5, 1, 0, 0, 0), (41, .invokevirtual 109, 3, 34, 2, 1), (44, .ifCond .ne 4, 3, 0, 0, 0), (47, .return_, 1, 0, 0, 0), (48, .aload_n 0, 1, 0, 0, 0), (49, .getfield 21, 3, 1, 1, 0), (52, .getfield 112, 3, 6, 5, 0), (55, .istore_n 2, 1, 0, 0, 0), (56, .aload_n 0, 1, 0, 0, 0), (57, .getfield 21, 3, 1, 1, 0), (60, .invokevirtual 106, 3, 19, 1, 6), (63, .aload_n 0, 1, 0, 0, 0), (64, .bipush 99, 2, 0, 0, 0), (66, .invokevirtual 109, 3, 34, 2, 1), (69, .ifCond .ne 4, 3, 0, 0, 0), (72, .return_, 1, 0, 0, 0), (73, .aload_n 0, 1, 0, 0, 0), (74, .getfield 12, 3, 1, 0, 0), (77, .getfield 97, 3, 2, 0, 0), (80, .iload_n 1, 1, 0, 0, 0), (81, .iload_n 2, 1, 0, 0, 0), (82, .aload_n 0, 1, 0, 0, 0), (83, .getfield 21, 3, 1, 1, 0), (86, .getfield 112, 3, 6, 5, 0), (89, .invokevirtual 115, 3, 46, 4, 3), (92, .aload_n 0, 1, 0, 0, 0), (93, .getfield 21, 3, 1, 1, 0), (96, .invokevirtual 106, 3, 19, 1, 6), (99, .aload_n 0, 1, 0, 0, 0)]
def cL45_1 : List MI := [(100, .invokevirtual 119, 3, 36, 1, 1), (103, .return_, 1, 0, 0, 0)]
def cL45 : List MI := cL45_0 ++ (cL45_1)
/-- DoorPaints$Town.addVisitor(III)V -/
def cL46 : List MI := [(0, .aload_n 0, 1, 0, 0, 0), (1, .getfield 29, 3, 3, 2, 0), (4, .iconst 4, 1, 0, 0, 0), (5, .if_icmp .ge 48, 3, 0, 0, 0), (8, .aload_n 0, 1, 0, 0, 0), (9, .getfield 11, 3, 3, 0, 0), (12, .aload_n 0, 1, 0, 0, 0), (13, .getfield 29, 3, 3, 2, 0), (16, .aaload, 1, 0, 0, 0), (17, .astore 4, 2, 0, 0, 0), (19, .aload 4, 2, 0, 0, 0), (21, .iload_n 1, 1, 0, 0, 0), (22, .putfield 55, 3, 4, 0, 0), (25, .aload 4, 2, 0, 0, 0), (27, .iload_n 2, 1, 0, 0, 0), (28, .putfield 58, 3, 4, 1, 0), (31, .aload 4, 2, 0, 0, 0), (33, .iload_n 3, 1, 0, 0, 0), (34, .putfield 61, 3, 4, 2, 0), (37, .aload 4, 2, 0, 0, 0), (39, .iconst 0, 1, 0, 0, 0), (40, .putfield 64, 3, 4, 3, 0), (43, .aload_n 0, 1, 0, 0, 0), (44, .dup, 1, 0, 0, 0), (45, .getfield 29, 3, 3, 2, 0), (48, .iconst 1, 1, 0, 0, 0), (49, .iadd, 1, 0, 0, 0), (50, .putfield 29, 3, 3, 2, 0), (53, .return_, 1, 0, 0, 0)]
/-- DoorPaints$Told.isWhole()Z -/
def cL47 : List MI := [(0, .iconst 0, 1, 0, 0, 0), (1, .istore_n 1, 1, 0, 0, 0), (2, .iload_n 1, 1, 0, 0, 0), (3, .aload_n 0, 1, 0, 0, 0), (4, .getfield 35, 3, 2, 2, 0), (7, .if_icmp .ge 27, 3, 0, 0, 0), (10, .aload_n 0, 1, 0, 0, 0), (11, .getfield 12, 3, 2, 0, 0), (14, .aload_n 0, 1, 0, 0, 0), (15, .getfield 18, 3, 2, 1, 0), (18, .iload_n 1, 1, 0, 0, 0), (19, .iaload, 1, 0, 0, 0), (20, .invokevirtual 62, 3, 48, 2, 3), (23, .ifCond .ne 5, 3, 0, 0, 0), (26, .iconst 0, 1, 0, 0, 0), (27, .ireturn, 1, 0, 0, 0), (28, .iinc 1 1, 3, 0, 0, 0), (31, .goto (-29), 3, 0, 0, 0), (34, .aload_n 0, 1, 0, 0, 0), (35, .getfield 12, 3, 2, 0, 0), (38, .getfield 65, 3, 3, 3, 0), (41, .istore_n 1, 1, 0, 0, 0), (42, .iload_n 1, 1, 0, 0, 0), (43, .iconst 4, 1, 0, 0, 0), (44, .if_icmp .ge 26, 3, 0, 0, 0), (47, .aload_n 0, 1, 0, 0, 0), (48, .getfield 12, 3, 2, 0, 0), (51, .getfield 49, 3, 3, 1, 0), (54, .iload_n 1, 1, 0, 0, 0), (55, .aaload, 1, 0, 0, 0), (56, .getfield 68, 3, 5, 2, 0), (59, .ifCond .eq 5, 3, 0, 0, 0), (62, .iconst 0, 1, 0, 0, 0), (63, .ireturn, 1, 0, 0, 0), (64, .iinc 1 1, 3, 0, 0, 0), (67, .goto (-25), 3, 0, 0, 0), (70, .iconst 1, 1, 0, 0, 0), (71, .ireturn, 1, 0, 0, 0)]
/-- DoorPaints$Town.knows(I)Z -/
def cL48 : List MI := [(0, .iload_n 1, 1, 0, 0, 0), (1, .invokestatic 45, 3, 42, 1, 0), (4, .ifCond .ne 25, 3, 0, 0, 0), (7, .aload_n 0, 1, 0, 0, 0), (8, .iload_n 1, 1, 0, 0, 0), (9, .bipush 10, 2, 0, 0, 0), (11, .idiv, 1, 0, 0, 0), (12, .invokevirtual 49, 3, 49, 2, 3), (15, .ifCond .eq 18, 3, 0, 0, 0), (18, .aload_n 0, 1, 0, 0, 0), (19, .iload_n 1, 1, 0, 0, 0), (20, .bipush 10, 2, 0, 0, 0), (22, .irem, 1, 0, 0, 0), (23, .invokevirtual 52, 3, 50, 2, 3), (26, .ifCond .eq 7, 3, 0, 0, 0), (29, .iconst 1, 1, 0, 0, 0), (30, .goto 4, 3, 0, 0, 0), (33, .iconst 0, 1, 0, 0, 0), (34, .ireturn, 1, 0, 0, 0)]
/-- DoorPaints$Town.hasVisitor(I)Z -/
def cL49 : List MI := [(0, .iload_n 1, 1, 0, 0, 0), (1, .ifCond .lt 15, 3, 0, 0, 0), (4, .iload_n 1, 1, 0, 0, 0), (5, .aload_n 0, 1, 0, 0, 0), (6, .getfield 29, 3, 3, 2, 0), (9, .if_icmp .ge 7, 3, 0, 0, 0), (12, .iconst 1, 1, 0, 0, 0), (13, .goto 4, 3, 0, 0, 0), (16, .iconst 0, 1, 0, 0, 0), (17, .ireturn, 1, 0, 0, 0)]
/-- DoorPaints$Town.hasDoor(I)Z -/
def cL50 : List MI := [(0, .iload_n 1, 1, 0, 0, 0), (1, .ifCond .lt 15, 3, 0, 0, 0), (4, .iload_n 1, 1, 0, 0, 0), (5, .aload_n 0, 1, 0, 0, 0), (6, .getfield 36, 3, 3, 3, 0), (9, .if_icmp .ge 7, 3, 0, 0, 0), (12, .iconst 1, 1, 0, 0, 0), (13, .goto 4, 3, 0, 0, 0), (16, .iconst 0, 1, 0, 0, 0), (17, .ireturn, 1, 0, 0, 0)]
/-- DoorPaints$Told.become(LDoorPaints$Told;)V -/
def cL51_0 : List MI := [(0, .aload_n 0, 1, 0, 0, 0), (1, .getfield 12, 3, 2, 0, 0), (4, .aload_n 1, 1, 0, 0, 0), (5, .getfield 12, 3, 2, 0, 0), (8, .invokevirtual 31, 3, 52, 2, 3), (11, .aload_n 0, 1, 0, 0, 0), (12, .aload_n 1, 1, 0, 0, 0), (13, .getfield 35, 3, 2, 2, 0), (16, .putfield 35, 3, 2, 2, 0), (19, .iconst 0, 1, 0, 0, 0), (20, .istore_n 2, 1, 0, 0, 0), (21, .iload_n 2, 1, 0, 0, 0), (22, .aload_n 0, 1, 0, 0, 0), (23, .getfield 35, 3, 2, 2, 0), (26, .if_icmp .ge 21, 3, 0, 0, 0), (29, .aload_n 0, 1, 0, 0, 0), (30, .getfield 18, 3, 2, 1, 0), (33, .iload_n 2, 1, 0, 0, 0), (34, .aload_n 1, 1, 0, 0, 0), (35, .getfield 18, 3, 2, 1, 0), (38, .iload_n 2, 1, 0, 0, 0), (39, .iaload, 1, 0, 0, 0), (40, .iastore, 1, 0, 0, 0), (41, .iinc 2 1, 3, 0, 0, 0), (44, .goto (-23), 3, 0, 0, 0), (47, .aload_n 0, 1, 0, 0, 0), (48, .aload_n 1, 1, 0, 0, 0), (49, .getfield 39, 3, 2, 6, 0), (52, .putfield 39, 3, 2, 6, 0), (55, .iconst 0, 1, 0, 0, 0), (56, .istore_n 2, 1, 0, 0, 0), (57, .iload_n 2, 1, 0, 0, 0), (58, .aload_n 0, 1, 0, 0, 0), (59, .getfield 39, 3, 2, 6, 0), (62, .if_icmp .ge 45, 3, 0, 0, 0), (65, .aload_n 0, 1, 0, 0, 0), (66, .getfield 22, 3, 2, 3, 0), (69, .iload_n 2, 1, 0, 0, 0), (70, .aload_n 1, 1, 0, 0, 0), (71, .getfield 22, 3, 2, 3, 0), (74, .iload_n 2, 1, 0, 0, 0), (75, .iaload, 1, 0, 0, 0), (76, .iastore, 1, 0, 0, 0), (77, .aload_n 0, 1, 0, 0, 0), (78, .getfield 25, 3, 2, 4, 0), (81, .iload_n 2, 1, 0, 0, 0), (82, .aload_n 1, 1, 0, 0, 0), (83, .getfield 25, 3, 2, 4, 0), (86, .iload_n 2, 1, 0, 0, 0), (87, .iaload, 1, 0, 0, 0)]
def cL51_1 : List MI := [(88, .iastore, 1, 0, 0, 0), (89, .aload_n 0, 1, 0, 0, 0), (90, .getfield 28, 3, 2, 5, 0), (93, .iload_n 2, 1, 0, 0, 0), (94, .aload_n 1, 1, 0, 0, 0), (95, .getfield 28, 3, 2, 5, 0), (98, .iload_n 2, 1, 0, 0, 0), (99, .iaload, 1, 0, 0, 0), (100, .iastore, 1, 0, 0, 0), (101, .iinc 2 1, 3, 0, 0, 0), (104, .goto (-47), 3, 0, 0, 0), (107, .return_, 1, 0, 0, 0)]
def cL51 : List MI := cL51_0 ++ (cL51_1)
/-- DoorPaints$Town.become(LDoorPaints$Town;)V -/
def cL52 : List MI := [(0, .aload_n 0, 1, 0, 0, 0), (1, .aload_n 1, 1, 0, 0, 0), (2, .getfield 29, 3, 3, 2, 0), (5, .putfield 29, 3, 3, 2, 0), (8, .iconst 0, 1, 0, 0, 0), (9, .istore_n 2, 1, 0, 0, 0), (10, .iload_n 2, 1, 0, 0, 0), (11, .aload_n 0, 1, 0, 0, 0), (12, .getfield 29, 3, 3, 2, 0), (15, .if_icmp .ge 24, 3, 0, 0, 0), (18, .aload_n 0, 1, 0, 0, 0), (19, .getfield 11, 3, 3, 0, 0), (22, .iload_n 2, 1, 0, 0, 0), (23, .aaload, 1, 0, 0, 0), (24, .aload_n 1, 1, 0, 0, 0), (25, .getfield 11, 3, 3, 0, 0), (28, .iload_n 2, 1, 0, 0, 0), (29, .aaload, 1, 0, 0, 0), (30, .invokevirtual 32, 3, 53, 2, 4), (33, .iinc 2 1, 3, 0, 0, 0), (36, .goto (-26), 3, 0, 0, 0), (39, .aload_n 0, 1, 0, 0, 0), (40, .aload_n 1, 1, 0, 0, 0), (41, .getfield 36, 3, 3, 3, 0), (44, .putfield 36, 3, 3, 3, 0), (47, .iconst 0, 1, 0, 0, 0), (48, .istore_n 2, 1, 0, 0, 0), (49, .iload_n 2, 1, 0, 0, 0), (50, .aload_n 0, 1, 0, 0, 0), (51, .getfield 36, 3, 3, 3, 0), (54, .if_icmp .ge 24, 3, 0, 0, 0), (57, .aload_n 0, 1, 0, 0, 0), (58, .getfield 20, 3, 3, 1, 0), (61, .iload_n 2, 1, 0, 0, 0), (62, .aaload, 1, 0, 0, 0), (63, .aload_n 1, 1, 0, 0, 0), (64, .getfield 20, 3, 3, 1, 0), (67, .iload_n 2, 1, 0, 0, 0), (68, .aaload, 1, 0, 0, 0), (69, .invokevirtual 39, 3, 54, 2, 5), (72, .iinc 2 1, 3, 0, 0, 0), (75, .goto (-26), 3, 0, 0, 0), (78, .aload_n 0, 1, 0, 0, 0), (79, .bipush (-4), 2, 0, 0, 0), (81, .putfield 25, 3, 3, 4, 0), (84, .return_, 1, 0, 0, 0)]
/-- DoorPaints$Visitor.become(LDoorPaints$Visitor;)V -/
def cL53 : List MI := [(0, .aload_n 0, 1, 0, 0, 0), (1, .aload_n 1, 1, 0, 0, 0), (2, .getfield 7, 3, 4, 0, 0), (5, .putfield 7, 3, 4, 0, 0), (8, .aload_n 0, 1, 0, 0, 0), (9, .aload_n 1, 1, 0, 0, 0), (10, .getfield 13, 3, 4, 1, 0), (13, .putfield 13, 3, 4, 1, 0), (16, .aload_n 0, 1, 0, 0, 0), (17, .aload_n 1, 1, 0, 0, 0), (18, .getfield 16, 3, 4, 2, 0), (21, .putfield 16, 3, 4, 2, 0), (24, .aload_n 0, 1, 0, 0, 0), (25, .aload_n 1, 1, 0, 0, 0), (26, .getfield 19, 3, 4, 3, 0), (29, .putfield 19, 3, 4, 3, 0), (32, .return_, 1, 0, 0, 0)]
/-- DoorPaints$Door.become(LDoorPaints$Door;)V -/
def cL54 : List MI := [(0, .iconst 0, 1, 0, 0, 0), (1, .istore_n 2, 1, 0, 0, 0), (2, .iload_n 2, 1, 0, 0, 0), (3, .aload_n 1, 1, 0, 0, 0), (4, .getfield 15, 3, 5, 1, 0), (7, .if_icmp .ge 21, 3, 0, 0, 0), (10, .aload_n 0, 1, 0, 0, 0), (11, .getfield 9, 3, 5, 0, 0), (14, .iload_n 2, 1, 0, 0, 0), (15, .aload_n 1, 1, 0, 0, 0), (16, .getfield 9, 3, 5, 0, 0), (19, .iload_n 2, 1, 0, 0, 0), (20, .iaload, 1, 0, 0, 0), (21, .iastore, 1, 0, 0, 0), (22, .iinc 2 1, 3, 0, 0, 0), (25, .goto (-23), 3, 0, 0, 0), (28, .aload_n 0, 1, 0, 0, 0), (29, .aload_n 1, 1, 0, 0, 0), (30, .getfield 15, 3, 5, 1, 0), (33, .putfield 15, 3, 5, 1, 0), (36, .aload_n 0, 1, 0, 0, 0), (37, .aload_n 1, 1, 0, 0, 0), (38, .getfield 19, 3, 5, 2, 0), (41, .putfield 19, 3, 5, 2, 0), (44, .aload_n 0, 1, 0, 0, 0), (45, .aload_n 1, 1, 0, 0, 0), (46, .getfield 22, 3, 5, 3, 0), (49, .putfield 22, 3, 5, 3, 0), (52, .return_, 1, 0, 0, 0)]
/-- DoorPaints.fault()I -/
def cL55 : List MI := [(0, .aload_n 0, 1, 0, 0, 0), (1, .getfield 80, 3, 0, 9, 0), (4, .ireturn, 1, 0, 0, 0)]
/-- DoorPaints.rule(I)I -/
def cL56 : List MI := [(0, .iload_n 1, 1, 0, 0, 0), (1, .tableswitch 102 0 5 #[39, 50, 61, 69, 80, 91], 39, 0, 0, 0), (40, .aload_n 0, 1, 0, 0, 0), (41, .getfield 26, 3, 0, 2, 0), (44, .getfield 90, 3, 2, 0, 0), (47, .getfield 93, 3, 3, 2, 0), (50, .ireturn, 1, 0, 0, 0), (51, .aload_n 0, 1, 0, 0, 0), (52, .getfield 26, 3, 0, 2, 0), (55, .getfield 90, 3, 2, 0, 0), (58, .getfield 96, 3, 3, 3, 0), (61, .ireturn, 1, 0, 0, 0), (62, .aload_n 0, 1, 0, 0, 0), (63, .getfield 26, 3, 0, 2, 0), (66, .getfield 99, 3, 2, 2, 0), (69, .ireturn, 1, 0, 0, 0), (70, .aload_n 0, 1, 0, 0, 0), (71, .getfield 26, 3, 0, 2, 0), (74, .getfield 90, 3, 2, 0, 0), (77, .invokevirtual 102, 3, 57, 1, 3), (80, .ireturn, 1, 0, 0, 0), (81, .aload_n 0, 1, 0, 0, 0), (82, .getfield 26, 3, 0, 2, 0), (85, .getfield 90, 3, 2, 0, 0), (88, .invokevirtual 105, 3, 58, 1, 3), (91, .ireturn, 1, 0, 0, 0), (92, .aload_n 0, 1, 0, 0, 0), (93, .getfield 26, 3, 0, 2, 0), (96, .getfield 90, 3, 2, 0, 0), (99, .invokevirtual 108, 3, 61, 1, 3), (102, .ireturn, 1, 0, 0, 0), (103, .iconst (-1), 1, 0, 0, 0), (104, .ireturn, 1, 0, 0, 0)]
/-- DoorPaints$Town.wetBits()I -/
def cL57 : List MI := [(0, .iconst 0, 1, 0, 0, 0), (1, .istore_n 1, 1, 0, 0, 0), (2, .iconst 0, 1, 0, 0, 0), (3, .istore_n 2, 1, 0, 0, 0), (4, .iload_n 2, 1, 0, 0, 0), (5, .aload_n 0, 1, 0, 0, 0), (6, .getfield 36, 3, 3, 3, 0), (9, .if_icmp .ge 31, 3, 0, 0, 0), (12, .iload_n 1, 1, 0, 0, 0), (13, .aload_n 0, 1, 0, 0, 0), (14, .getfield 20, 3, 3, 1, 0), (17, .iload_n 2, 1, 0, 0, 0), (18, .aaload, 1, 0, 0, 0), (19, .getfield 81, 3, 5, 3, 0), (22, .ifCond .eq 9, 3, 0, 0, 0), (25, .iconst 1, 1, 0, 0, 0), (26, .iload_n 2, 1, 0, 0, 0), (27, .ishl, 1, 0, 0, 0), (28, .goto 4, 3, 0, 0, 0), (31, .iconst 0, 1, 0, 0, 0), (32, .ior, 1, 0, 0, 0), (33, .istore_n 1, 1, 0, 0, 0), (34, .iinc 2 1, 3, 0, 0, 0), (37, .goto (-33), 3, 0, 0, 0), (40, .iload_n 1, 1, 0, 0, 0), (41, .ireturn, 1, 0, 0, 0)]
/-- DoorPaints$Town.wrongBits()I -/
def cL58 : List MI := [(0, .iconst 0, 1, 0, 0, 0), (1, .istore_n 1, 1, 0, 0, 0), (2, .iconst 0, 1, 0, 0, 0), (3, .istore_n 2, 1, 0, 0, 0), (4, .iload_n 2, 1, 0, 0, 0), (5, .aload_n 0, 1, 0, 0, 0), (6, .getfield 36, 3, 3, 3, 0), (9, .if_icmp .ge 31, 3, 0, 0, 0), (12, .iload_n 1, 1, 0, 0, 0), (13, .aload_n 0, 1, 0, 0, 0), (14, .getfield 20, 3, 3, 1, 0), (17, .iload_n 2, 1, 0, 0, 0), (18, .aaload, 1, 0, 0, 0), (19, .invokevirtual 118, 3, 59, 1, 5), (22, .ifCond .eq 9, 3, 0, 0, 0), (25, .iconst 1, 1, 0, 0, 0), (26, .iload_n 2, 1, 0, 0, 0), (27, .ishl, 1, 0, 0, 0), (28, .goto 4, 3, 0, 0, 0), (31, .iconst 0, 1, 0, 0, 0), (32, .ior, 1, 0, 0, 0), (33, .istore_n 1, 1, 0, 0, 0), (34, .iinc 2 1, 3, 0, 0, 0), (37, .goto (-33), 3, 0, 0, 0), (40, .iload_n 1, 1, 0, 0, 0), (41, .ireturn, 1, 0, 0, 0)]
/-- DoorPaints$Door.isWrong()Z -/
def cL59 : List MI := [(0, .aload_n 0, 1, 0, 0, 0), (1, .invokevirtual 26, 3, 60, 1, 5), (4, .istore_n 1, 1, 0, 0, 0), (5, .iload_n 1, 1, 0, 0, 0), (6, .bipush (-4), 2, 0, 0, 0), (8, .if_icmp .eq 15, 3, 0, 0, 0), (11, .aload_n 0, 1, 0, 0, 0), (12, .iload_n 1, 1, 0, 0, 0), (13, .invokevirtual 30, 3, 38, 2, 5), (16, .ifCond .eq 7, 3, 0, 0, 0), (19, .iconst 1, 1, 0, 0, 0), (20, .goto 4, 3, 0, 0, 0), (23, .iconst 0, 1, 0, 0, 0), (24, .ireturn, 1, 0, 0, 0)]
/-- DoorPaints$Door.shown()I -/
def cL60 : List MI := [(0, .aload_n 0, 1, 0, 0, 0), (1, .getfield 15, 3, 5, 1, 0), (4, .ifCond .le 26, 3, 0, 0, 0), (7, .aload_n 0, 1, 0, 0, 0), (8, .getfield 15, 3, 5, 1, 0), (11, .bipush 6, 2, 0, 0, 0), (13, .if_icmp .gt 17, 3, 0, 0, 0), (16, .aload_n 0, 1, 0, 0, 0), (17, .getfield 9, 3, 5, 0, 0), (20, .aload_n 0, 1, 0, 0, 0), (21, .getfield 15, 3, 5, 1, 0), (24, .iconst 1, 1, 0, 0, 0), (25, .isub, 1, 0, 0, 0), (26, .iaload, 1, 0, 0, 0), (27, .goto 5, 3, 0, 0, 0), (30, .bipush (-4), 2, 0, 0, 0), (32, .ireturn, 1, 0, 0, 0)]
/-- DoorPaints$Town.allPaint()I -/
def cL61 : List MI := [(0, .iconst 0, 1, 0, 0, 0), (1, .istore_n 1, 1, 0, 0, 0), (2, .iconst 0, 1, 0, 0, 0), (3, .istore_n 2, 1, 0, 0, 0), (4, .iload_n 2, 1, 0, 0, 0), (5, .aload_n 0, 1, 0, 0, 0), (6, .getfield 29, 3, 3, 2, 0), (9, .if_icmp .ge 21, 3, 0, 0, 0), (12, .iload_n 1, 1, 0, 0, 0), (13, .aload_n 0, 1, 0, 0, 0), (14, .getfield 11, 3, 3, 0, 0), (17, .iload_n 2, 1, 0, 0, 0), (18, .aaload, 1, 0, 0, 0), (19, .getfield 61, 3, 4, 2, 0), (22, .iadd, 1, 0, 0, 0), (23, .istore_n 1, 1, 0, 0, 0), (24, .iinc 2 1, 3, 0, 0, 0), (27, .goto (-23), 3, 0, 0, 0), (30, .iload_n 1, 1, 0, 0, 0), (31, .ireturn, 1, 0, 0, 0)]
/-- DoorPaints.visitor(II)I -/
def cL62 : List MI := [(0, .aload_n 0, 1, 0, 0, 0), (1, .getfield 26, 3, 0, 2, 0), (4, .getfield 90, 3, 2, 0, 0), (7, .iload_n 1, 1, 0, 0, 0), (8, .invokevirtual 111, 3, 49, 2, 3), (11, .ifCond .ne 5, 3, 0, 0, 0), (14, .iconst (-1), 1, 0, 0, 0), (15, .ireturn, 1, 0, 0, 0), (16, .aload_n 0, 1, 0, 0, 0), (17, .getfield 26, 3, 0, 2, 0), (20, .getfield 90, 3, 2, 0, 0), (23, .getfield 114, 3, 3, 0, 0), (26, .iload_n 1, 1, 0, 0, 0), (27, .aaload, 1, 0, 0, 0), (28, .astore_n 3, 1, 0, 0, 0), (29, .iload_n 2, 1, 0, 0, 0), (30, .tableswitch 66 0 4 #[34, 39, 44, 49, 54], 34, 0, 0, 0), (64, .aload_n 3, 1, 0, 0, 0), (65, .getfield 118, 3, 4, 0, 0), (68, .ireturn, 1, 0, 0, 0), (69, .aload_n 3, 1, 0, 0, 0), (70, .getfield 123, 3, 4, 1, 0), (73, .ireturn, 1, 0, 0, 0), (74, .aload_n 3, 1, 0, 0, 0), (75, .getfield 126, 3, 4, 2, 0), (78, .ireturn, 1, 0, 0, 0), (79, .aload_n 3, 1, 0, 0, 0), (80, .getfield 129, 3, 4, 3, 0), (83, .ireturn, 1, 0, 0, 0), (84, .aload_n 0, 1, 0, 0, 0), (85, .getfield 26, 3, 0, 2, 0), (88, .getfield 90, 3, 2, 0, 0), (91, .iload_n 1, 1, 0, 0, 0), (92, .invokevirtual 132, 3, 63, 2, 3), (95, .ireturn, 1, 0, 0, 0), (96, .iconst (-1), 1, 0, 0, 0), (97, .ireturn, 1, 0, 0, 0)]
/-- DoorPaints$Town.brushOf(I)I -/
def cL63 : List MI := [(0, .aload_n 0, 1, 0, 0, 0), (1, .iload_n 1, 1, 0, 0, 0), (2, .invokevirtual 49, 3, 49, 2, 3), (5, .ifCond .ne 5, 3, 0, 0, 0), (8, .iconst (-1), 1, 0, 0, 0), (9, .ireturn, 1, 0, 0, 0), (10, .iload_n 1, 1, 0, 0, 0), (11, .aload_n 0, 1, 0, 0, 0), (12, .getfield 25, 3, 3, 4, 0), (15, .if_icmp .ne 8, 3, 0, 0, 0), (18, .aload_n 0, 1, 0, 0, 0), (19, .getfield 67, 3, 3, 5, 0), (22, .ireturn, 1, 0, 0, 0), (23, .aload_n 0, 1, 0, 0, 0), (24, .getfield 11, 3, 3, 0, 0), (27, .iload_n 1, 1, 0, 0, 0), (28, .aaload, 1, 0, 0, 0), (29, .getfield 55, 3, 4, 0, 0), (32, .iconst 3, 1, 0, 0, 0), (33, .if_icmp .ne 15, 3, 0, 0, 0), (36, .aload_n 0, 1, 0, 0, 0), (37, .getfield 11, 3, 3, 0, 0), (40, .iconst 0, 1, 0, 0, 0), (41, .aaload, 1, 0, 0, 0), (42, .getfield 58, 3, 4, 1, 0), (45, .goto 12, 3, 0, 0, 0), (48, .aload_n 0, 1, 0, 0, 0), (49, .getfield 11, 3, 3, 0, 0), (52, .iload_n 1, 1, 0, 0, 0), (53, .aaload, 1, 0, 0, 0), (54, .getfield 58, 3, 4, 1, 0), (57, .ireturn, 1, 0, 0, 0)]
/-- DoorPaints.door(II)I -/
def cL64 : List MI := [(0, .aload_n 0, 1, 0, 0, 0), (1, .getfield 26, 3, 0, 2, 0), (4, .getfield 90, 3, 2, 0, 0), (7, .iload_n 1, 1, 0, 0, 0), (8, .invokevirtual 136, 3, 50, 2, 3), (11, .ifCond .ne 5, 3, 0, 0, 0), (14, .iconst (-1), 1, 0, 0, 0), (15, .ireturn, 1, 0, 0, 0), (16, .aload_n 0, 1, 0, 0, 0), (17, .getfield 26, 3, 0, 2, 0), (20, .getfield 90, 3, 2, 0, 0), (23, .getfield 139, 3, 3, 1, 0), (26, .iload_n 1, 1, 0, 0, 0), (27, .aaload, 1, 0, 0, 0), (28, .astore_n 3, 1, 0, 0, 0), (29, .iload_n 2, 1, 0, 0, 0), (30, .bipush 10, 2, 0, 0, 0), (32, .if_icmp .lt 18, 3, 0, 0, 0), (35, .iload_n 2, 1, 0, 0, 0), (36, .bipush 16, 2, 0, 0, 0), (38, .if_icmp .ge 12, 3, 0, 0, 0), (41, .aload_n 3, 1, 0, 0, 0), (42, .iload_n 2, 1, 0, 0, 0), (43, .bipush 10, 2, 0, 0, 0), (45, .isub, 1, 0, 0, 0), (46, .invokevirtual 143, 3, 65, 2, 5), (49, .ireturn, 1, 0, 0, 0), (50, .iload_n 2, 1, 0, 0, 0), (51, .tableswitch 57 0 3 #[29, 34, 39, 44], 29, 0, 0, 0), (80, .aload_n 3, 1, 0, 0, 0), (81, .getfield 148, 3, 5, 1, 0), (84, .ireturn, 1, 0, 0, 0), (85, .aload_n 3, 1, 0, 0, 0), (86, .invokevirtual 151, 3, 60, 1, 5), (89, .ireturn, 1, 0, 0, 0), (90, .aload_n 3, 1, 0, 0, 0), (91, .getfield 154, 3, 5, 2, 0), (94, .ireturn, 1, 0, 0, 0), (95, .aload_n 3, 1, 0, 0, 0), (96, .getfield 157, 3, 5, 3, 0), (99, .ifCond .eq 7, 3, 0, 0, 0), (102, .iconst 1, 1, 0, 0, 0), (103, .goto 4, 3, 0, 0, 0), (106, .iconst 0, 1, 0, 0, 0), (107, .ireturn, 1, 0, 0, 0), (108, .iconst (-1), 1, 0, 0, 0), (109, .ireturn, 1, 0, 0, 0)]
/-- DoorPaints$Door.layerAt(I)I -/
def cL65 : List MI := [(0, .iload_n 1, 1, 0, 0, 0), (1, .ifCond .lt 20, 3, 0, 0, 0), (4, .iload_n 1, 1, 0, 0, 0), (5, .aload_n 0, 1, 0, 0, 0), (6, .getfield 15, 3, 5, 1, 0), (9, .if_icmp .ge 12, 3, 0, 0, 0), (12, .aload_n 0, 1, 0, 0, 0), (13, .getfield 9, 3, 5, 0, 0), (16, .iload_n 1, 1, 0, 0, 0), (17, .iaload, 1, 0, 0, 0), (18, .goto 5, 3, 0, 0, 0), (21, .bipush (-4), 2, 0, 0, 0), (23, .ireturn, 1, 0, 0, 0)]
/-- DoorPaints.plan(I)I -/
def cL66 : List MI := [(0, .iload_n 1, 1, 0, 0, 0), (1, .ifCond .lt 26, 3, 0, 0, 0), (4, .iload_n 1, 1, 0, 0, 0), (5, .aload_n 0, 1, 0, 0, 0), (6, .getfield 26, 3, 0, 2, 0), (9, .getfield 99, 3, 2, 2, 0), (12, .if_icmp .ge 15, 3, 0, 0, 0), (15, .aload_n 0, 1, 0, 0, 0), (16, .getfield 26, 3, 0, 2, 0), (19, .getfield 161, 3, 2, 1, 0), (22, .iload_n 1, 1, 0, 0, 0), (23, .iaload, 1, 0, 0, 0), (24, .goto 4, 3, 0, 0, 0), (27, .iconst (-1), 1, 0, 0, 0), (28, .ireturn, 1, 0, 0, 0)]
/-- DoorPaints.uses(II)I -/
def cL67 : List MI := [(0, .aload_n 0, 1, 0, 0, 0), (1, .getfield 26, 3, 0, 2, 0), (4, .getfield 90, 3, 2, 0, 0), (7, .iload_n 1, 1, 0, 0, 0), (8, .iload_n 2, 1, 0, 0, 0), (9, .invokevirtual 164, 3, 68, 3, 3), (12, .ireturn, 1, 0, 0, 0)]
/-- DoorPaints$Town.costOf(II)I -/
def cL68 : List MI := [(0, .aload_n 0, 1, 0, 0, 0), (1, .iload_n 1, 1, 0, 0, 0), (2, .invokevirtual 49, 3, 49, 2, 3), (5, .ifCond .eq 11, 3, 0, 0, 0), (8, .aload_n 0, 1, 0, 0, 0), (9, .iload_n 2, 1, 0, 0, 0), (10, .invokevirtual 52, 3, 50, 2, 3), (13, .ifCond .ne 5, 3, 0, 0, 0), (16, .iconst (-1), 1, 0, 0, 0), (17, .ireturn, 1, 0, 0, 0), (18, .iconst 1, 1, 0, 0, 0), (19, .aload_n 0, 1, 0, 0, 0), (20, .getfield 20, 3, 3, 1, 0), (23, .iload_n 2, 1, 0, 0, 0), (24, .aaload, 1, 0, 0, 0), (25, .getfield 70, 3, 5, 1, 0), (28, .iconst 3, 1, 0, 0, 0), (29, .idiv, 1, 0, 0, 0), (30, .iadd, 1, 0, 0, 0), (31, .istore_n 3, 1, 0, 0, 0), (32, .aload_n 0, 1, 0, 0, 0), (33, .getfield 11, 3, 3, 0, 0), (36, .iload_n 1, 1, 0, 0, 0), (37, .aaload, 1, 0, 0, 0), (38, .getfield 55, 3, 4, 0, 0), (41, .lookupswitch 33 #[(1, 29), (2, 27)], 27, 0, 0, 0), (68, .iconst 0, 1, 0, 0, 0), (69, .ireturn, 1, 0, 0, 0), (70, .iconst 2, 1, 0, 0, 0), (71, .iload_n 3, 1, 0, 0, 0), (72, .imul, 1, 0, 0, 0), (73, .ireturn, 1, 0, 0, 0), (74, .iload_n 3, 1, 0, 0, 0), (75, .ireturn, 1, 0, 0, 0)]
/-- DoorPaints.visit(II)I -/
def cL69 : List MI := [(0, .aload_n 0, 1, 0, 0, 0), (1, .getfield 26, 3, 0, 2, 0), (4, .getfield 90, 3, 2, 0, 0), (7, .iload_n 1, 1, 0, 0, 0), (8, .iload_n 2, 1, 0, 0, 0), (9, .invokevirtual 168, 3, 70, 3, 3), (12, .ireturn, 1, 0, 0, 0)]
/-- DoorPaints$Town.receive(II)I -/
def cL70_0 : List MI := [(0, .aload_n 0, 1, 0, 0, 0), (1, .iload_n 1, 1, 0, 0, 0), (2, .iload_n 2, 1, 0, 0, 0), (3, .invokevirtual 73, 3, 68, 3, 3), (6, .istore_n 3, 1, 0, 0, 0), (7, .iload_n 3, 1, 0, 0, 0), (8, .iconst (-1), 1, 0, 0, 0), (9, .if_icmp .ne 5, 3, 0, 0, 0), (12, .iconst (-1), 1, 0, 0, 0), (13, .ireturn, 1, 0, 0, 0), (14, .aload_n 0, 1, 0, 0, 0), (15, .getfield 11, 3, 3, 0, 0), (18, .iload_n 1, 1, 0, 0, 0), (19, .aaload, 1, 0, 0, 0), (20, .astore 4, 2, 0, 0, 0), (22, .aload_n 0, 1, 0, 0, 0), (23, .getfield 20, 3, 3, 1, 0), (26, .iload_n 2, 1, 0, 0, 0), (27, .aaload, 1, 0, 0, 0), (28, .astore 5, 2, 0, 0, 0), (30, .aload 4, 2, 0, 0, 0), (32, .getfield 61, 3, 4, 2, 0), (35, .iload_n 3, 1, 0, 0, 0), (36, .if_icmp .ge 6, 3, 0, 0, 0), (39, .bipush (-2), 2, 0, 0, 0), (41, .ireturn, 1, 0, 0, 0), (42, .aload 4, 2, 0, 0, 0), (44, .getfield 55, 3, 4, 0, 0), (47, .iconst 2, 1, 0, 0, 0), (48, .if_icmp .eq 14, 3, 0, 0, 0), (51, .aload 5, 2, 0, 0, 0), (53, .invokevirtual 77, 3, 71, 1, 5), (56, .ifCond .eq 6, 3, 0, 0, 0), (59, .bipush (-3), 2, 0, 0, 0), (61, .ireturn, 1, 0, 0, 0), (62, .aload 4, 2, 0, 0, 0), (64, .dup, 1, 0, 0, 0), (65, .getfield 61, 3, 4, 2, 0), (68, .iload_n 3, 1, 0, 0, 0), (69, .isub, 1, 0, 0, 0), (70, .putfield 61, 3, 4, 2, 0), (73, .aload 5, 2, 0, 0, 0), (75, .getfield 81, 3, 5, 3, 0), (78, .ifCond .eq 13, 3, 0, 0, 0), (81, .aload 4, 2, 0, 0, 0), (83, .aload 5, 2, 0, 0, 0), (85, .invokevirtual 85, 3, 60, 1, 5), (88, .invokevirtual 89, 3, 72, 2, 4), (91, .aload 4, 2, 0, 0, 0), (93, .getfield 55, 3, 4, 0, 0)]
def cL70_1 : List MI := [(96, .iconst 2, 1, 0, 0, 0), (97, .if_icmp .eq 13, 3, 0, 0, 0), (100, .aload 5, 2, 0, 0, 0), (102, .aload_n 0, 1, 0, 0, 0), (103, .iload_n 1, 1, 0, 0, 0), (104, .invokevirtual 93, 3, 63, 2, 3), (107, .invokevirtual 97, 3, 74, 2, 5), (110, .aload 5, 2, 0, 0, 0), (112, .invokevirtual 85, 3, 60, 1, 5), (115, .ireturn, 1, 0, 0, 0)]
def cL70 : List MI := cL70_0 ++ (cL70_1)
/-- DoorPaints$Door.takesNoLayer()Z -/
def cL71 : List MI := [(0, .aload_n 0, 1, 0, 0, 0), (1, .getfield 15, 3, 5, 1, 0), (4, .bipush 6, 2, 0, 0, 0), (6, .if_icmp .lt 14, 3, 0, 0, 0), (9, .aload_n 0, 1, 0, 0, 0), (10, .getfield 22, 3, 5, 3, 0), (13, .ifCond .ne 7, 3, 0, 0, 0), (16, .iconst 1, 1, 0, 0, 0), (17, .goto 4, 3, 0, 0, 0), (20, .iconst 0, 1, 0, 0, 0), (21, .ireturn, 1, 0, 0, 0)]
/-- DoorPaints$Visitor.markSleeve(I)V -/
def cL72 : List MI := [(0, .iload_n 1, 1, 0, 0, 0), (1, .invokestatic 22, 3, 73, 1, 0), (4, .ifCond .eq 15, 3, 0, 0, 0), (7, .aload_n 0, 1, 0, 0, 0), (8, .dup, 1, 0, 0, 0), (9, .getfield 19, 3, 4, 3, 0), (12, .iconst 1, 1, 0, 0, 0), (13, .iload_n 1, 1, 0, 0, 0), (14, .ishl, 1, 0, 0, 0), (15, .ior, 1, 0, 0, 0), (16, .putfield 19, 3, 4, 3, 0), (19, .return_, 1, 0, 0, 0)]
/-- DoorPaints.isColour(I)Z -/
def cL73 : List MI := [(0, .iload_n 0, 1, 0, 0, 0), (1, .ifCond .lt 13, 3, 0, 0, 0), (4, .iload_n 0, 1, 0, 0, 0), (5, .bipush 6, 2, 0, 0, 0), (7, .if_icmp .ge 7, 3, 0, 0, 0), (10, .iconst 1, 1, 0, 0, 0), (11, .goto 4, 3, 0, 0, 0), (14, .iconst 0, 1, 0, 0, 0), (15, .ireturn, 1, 0, 0, 0)]
/-- DoorPaints$Door.paintWith(I)V -/
def cL74 : List MI := [(0, .aload_n 0, 1, 0, 0, 0), (1, .invokevirtual 26, 3, 60, 1, 5), (4, .istore_n 2, 1, 0, 0, 0), (5, .aload_n 0, 1, 0, 0, 0), (6, .getfield 22, 3, 5, 3, 0), (9, .ifCond .eq 29, 3, 0, 0, 0), (12, .iload_n 2, 1, 0, 0, 0), (13, .bipush (-4), 2, 0, 0, 0), (15, .if_icmp .eq 23, 3, 0, 0, 0), (18, .aload_n 0, 1, 0, 0, 0), (19, .getfield 9, 3, 5, 0, 0), (22, .aload_n 0, 1, 0, 0, 0), (23, .getfield 15, 3, 5, 1, 0), (26, .iconst 1, 1, 0, 0, 0), (27, .isub, 1, 0, 0, 0), (28, .iload_n 2, 1, 0, 0, 0), (29, .iload_n 1, 1, 0, 0, 0), (30, .iadd, 1, 0, 0, 0), (31, .bipush 6, 2, 0, 0, 0), (33, .irem, 1, 0, 0, 0), (34, .iastore, 1, 0, 0, 0), (35, .goto 9, 3, 0, 0, 0), (38, .aload_n 0, 1, 0, 0, 0), (39, .iload_n 1, 1, 0, 0, 0), (40, .invokevirtual 34, 3, 35, 2, 5), (43, .pop, 1, 0, 0, 0), (44, .aload_n 0, 1, 0, 0, 0), (45, .iconst 1, 1, 0, 0, 0), (46, .putfield 22, 3, 5, 3, 0), (49, .return_, 1, 0, 0, 0)]
/-- DoorPaints.sky(I)I -/
def cL75 : List MI := [(0, .iload_n 1, 1, 0, 0, 0), (1, .ifCond .lt 8, 3, 0, 0, 0), (4, .iload_n 1, 1, 0, 0, 0), (5, .iconst 2, 1, 0, 0, 0), (6, .if_icmp .le 5, 3, 0, 0, 0), (9, .iconst (-1), 1, 0, 0, 0), (10, .ireturn, 1, 0, 0, 0), (11, .aload_n 0, 1, 0, 0, 0), (12, .getfield 26, 3, 0, 2, 0), (15, .getfield 90, 3, 2, 0, 0), (18, .bipush 90, 2, 0, 0, 0), (20, .iload_n 1, 1, 0, 0, 0), (21, .iadd, 1, 0, 0, 0), (22, .invokevirtual 171, 3, 76, 2, 3), (25, .aload_n 0, 1, 0, 0, 0), (26, .getfield 26, 3, 0, 2, 0), (29, .getfield 90, 3, 2, 0, 0), (32, .invokevirtual 175, 3, 80, 1, 3), (35, .ireturn, 1, 0, 0, 0)]
/-- DoorPaints$Town.weather(I)V -/
def cL76 : List MI := [(0, .iconst 0, 1, 0, 0, 0), (1, .istore_n 2, 1, 0, 0, 0), (2, .iload_n 2, 1, 0, 0, 0), (3, .aload_n 0, 1, 0, 0, 0), (4, .getfield 36, 3, 3, 3, 0), (7, .if_icmp .ge 72, 3, 0, 0, 0), (10, .iload_n 1, 1, 0, 0, 0), (11, .tableswitch 62 90 92 #[25, 38, 50], 25, 0, 0, 0), (36, .aload_n 0, 1, 0, 0, 0), (37, .getfield 20, 3, 3, 1, 0), (40, .iload_n 2, 1, 0, 0, 0), (41, .aaload, 1, 0, 0, 0), (42, .iconst 0, 1, 0, 0, 0), (43, .putfield 81, 3, 5, 3, 0), (46, .goto 27, 3, 0, 0, 0), (49, .aload_n 0, 1, 0, 0, 0), (50, .getfield 20, 3, 3, 1, 0), (53, .iload_n 2, 1, 0, 0, 0), (54, .aaload, 1, 0, 0, 0), (55, .invokevirtual 100, 3, 77, 1, 5), (58, .goto 15, 3, 0, 0, 0), (61, .aload_n 0, 1, 0, 0, 0), (62, .getfield 20, 3, 3, 1, 0), (65, .iload_n 2, 1, 0, 0, 0), (66, .aaload, 1, 0, 0, 0), (67, .invokevirtual 103, 3, 79, 1, 5), (70, .goto 3, 3, 0, 0, 0), (73, .iinc 2 1, 3, 0, 0, 0), (76, .goto (-74), 3, 0, 0, 0), (79, .return_, 1, 0, 0, 0)]
/-- DoorPaints$Door.rainOn()V -/
def cL77 : List MI := [(0, .aload_n 0, 1, 0, 0, 0), (1, .getfield 15, 3, 5, 1, 0), (4, .ifCond .ne 4, 3, 0, 0, 0), (7, .return_, 1, 0, 0, 0), (8, .iconst 0, 1, 0, 0, 0), (9, .istore_n 1, 1, 0, 0, 0), (10, .iconst 0, 1, 0, 0, 0), (11, .istore_n 2, 1, 0, 0, 0), (12, .iload_n 2, 1, 0, 0, 0), (13, .iconst 3, 1, 0, 0, 0), (14, .if_icmp .ge 27, 3, 0, 0, 0), (17, .aload_n 0, 1, 0, 0, 0), (18, .getfield 15, 3, 5, 1, 0), (21, .ifCond .le 20, 3, 0, 0, 0), (24, .iload_n 1, 1, 0, 0, 0), (25, .aload_n 0, 1, 0, 0, 0), (26, .invokevirtual 26, 3, 60, 1, 5), (29, .iadd, 1, 0, 0, 0), (30, .istore_n 1, 1, 0, 0, 0), (31, .aload_n 0, 1, 0, 0, 0), (32, .invokevirtual 37, 3, 78, 1, 5), (35, .iinc 2 1, 3, 0, 0, 0), (38, .goto (-26), 3, 0, 0, 0), (41, .aload_n 0, 1, 0, 0, 0), (42, .iload_n 1, 1, 0, 0, 0), (43, .bipush 6, 2, 0, 0, 0), (45, .irem, 1, 0, 0, 0), (46, .invokevirtual 34, 3, 35, 2, 5), (49, .pop, 1, 0, 0, 0), (50, .aload_n 0, 1, 0, 0, 0), (51, .iconst 1, 1, 0, 0, 0), (52, .putfield 22, 3, 5, 3, 0), (55, .return_, 1, 0, 0, 0)]
/-- DoorPaints$Door.loseTop()V -/
def cL78 : List MI := [(0, .aload_n 0, 1, 0, 0, 0), (1, .getfield 15, 3, 5, 1, 0), (4, .ifCond .le 13, 3, 0, 0, 0), (7, .aload_n 0, 1, 0, 0, 0), (8, .dup, 1, 0, 0, 0), (9, .getfield 15, 3, 5, 1, 0), (12, .iconst 1, 1, 0, 0, 0), (13, .isub, 1, 0, 0, 0), (14, .putfield 15, 3, 5, 1, 0), (17, .return_, 1, 0, 0, 0)]
/-- DoorPaints$Door.shineOn()V -/
def cL79 : List MI := [(0, .iconst 0, 1, 0, 0, 0), (1, .istore_n 1, 1, 0, 0, 0), (2, .iload_n 1, 1, 0, 0, 0), (3, .bipush 6, 2, 0, 0, 0), (5, .if_icmp .ge 20, 3, 0, 0, 0), (8, .aload_n 0, 1, 0, 0, 0), (9, .invokevirtual 26, 3, 60, 1, 5), (12, .ifCond .ne 13, 3, 0, 0, 0), (15, .aload_n 0, 1, 0, 0, 0), (16, .invokevirtual 37, 3, 78, 1, 5), (19, .iinc 1 1, 3, 0, 0, 0), (22, .goto (-20), 3, 0, 0, 0), (25, .aload_n 0, 1, 0, 0, 0), (26, .iconst 0, 1, 0, 0, 0), (27, .putfield 22, 3, 5, 3, 0), (30, .return_, 1, 0, 0, 0)]
/-- DoorPaints$Town.allLayers()I -/
def cL80 : List MI := [(0, .iconst 0, 1, 0, 0, 0), (1, .istore_n 1, 1, 0, 0, 0), (2, .iconst 0, 1, 0, 0, 0), (3, .istore_n 2, 1, 0, 0, 0), (4, .iload_n 2, 1, 0, 0, 0), (5, .aload_n 0, 1, 0, 0, 0), (6, .getfield 36, 3, 3, 3, 0), (9, .if_icmp .ge 21, 3, 0, 0, 0), (12, .iload_n 1, 1, 0, 0, 0), (13, .aload_n 0, 1, 0, 0, 0), (14, .getfield 20, 3, 3, 1, 0), (17, .iload_n 2, 1, 0, 0, 0), (18, .aaload, 1, 0, 0, 0), (19, .getfield 70, 3, 5, 1, 0), (22, .iadd, 1, 0, 0, 0), (23, .istore_n 1, 1, 0, 0, 0), (24, .iinc 2 1, 3, 0, 0, 0), (27, .goto (-23), 3, 0, 0, 0), (30, .iload_n 1, 1, 0, 0, 0), (31, .ireturn, 1, 0, 0, 0)]
/-- DoorPaints.scrape(I)I -/
def cL81 : List MI := [(0, .aload_n 0, 1, 0, 0, 0), (1, .getfield 26, 3, 0, 2, 0), (4, .getfield 90, 3, 2, 0, 0), (7, .iload_n 1, 1, 0, 0, 0), (8, .invokevirtual 136, 3, 50, 2, 3), (11, .ifCond .ne 5, 3, 0, 0, 0), (14, .iconst (-1), 1, 0, 0, 0), (15, .ireturn, 1, 0, 0, 0), (16, .aload_n 0, 1, 0, 0, 0), (17, .getfield 26, 3, 0, 2, 0), (20, .getfield 90, 3, 2, 0, 0), (23, .getfield 139, 3, 3, 1, 0), (26, .iload_n 1, 1, 0, 0, 0), (27, .aaload, 1, 0, 0, 0), (28, .astore_n 2, 1, 0, 0, 0), (29, .aload_n 2, 1, 0, 0, 0), (30, .getfield 148, 3, 5, 1, 0), (33, .ifCond .ne 6, 3, 0, 0, 0), (36, .bipush (-2), 2, 0, 0, 0), (38, .ireturn, 1, 0, 0, 0), (39, .aload_n 2, 1, 0, 0, 0), (40, .invokevirtual 178, 3, 78, 1, 5), (43, .aload_n 2, 1, 0, 0, 0), (44, .iconst 0, 1, 0, 0, 0), (45, .putfield 157, 3, 5, 3, 0), (48, .aload_n 2, 1, 0, 0, 0), (49, .invokevirtual 151, 3, 60, 1, 5), (52, .ireturn, 1, 0, 0, 0)]
/-- DoorPaints.alter(III)I -/
def cL82_0 : List MI := [(0, .aload_n 0, 1, 0, 0, 0), (1, .getfield 26, 3, 0, 2, 0), (4, .getfield 90, 3, 2, 0, 0), (7, .iload_n 1, 1, 0, 0, 0), (8, .invokevirtual 111, 3, 49, 2, 3), (11, .ifCond .eq 7, 3, 0, 0, 0), (14, .iload_n 3, 1, 0, 0, 0), (15, .ifCond .ge 5, 3, 0, 0, 0), (18, .iconst (-1), 1, 0, 0, 0), (19, .ireturn, 1, 0, 0, 0), (20, .aload_n 0, 1, 0, 0, 0), (21, .getfield 26, 3, 0, 2, 0), (24, .getfield 90, 3, 2, 0, 0), (27, .getfield 114, 3, 3, 0, 0), (30, .iload_n 1, 1, 0, 0, 0), (31, .aaload, 1, 0, 0, 0), (32, .astore 4, 2, 0, 0, 0), (34, .iload_n 2, 1, 0, 0, 0), (35, .ifCond .ne 24, 3, 0, 0, 0), (38, .iload_n 3, 1, 0, 0, 0), (39, .iconst 4, 1, 0, 0, 0), (40, .if_icmp .ge 19, 3, 0, 0, 0), (43, .aload 4, 2, 0, 0, 0), (45, .getfield 118, 3, 4, 0, 0), (48, .istore 5, 2, 0, 0, 0), (50, .aload 4, 2, 0, 0, 0), (52, .iload_n 3, 1, 0, 0, 0), (53, .putfield 118, 3, 4, 0, 0), (56, .iload 5, 2, 0, 0, 0), (58, .ireturn, 1, 0, 0, 0), (59, .iload_n 2, 1, 0, 0, 0), (60, .iconst 1, 1, 0, 0, 0), (61, .if_icmp .ne 25, 3, 0, 0, 0), (64, .iload_n 3, 1, 0, 0, 0), (65, .bipush 6, 2, 0, 0, 0), (67, .if_icmp .ge 19, 3, 0, 0, 0), (70, .aload 4, 2, 0, 0, 0), (72, .getfield 123, 3, 4, 1, 0), (75, .istore 5, 2, 0, 0, 0), (77, .aload 4, 2, 0, 0, 0), (79, .iload_n 3, 1, 0, 0, 0), (80, .putfield 123, 3, 4, 1, 0), (83, .iload 5, 2, 0, 0, 0), (85, .ireturn, 1, 0, 0, 0), (86, .iload_n 2, 1, 0, 0, 0), (87, .iconst 2, 1, 0, 0, 0), (88, .if_icmp .ne 25, 3, 0, 0, 0), (91, .iload_n 3, 1, 0, 0, 0), (92, .bipush 99, 2, 0, 0, 0), (94, .if_icmp .gt 19, 3, 0, 0, 0)]
def cL82_1 : List MI := [(97, .aload 4, 2, 0, 0, 0), (99, .getfield 126, 3, 4, 2, 0), (102, .istore 5, 2, 0, 0, 0), (104, .aload 4, 2, 0, 0, 0), (106, .iload_n 3, 1, 0, 0, 0), (107, .putfield 126, 3, 4, 2, 0), (110, .iload 5, 2, 0, 0, 0), (112, .ireturn, 1, 0, 0, 0), (113, .iload_n 2, 1, 0, 0, 0), (114, .iconst 3, 1, 0, 0, 0), (115, .if_icmp .ne 23, 3, 0, 0, 0), (118, .iload_n 3, 1, 0, 0, 0), (119, .ifCond .ne 19, 3, 0, 0, 0), (122, .aload 4, 2, 0, 0, 0), (124, .getfield 129, 3, 4, 3, 0), (127, .istore 5, 2, 0, 0, 0), (129, .aload 4, 2, 0, 0, 0), (131, .iconst 0, 1, 0, 0, 0), (132, .putfield 129, 3, 4, 3, 0), (135, .iload 5, 2, 0, 0, 0), (137, .ireturn, 1, 0, 0, 0), (138, .iconst (-1), 1, 0, 0, 0), (139, .ireturn, 1, 0, 0, 0)]
def cL82 : List MI := cL82_0 ++ (cL82_1)
/-- DoorPaints.ought(IIZ)I -/
def cL83 : List MI := [(0, .aload_n 0, 1, 0, 0, 0), (1, .getfield 26, 3, 0, 2, 0), (4, .getfield 90, 3, 2, 0, 0), (7, .iload_n 1, 1, 0, 0, 0), (8, .invokevirtual 136, 3, 50, 2, 3), (11, .ifCond .eq 10, 3, 0, 0, 0), (14, .iload_n 2, 1, 0, 0, 0), (15, .invokestatic 181, 3, 73, 1, 0), (18, .ifCond .ne 5, 3, 0, 0, 0), (21, .iconst (-1), 1, 0, 0, 0), (22, .ireturn, 1, 0, 0, 0), (23, .aload_n 0, 1, 0, 0, 0), (24, .getfield 26, 3, 0, 2, 0), (27, .getfield 90, 3, 2, 0, 0), (30, .getfield 139, 3, 3, 1, 0), (33, .iload_n 1, 1, 0, 0, 0), (34, .aaload, 1, 0, 0, 0), (35, .iload_n 2, 1, 0, 0, 0), (36, .iload_n 3, 1, 0, 0, 0), (37, .invokevirtual 184, 3, 39, 3, 5), (40, .iload_n 3, 1, 0, 0, 0), (41, .ifCond .eq 7, 3, 0, 0, 0), (44, .iconst 1, 1, 0, 0, 0), (45, .goto 4, 3, 0, 0, 0), (48, .iconst 0, 1, 0, 0, 0), (49, .ireturn, 1, 0, 0, 0)]
/-- DoorPaints.plans(I)I -/
def cL84 : List MI := [(0, .iload_n 1, 1, 0, 0, 0), (1, .invokestatic 188, 3, 41, 1, 0), (4, .ifCond .eq 17, 3, 0, 0, 0), (7, .aload_n 0, 1, 0, 0, 0), (8, .getfield 26, 3, 0, 2, 0), (11, .getfield 90, 3, 2, 0, 0), (14, .iload_n 1, 1, 0, 0, 0), (15, .invokevirtual 191, 3, 48, 2, 3), (18, .ifCond .ne 5, 3, 0, 0, 0), (21, .iconst (-1), 1, 0, 0, 0), (22, .ireturn, 1, 0, 0, 0), (23, .aload_n 0, 1, 0, 0, 0), (24, .getfield 26, 3, 0, 2, 0), (27, .iload_n 1, 1, 0, 0, 0), (28, .invokevirtual 194, 3, 43, 2, 2), (31, .ifCond .eq 13, 3, 0, 0, 0), (34, .aload_n 0, 1, 0, 0, 0), (35, .getfield 26, 3, 0, 2, 0), (38, .getfield 99, 3, 2, 2, 0), (41, .goto 5, 3, 0, 0, 0), (44, .bipush (-3), 2, 0, 0, 0), (46, .ireturn, 1, 0, 0, 0)]
/-- DoorPaints.cut(I)I -/
def cL85 : List MI := [(0, .iload_n 1, 1, 0, 0, 0), (1, .ifCond .lt 14, 3, 0, 0, 0), (4, .iload_n 1, 1, 0, 0, 0), (5, .aload_n 0, 1, 0, 0, 0), (6, .getfield 26, 3, 0, 2, 0), (9, .getfield 99, 3, 2, 2, 0), (12, .if_icmp .le 5, 3, 0, 0, 0), (15, .iconst (-1), 1, 0, 0, 0), (16, .ireturn, 1, 0, 0, 0), (17, .aload_n 0, 1, 0, 0, 0), (18, .getfield 26, 3, 0, 2, 0), (21, .getfield 99, 3, 2, 2, 0), (24, .istore_n 2, 1, 0, 0, 0), (25, .aload_n 0, 1, 0, 0, 0), (26, .getfield 26, 3, 0, 2, 0), (29, .iload_n 1, 1, 0, 0, 0), (30, .putfield 99, 3, 2, 2, 0), (33, .iload_n 2, 1, 0, 0, 0), (34, .ireturn, 1, 0, 0, 0)]
/-- DoorPaints.runs(I)I -/
def cL86 : List MI := [(0, .iload_n 1, 1, 0, 0, 0), (1, .ifCond .lt 8, 3, 0, 0, 0), (4, .iload_n 1, 1, 0, 0, 0), (5, .iconst 4, 1, 0, 0, 0), (6, .if_icmp .le 5, 3, 0, 0, 0), (9, .iconst (-1), 1, 0, 0, 0), (10, .ireturn, 1, 0, 0, 0), (11, .aload_n 0, 1, 0, 0, 0), (12, .invokevirtual 197, 3, 87, 1, 0), (15, .istore_n 2, 1, 0, 0, 0), (16, .iload_n 1, 1, 0, 0, 0), (17, .tableswitch 54 0 3 #[31, 36, 44, 46], 31, 0, 0, 0), (48, .aload_n 0, 1, 0, 0, 0), (49, .invokevirtual 200, 3, 91, 1, 0), (52, .ireturn, 1, 0, 0, 0), (53, .aload_n 0, 1, 0, 0, 0), (54, .getfield 41, 3, 0, 5, 0), (57, .invokevirtual 105, 3, 58, 1, 3), (60, .ireturn, 1, 0, 0, 0), (61, .iload_n 2, 1, 0, 0, 0), (62, .ireturn, 1, 0, 0, 0), (63, .aload_n 0, 1, 0, 0, 0), (64, .getfield 41, 3, 0, 5, 0), (67, .invokevirtual 175, 3, 80, 1, 3), (70, .ireturn, 1, 0, 0, 0), (71, .aload_n 0, 1, 0, 0, 0), (72, .getfield 41, 3, 0, 5, 0), (75, .invokevirtual 203, 3, 92, 1, 3), (78, .ireturn, 1, 0, 0, 0)]
/-- DoorPaints.rehearse()I -/
def cL87 : List MI := [(0, .aload_n 0, 1, 0, 0, 0), (1, .getfield 41, 3, 0, 5, 0), (4, .aload_n 0, 1, 0, 0, 0), (5, .getfield 26, 3, 0, 2, 0), (8, .getfield 90, 3, 2, 0, 0), (11, .invokevirtual 206, 3, 52, 2, 3), (14, .aload_n 0, 1, 0, 0, 0), (15, .iconst 0, 1, 0, 0, 0), (16, .aload_n 0, 1, 0, 0, 0), (17, .getfield 26, 3, 0, 2, 0), (20, .getfield 99, 3, 2, 2, 0), (23, .invokevirtual 247, 3, 88, 3, 0), (26, .ireturn, 1, 0, 0, 0)]
/-- DoorPaints.actInTrial(II)I -/
def cL88 : List MI := [(0, .bipush (-4), 2, 0, 0, 0), (2, .istore_n 3, 1, 0, 0, 0), (3, .iload_n 1, 1, 0, 0, 0), (4, .istore 4, 2, 0, 0, 0), (6, .iload 4, 2, 0, 0, 0), (8, .iload_n 2, 1, 0, 0, 0), (9, .if_icmp .ge 50, 3, 0, 0, 0), (12, .iload 4, 2, 0, 0, 0), (14, .aload_n 0, 1, 0, 0, 0), (15, .getfield 26, 3, 0, 2, 0), (18, .getfield 99, 3, 2, 2, 0), (21, .if_icmp .ge 38, 3, 0, 0, 0), (24, .aload_n 0, 1, 0, 0, 0), (25, .getfield 41, 3, 0, 5, 0), (28, .aload_n 0, 1, 0, 0, 0), (29, .getfield 26, 3, 0, 2, 0), (32, .getfield 161, 3, 2, 1, 0), (35, .iload 4, 2, 0, 0, 0), (37, .iaload, 1, 0, 0, 0), (38, .invokevirtual 323, 3, 89, 2, 3), (41, .ifCond .ne 12, 3, 0, 0, 0), (44, .iload_n 3, 1, 0, 0, 0), (45, .bipush (-4), 2, 0, 0, 0), (47, .if_icmp .ne 6, 3, 0, 0, 0), (50, .iload 4, 2, 0, 0, 0), (52, .istore_n 3, 1, 0, 0, 0), (53, .iinc 4 1, 3, 0, 0, 0), (56, .goto (-50), 3, 0, 0, 0), (59, .iload_n 3, 1, 0, 0, 0), (60, .ireturn, 1, 0, 0, 0)]
/-- DoorPaints$Town.undergo(I)Z -/
def cL89 : List MI := [(0, .iload_n 1, 1, 0, 0, 0), (1, .invokestatic 45, 3, 42, 1, 0), (4, .ifCond .eq 10, 3, 0, 0, 0), (7, .aload_n 0, 1, 0, 0, 0), (8, .iload_n 1, 1, 0, 0, 0), (9, .invokevirtual 106, 3, 76, 2, 3), (12, .iconst 1, 1, 0, 0, 0), (13, .ireturn, 1, 0, 0, 0), (14, .aload_n 0, 1, 0, 0, 0), (15, .iload_n 1, 1, 0, 0, 0), (16, .bipush 10, 2, 0, 0, 0), (18, .idiv, 1, 0, 0, 0), (19, .iload_n 1, 1, 0, 0, 0), (20, .bipush 10, 2, 0, 0, 0), (22, .irem, 1, 0, 0, 0), (23, .invokevirtual 109, 3, 70, 3, 3), (26, .invokestatic 112, 3, 90, 1, 0), (29, .ifCond .ne 7, 3, 0, 0, 0), (32, .iconst 1, 1, 0, 0, 0), (33, .goto 4, 3, 0, 0, 0), (36, .iconst 0, 1, 0, 0, 0), (37, .ireturn, 1, 0, 0, 0)]
end
section
/-! TABLES: the methods' listings (written by a program) -/
/-- DoorPaints.isRefusal(I)Z -/
def cL90 : List MI := [(0, .iload_n 0, 1, 0, 0, 0), (1, .iconst (-1), 1, 0, 0, 0), (2, .if_icmp .eq 15, 3, 0, 0, 0), (5, .iload_n 0, 1, 0, 0, 0), (6, .bipush (-2), 2, 0, 0, 0), (8, .if_icmp .eq 9, 3, 0, 0, 0), (11, .iload_n 0, 1, 0, 0, 0), (12, .bipush (-3), 2, 0, 0, 0), (14, .if_icmp .ne 7, 3, 0, 0, 0), (17, .iconst 1, 1, 0, 0, 0), (18, .goto 4, 3, 0, 0, 0), (21, .iconst 0, 1, 0, 0, 0), (22, .ireturn, 1, 0, 0, 0)]
/-- DoorPaints.takenInTrial()I -/
def cL91 : List MI := [(0, .aload_n 0, 1, 0, 0, 0), (1, .getfield 26, 3, 0, 2, 0), (4, .getfield 90, 3, 2, 0, 0), (7, .invokevirtual 108, 3, 61, 1, 3), (10, .aload_n 0, 1, 0, 0, 0), (11, .getfield 41, 3, 0, 5, 0), (14, .invokevirtual 108, 3, 61, 1, 3), (17, .isub, 1, 0, 0, 0), (18, .ireturn, 1, 0, 0, 0)]
/-- DoorPaints$Town.markedBits()I -/
def cL92 : List MI := [(0, .iconst 0, 1, 0, 0, 0), (1, .istore_n 1, 1, 0, 0, 0), (2, .iconst 0, 1, 0, 0, 0), (3, .istore_n 2, 1, 0, 0, 0), (4, .iload_n 2, 1, 0, 0, 0), (5, .aload_n 0, 1, 0, 0, 0), (6, .getfield 29, 3, 3, 2, 0), (9, .if_icmp .ge 31, 3, 0, 0, 0), (12, .iload_n 1, 1, 0, 0, 0), (13, .aload_n 0, 1, 0, 0, 0), (14, .getfield 11, 3, 3, 0, 0), (17, .iload_n 2, 1, 0, 0, 0), (18, .aaload, 1, 0, 0, 0), (19, .getfield 64, 3, 4, 3, 0), (22, .ifCond .eq 9, 3, 0, 0, 0), (25, .iconst 1, 1, 0, 0, 0), (26, .iload_n 2, 1, 0, 0, 0), (27, .ishl, 1, 0, 0, 0), (28, .goto 4, 3, 0, 0, 0), (31, .iconst 0, 1, 0, 0, 0), (32, .ior, 1, 0, 0, 0), (33, .istore_n 1, 1, 0, 0, 0), (34, .iinc 2 1, 3, 0, 0, 0), (37, .goto (-33), 3, 0, 0, 0), (40, .iload_n 1, 1, 0, 0, 0), (41, .ireturn, 1, 0, 0, 0)]
/-- DoorPaints.ahead(I)I -/
def cL93 : List MI := [(0, .aload_n 0, 1, 0, 0, 0), (1, .getfield 26, 3, 0, 2, 0), (4, .getfield 90, 3, 2, 0, 0), (7, .iload_n 1, 1, 0, 0, 0), (8, .invokevirtual 136, 3, 50, 2, 3), (11, .ifCond .ne 5, 3, 0, 0, 0), (14, .iconst (-1), 1, 0, 0, 0), (15, .ireturn, 1, 0, 0, 0), (16, .aload_n 0, 1, 0, 0, 0), (17, .invokevirtual 197, 3, 87, 1, 0), (20, .pop, 1, 0, 0, 0), (21, .aload_n 0, 1, 0, 0, 0), (22, .getfield 41, 3, 0, 5, 0), (25, .getfield 139, 3, 3, 1, 0), (28, .iload_n 1, 1, 0, 0, 0), (29, .aaload, 1, 0, 0, 0), (30, .invokevirtual 151, 3, 60, 1, 5), (33, .ireturn, 1, 0, 0, 0)]
/-- DoorPaints.clears(I)I -/
def cL94 : List MI := [(0, .aload_n 0, 1, 0, 0, 0), (1, .getfield 26, 3, 0, 2, 0), (4, .getfield 90, 3, 2, 0, 0), (7, .iload_n 1, 1, 0, 0, 0), (8, .invokevirtual 136, 3, 50, 2, 3), (11, .ifCond .ne 5, 3, 0, 0, 0), (14, .iconst (-1), 1, 0, 0, 0), (15, .ireturn, 1, 0, 0, 0), (16, .iconst 0, 1, 0, 0, 0), (17, .istore_n 2, 1, 0, 0, 0), (18, .iconst 0, 1, 0, 0, 0), (19, .istore_n 3, 1, 0, 0, 0), (20, .iload_n 3, 1, 0, 0, 0), (21, .aload_n 0, 1, 0, 0, 0), (22, .getfield 26, 3, 0, 2, 0), (25, .getfield 90, 3, 2, 0, 0), (28, .getfield 93, 3, 3, 2, 0), (31, .if_icmp .ge 59, 3, 0, 0, 0), (34, .aload_n 0, 1, 0, 0, 0), (35, .getfield 41, 3, 0, 5, 0), (38, .aload_n 0, 1, 0, 0, 0), (39, .getfield 26, 3, 0, 2, 0), (42, .getfield 90, 3, 2, 0, 0), (45, .invokevirtual 206, 3, 52, 2, 3), (48, .aload_n 0, 1, 0, 0, 0), (49, .getfield 41, 3, 0, 5, 0), (52, .iload_n 3, 1, 0, 0, 0), (53, .iload_n 1, 1, 0, 0, 0), (54, .invokevirtual 168, 3, 70, 3, 3), (57, .invokestatic 209, 3, 90, 1, 0), (60, .ifCond .ne 24, 3, 0, 0, 0), (63, .aload_n 0, 1, 0, 0, 0), (64, .getfield 41, 3, 0, 5, 0), (67, .getfield 139, 3, 3, 1, 0), (70, .iload_n 1, 1, 0, 0, 0), (71, .aaload, 1, 0, 0, 0), (72, .invokevirtual 212, 3, 59, 1, 5), (75, .ifCond .ne 9, 3, 0, 0, 0), (78, .iload_n 2, 1, 0, 0, 0), (79, .iconst 1, 1, 0, 0, 0), (80, .iload_n 3, 1, 0, 0, 0), (81, .ishl, 1, 0, 0, 0), (82, .ior, 1, 0, 0, 0), (83, .istore_n 2, 1, 0, 0, 0), (84, .iinc 3 1, 3, 0, 0, 0), (87, .goto (-67), 3, 0, 0, 0), (90, .iload_n 2, 1, 0, 0, 0), (91, .ireturn, 1, 0, 0, 0)]
/-- DoorPaints.best(II)I -/
def cL95 : List MI := [(0, .iload_n 1, 1, 0, 0, 0), (1, .ifCond .lt 23, 3, 0, 0, 0), (4, .iload_n 1, 1, 0, 0, 0), (5, .iconst 3, 1, 0, 0, 0), (6, .if_icmp .gt 18, 3, 0, 0, 0), (9, .iload_n 2, 1, 0, 0, 0), (10, .ifCond .lt 14, 3, 0, 0, 0), (13, .iload_n 2, 1, 0, 0, 0), (14, .iconst 1, 1, 0, 0, 0), (15, .if_icmp .le 11, 3, 0, 0, 0), (18, .iload_n 2, 1, 0, 0, 0), (19, .bipush 10, 2, 0, 0, 0), (21, .if_icmp .ge 5, 3, 0, 0, 0), (24, .iconst (-1), 1, 0, 0, 0), (25, .ireturn, 1, 0, 0, 0), (26, .aload_n 0, 1, 0, 0, 0), (27, .getfield 48, 3, 0, 6, 0), (30, .aload_n 0, 1, 0, 0, 0), (31, .getfield 26, 3, 0, 2, 0), (34, .getfield 90, 3, 2, 0, 0), (37, .iload_n 1, 1, 0, 0, 0), (38, .invokevirtual 216, 3, 96, 3, 7), (41, .iload_n 2, 1, 0, 0, 0), (42, .lookupswitch 42 #[(0, 26), (1, 34)], 26, 0, 0, 0), (68, .aload_n 0, 1, 0, 0, 0), (69, .getfield 48, 3, 0, 6, 0), (72, .getfield 220, 3, 7, 4, 0), (75, .ireturn, 1, 0, 0, 0), (76, .aload_n 0, 1, 0, 0, 0), (77, .getfield 48, 3, 0, 6, 0), (80, .getfield 223, 3, 7, 5, 0), (83, .ireturn, 1, 0, 0, 0), (84, .aload_n 0, 1, 0, 0, 0), (85, .getfield 48, 3, 0, 6, 0), (88, .iload_n 2, 1, 0, 0, 0), (89, .bipush 10, 2, 0, 0, 0), (91, .isub, 1, 0, 0, 0), (92, .invokevirtual 226, 3, 106, 2, 7), (95, .ireturn, 1, 0, 0, 0)]
/-- DoorPaints$Search.forBest(LDoorPaints$Town;I)V -/
def cL96 : List MI := [(0, .aload_n 0, 1, 0, 0, 0), (1, .iconst 1, 1, 0, 0, 0), (2, .putfield 25, 3, 7, 6, 0), (5, .aload_n 0, 1, 0, 0, 0), (6, .ldc 29, 2, 0, 0, 1073741824), (8, .putfield 30, 3, 7, 4, 0), (11, .aload_n 0, 1, 0, 0, 0), (12, .aload_n 1, 1, 0, 0, 0), (13, .iload_n 2, 1, 0, 0, 0), (14, .invokevirtual 34, 3, 97, 3, 7), (17, .aload_n 0, 1, 0, 0, 0), (18, .iconst 0, 1, 0, 0, 0), (19, .aload_n 0, 1, 0, 0, 0), (20, .getfield 12, 3, 7, 0, 0), (23, .invokevirtual 38, 3, 58, 1, 3), (26, .invokestatic 42, 3, 99, 1, 0), (29, .iconst 0, 1, 0, 0, 0), (30, .invokevirtual 48, 3, 100, 4, 7), (33, .return_, 1, 0, 0, 0)]
/-- DoorPaints$Search.begin(LDoorPaints$Town;I)V -/
def cL97 : List MI := [(0, .aload_n 0, 1, 0, 0, 0), (1, .getfield 12, 3, 7, 0, 0), (4, .aload_n 1, 1, 0, 0, 0), (5, .invokevirtual 52, 3, 52, 2, 3), (8, .aload_n 0, 1, 0, 0, 0), (9, .aload_n 1, 1, 0, 0, 0), (10, .invokevirtual 56, 3, 98, 1, 3), (13, .ifCond .eq 7, 3, 0, 0, 0), (16, .iload_n 2, 1, 0, 0, 0), (17, .goto 4, 3, 0, 0, 0), (20, .iconst 0, 1, 0, 0, 0), (21, .putfield 60, 3, 7, 3, 0), (24, .aload_n 0, 1, 0, 0, 0), (25, .ldc 29, 2, 0, 0, 1073741824), (27, .putfield 63, 3, 7, 5, 0), (30, .return_, 1, 0, 0, 0)]
/-- DoorPaints$Town.hasVisits()Z -/
def cL98 : List MI := [(0, .aload_n 0, 1, 0, 0, 0), (1, .getfield 29, 3, 3, 2, 0), (4, .ifCond .le 14, 3, 0, 0, 0), (7, .aload_n 0, 1, 0, 0, 0), (8, .getfield 36, 3, 3, 3, 0), (11, .ifCond .le 7, 3, 0, 0, 0), (14, .iconst 1, 1, 0, 0, 0), (15, .goto 4, 3, 0, 0, 0), (18, .iconst 0, 1, 0, 0, 0), (19, .ireturn, 1, 0, 0, 0)]
/-- java/lang/Integer.bitCount(I)I -/
def cL99 : List MI := [(0, .iload_n 0, 1, 0, 0, 0), (1, .iload_n 0, 1, 0, 0, 0), (2, .iconst 1, 1, 0, 0, 0), (3, .iushr, 1, 0, 0, 0), (4, .ldc_w 265, 3, 0, 0, 1431655765), (7, .iand, 1, 0, 0, 0), (8, .isub, 1, 0, 0, 0), (9, .istore_n 0, 1, 0, 0, 0), (10, .iload_n 0, 1, 0, 0, 0), (11, .ldc_w 266, 3, 0, 0, 858993459), (14, .iand, 1, 0, 0, 0), (15, .iload_n 0, 1, 0, 0, 0), (16, .iconst 2, 1, 0, 0, 0), (17, .iushr, 1, 0, 0, 0), (18, .ldc_w 266, 3, 0, 0, 858993459), (21, .iand, 1, 0, 0, 0), (22, .iadd, 1, 0, 0, 0), (23, .istore_n 0, 1, 0, 0, 0), (24, .iload_n 0, 1, 0, 0, 0), (25, .iload_n 0, 1, 0, 0, 0), (26, .iconst 4, 1, 0, 0, 0), (27, .iushr, 1, 0, 0, 0), (28, .iadd, 1, 0, 0, 0), (29, .ldc_w 267, 3, 0, 0, 252645135), (32, .iand, 1, 0, 0, 0), (33, .istore_n 0, 1, 0, 0, 0), (34, .iload_n 0, 1, 0, 0, 0), (35, .iload_n 0, 1, 0, 0, 0), (36, .bipush 8, 2, 0, 0, 0), (38, .iushr, 1, 0, 0, 0), (39, .iadd, 1, 0, 0, 0), (40, .istore_n 0, 1, 0, 0, 0), (41, .iload_n 0, 1, 0, 0, 0), (42, .iload_n 0, 1, 0, 0, 0), (43, .bipush 16, 2, 0, 0, 0), (45, .iushr, 1, 0, 0, 0), (46, .iadd, 1, 0, 0, 0), (47, .istore_n 0, 1, 0, 0, 0), (48, .iload_n 0, 1, 0, 0, 0), (49, .bipush 63, 2, 0, 0, 0), (51, .iand, 1, 0, 0, 0), (52, .ireturn, 1, 0, 0, 0)]
/-- DoorPaints$Search.tryFrom(III)V -/
def cL100_0 : List MI := [(0, .iload_n 1, 1, 0, 0, 0), (1, .aload_n 0, 1, 0, 0, 0), (2, .getfield 60, 3, 7, 3, 0), (5, .if_icmp .ge 8, 3, 0, 0, 0), (8, .iload_n 1, 1, 0, 0, 0), (9, .iconst 3, 1, 0, 0, 0), (10, .if_icmp .lt 19, 3, 0, 0, 0), (13, .aload_n 0, 1, 0, 0, 0), (14, .iload_n 2, 1, 0, 0, 0), (15, .iload_n 3, 1, 0, 0, 0), (16, .invokevirtual 66, 3, 101, 3, 7), (19, .ifCond .eq 9, 3, 0, 0, 0), (22, .aload_n 0, 1, 0, 0, 0), (23, .iload_n 2, 1, 0, 0, 0), (24, .iload_n 3, 1, 0, 0, 0), (25, .invokevirtual 70, 3, 102, 3, 7), (28, .return_, 1, 0, 0, 0), (29, .iconst 0, 1, 0, 0, 0), (30, .istore 4, 2, 0, 0, 0), (32, .iload 4, 2, 0, 0, 0), (34, .aload_n 0, 1, 0, 0, 0), (35, .getfield 12, 3, 7, 0, 0), (38, .getfield 74, 3, 3, 2, 0), (41, .if_icmp .ge 65, 3, 0, 0, 0), (44, .iconst 0, 1, 0, 0, 0), (45, .istore 5, 2, 0, 0, 0), (47, .iload 5, 2, 0, 0, 0), (49, .aload_n 0, 1, 0, 0, 0), (50, .getfield 12, 3, 7, 0, 0), (53, .getfield 77, 3, 3, 3, 0), (56, .if_icmp .ge 44, 3, 0, 0, 0), (59, .aload_n 0, 1, 0, 0, 0), (60, .iload_n 1, 1, 0, 0, 0), (61, .iload_n 2, 1, 0, 0, 0), (62, .iload_n 3, 1, 0, 0, 0), (63, .invokevirtual 80, 3, 103, 4, 7), (66, .ifCond .eq 34, 3, 0, 0, 0), (69, .aload_n 0, 1, 0, 0, 0), (70, .getfield 18, 3, 7, 1, 0), (73, .iload_n 1, 1, 0, 0, 0), (74, .bipush 10, 2, 0, 0, 0), (76, .iload 4, 2, 0, 0, 0), (78, .imul, 1, 0, 0, 0), (79, .iload 5, 2, 0, 0, 0), (81, .iadd, 1, 0, 0, 0), (82, .iastore, 1, 0, 0, 0), (83, .aload_n 0, 1, 0, 0, 0), (84, .iload 4, 2, 0, 0, 0), (86, .iload 5, 2, 0, 0, 0), (88, .iload_n 1, 1, 0, 0, 0)]
def cL100_1 : List MI := [(89, .iload_n 2, 1, 0, 0, 0), (90, .iload_n 3, 1, 0, 0, 0), (91, .invokevirtual 84, 3, 104, 6, 7), (94, .iinc 5 1, 3, 0, 0, 0), (97, .goto (-50), 3, 0, 0, 0), (100, .iinc 4 1, 3, 0, 0, 0), (103, .goto (-71), 3, 0, 0, 0), (106, .return_, 1, 0, 0, 0)]
def cL100 : List MI := cL100_0 ++ (cL100_1)
/-- DoorPaints$Search.isBetter(II)Z -/
def cL101 : List MI := [(0, .iload_n 1, 1, 0, 0, 0), (1, .aload_n 0, 1, 0, 0, 0), (2, .getfield 30, 3, 7, 4, 0), (5, .if_icmp .lt 26, 3, 0, 0, 0), (8, .aload_n 0, 1, 0, 0, 0), (9, .getfield 25, 3, 7, 6, 0), (12, .ifCond .eq 23, 3, 0, 0, 0), (15, .iload_n 1, 1, 0, 0, 0), (16, .aload_n 0, 1, 0, 0, 0), (17, .getfield 30, 3, 7, 4, 0), (20, .if_icmp .ne 15, 3, 0, 0, 0), (23, .iload_n 2, 1, 0, 0, 0), (24, .aload_n 0, 1, 0, 0, 0), (25, .getfield 63, 3, 7, 5, 0), (28, .if_icmp .ge 7, 3, 0, 0, 0), (31, .iconst 1, 1, 0, 0, 0), (32, .goto 4, 3, 0, 0, 0), (35, .iconst 0, 1, 0, 0, 0), (36, .ireturn, 1, 0, 0, 0)]
/-- DoorPaints$Search.take(II)V -/
def cL102 : List MI := [(0, .aload_n 0, 1, 0, 0, 0), (1, .iload_n 1, 1, 0, 0, 0), (2, .putfield 30, 3, 7, 4, 0), (5, .aload_n 0, 1, 0, 0, 0), (6, .iload_n 2, 1, 0, 0, 0), (7, .putfield 63, 3, 7, 5, 0), (10, .iconst 0, 1, 0, 0, 0), (11, .istore_n 3, 1, 0, 0, 0), (12, .iload_n 3, 1, 0, 0, 0), (13, .aload_n 0, 1, 0, 0, 0), (14, .getfield 60, 3, 7, 3, 0), (17, .if_icmp .ge 26, 3, 0, 0, 0), (20, .iload_n 3, 1, 0, 0, 0), (21, .iconst 3, 1, 0, 0, 0), (22, .if_icmp .ge 21, 3, 0, 0, 0), (25, .aload_n 0, 1, 0, 0, 0), (26, .getfield 22, 3, 7, 2, 0), (29, .iload_n 3, 1, 0, 0, 0), (30, .aload_n 0, 1, 0, 0, 0), (31, .getfield 18, 3, 7, 1, 0), (34, .iload_n 3, 1, 0, 0, 0), (35, .iaload, 1, 0, 0, 0), (36, .iastore, 1, 0, 0, 0), (37, .iinc 3 1, 3, 0, 0, 0), (40, .goto (-28), 3, 0, 0, 0), (43, .return_, 1, 0, 0, 0)]
/-- DoorPaints$Search.mayImprove(III)Z -/
def cL103 : List MI := [(0, .aload_n 0, 1, 0, 0, 0), (1, .iconst 0, 1, 0, 0, 0), (2, .iload_n 2, 1, 0, 0, 0), (3, .aload_n 0, 1, 0, 0, 0), (4, .getfield 60, 3, 7, 3, 0), (7, .iload_n 1, 1, 0, 0, 0), (8, .isub, 1, 0, 0, 0), (9, .isub, 1, 0, 0, 0), (10, .invokestatic 123, 3, 9998, 2, 0), (13, .iload_n 3, 1, 0, 0, 0), (14, .invokevirtual 66, 3, 101, 3, 7), (17, .ireturn, 1, 0, 0, 0)]
/-- DoorPaints$Search.tryVisit(IIIII)V -/
def cL104_0 : List MI := [(0, .aload_n 0, 1, 0, 0, 0), (1, .getfield 12, 3, 7, 0, 0), (4, .getfield 88, 3, 3, 0, 0), (7, .iload_n 1, 1, 0, 0, 0), (8, .aaload, 1, 0, 0, 0), (9, .astore 6, 2, 0, 0, 0), (11, .aload_n 0, 1, 0, 0, 0), (12, .getfield 12, 3, 7, 0, 0), (15, .getfield 92, 3, 3, 1, 0), (18, .iload_n 2, 1, 0, 0, 0), (19, .aaload, 1, 0, 0, 0), (20, .astore 7, 2, 0, 0, 0), (22, .aload 6, 2, 0, 0, 0), (24, .getfield 96, 3, 4, 2, 0), (27, .istore 8, 2, 0, 0, 0), (29, .aload 7, 2, 0, 0, 0), (31, .getfield 101, 3, 5, 1, 0), (34, .istore 9, 2, 0, 0, 0), (36, .aload 7, 2, 0, 0, 0), (38, .invokevirtual 106, 3, 60, 1, 5), (41, .istore 10, 2, 0, 0, 0), (43, .aload 7, 2, 0, 0, 0), (45, .getfield 109, 3, 5, 3, 0), (48, .istore 11, 2, 0, 0, 0), (50, .aload 7, 2, 0, 0, 0), (52, .invokevirtual 112, 3, 59, 1, 5), (55, .ifCond .eq 10, 3, 0, 0, 0), (58, .iload 4, 2, 0, 0, 0), (60, .iconst 1, 1, 0, 0, 0), (61, .isub, 1, 0, 0, 0), (62, .goto 5, 3, 0, 0, 0), (65, .iload 4, 2, 0, 0, 0), (67, .istore 12, 2, 0, 0, 0), (69, .aload_n 0, 1, 0, 0, 0), (70, .getfield 12, 3, 7, 0, 0), (73, .iload_n 1, 1, 0, 0, 0), (74, .iload_n 2, 1, 0, 0, 0), (75, .invokevirtual 115, 3, 70, 3, 3), (78, .pop, 1, 0, 0, 0), (79, .aload_n 0, 1, 0, 0, 0), (80, .iload_n 3, 1, 0, 0, 0), (81, .iconst 1, 1, 0, 0, 0), (82, .iadd, 1, 0, 0, 0), (83, .aload 7, 2, 0, 0, 0), (85, .invokevirtual 112, 3, 59, 1, 5), (88, .ifCond .eq 10, 3, 0, 0, 0), (91, .iload 12, 2, 0, 0, 0), (93, .iconst 1, 1, 0, 0, 0), (94, .iadd, 1, 0, 0, 0), (95, .goto 5, 3, 0, 0, 0)]
def cL104_1 : List MI := [(98, .iload 12, 2, 0, 0, 0), (100, .iload 5, 2, 0, 0, 0), (102, .iload 8, 2, 0, 0, 0), (104, .iadd, 1, 0, 0, 0), (105, .aload 6, 2, 0, 0, 0), (107, .getfield 96, 3, 4, 2, 0), (110, .isub, 1, 0, 0, 0), (111, .invokevirtual 48, 3, 100, 4, 7), (114, .aload 6, 2, 0, 0, 0), (116, .iload 8, 2, 0, 0, 0), (118, .putfield 96, 3, 4, 2, 0), (121, .aload 7, 2, 0, 0, 0), (123, .iload 9, 2, 0, 0, 0), (125, .iload 10, 2, 0, 0, 0), (127, .iload 11, 2, 0, 0, 0), (129, .invokevirtual 119, 3, 105, 4, 5), (132, .return_, 1, 0, 0, 0)]
def cL104 : List MI := cL104_0 ++ (cL104_1)
/-- DoorPaints$Door.restore(IIZ)V -/
def cL105 : List MI := [(0, .aload_n 0, 1, 0, 0, 0), (1, .iload_n 1, 1, 0, 0, 0), (2, .putfield 15, 3, 5, 1, 0), (5, .aload_n 0, 1, 0, 0, 0), (6, .getfield 15, 3, 5, 1, 0), (9, .ifCond .le 24, 3, 0, 0, 0), (12, .aload_n 0, 1, 0, 0, 0), (13, .getfield 15, 3, 5, 1, 0), (16, .bipush 6, 2, 0, 0, 0), (18, .if_icmp .gt 15, 3, 0, 0, 0), (21, .aload_n 0, 1, 0, 0, 0), (22, .getfield 9, 3, 5, 0, 0), (25, .aload_n 0, 1, 0, 0, 0), (26, .getfield 15, 3, 5, 1, 0), (29, .iconst 1, 1, 0, 0, 0), (30, .isub, 1, 0, 0, 0), (31, .iload_n 2, 1, 0, 0, 0), (32, .iastore, 1, 0, 0, 0), (33, .aload_n 0, 1, 0, 0, 0), (34, .iload_n 3, 1, 0, 0, 0), (35, .putfield 22, 3, 5, 3, 0), (38, .return_, 1, 0, 0, 0)]
/-- DoorPaints$Search.visitAt(I)I -/
def cL106 : List MI := [(0, .iload_n 1, 1, 0, 0, 0), (1, .ifCond .lt 25, 3, 0, 0, 0), (4, .iload_n 1, 1, 0, 0, 0), (5, .aload_n 0, 1, 0, 0, 0), (6, .getfield 60, 3, 7, 3, 0), (9, .if_icmp .ge 17, 3, 0, 0, 0), (12, .iload_n 1, 1, 0, 0, 0), (13, .iconst 3, 1, 0, 0, 0), (14, .if_icmp .ge 12, 3, 0, 0, 0), (17, .aload_n 0, 1, 0, 0, 0), (18, .getfield 22, 3, 7, 2, 0), (21, .iload_n 1, 1, 0, 0, 0), (22, .iaload, 1, 0, 0, 0), (23, .goto 5, 3, 0, 0, 0), (26, .bipush (-4), 2, 0, 0, 0), (28, .ireturn, 1, 0, 0, 0)]
/-- DoorPaints.few(I)I -/
def cL107 : List MI := [(0, .iload_n 1, 1, 0, 0, 0), (1, .ifCond .eq 11, 3, 0, 0, 0), (4, .iload_n 1, 1, 0, 0, 0), (5, .bipush 10, 2, 0, 0, 0), (7, .if_icmp .ge 5, 3, 0, 0, 0), (10, .iconst (-1), 1, 0, 0, 0), (11, .ireturn, 1, 0, 0, 0), (12, .iconst 0, 1, 0, 0, 0), (13, .istore_n 2, 1, 0, 0, 0), (14, .iload_n 2, 1, 0, 0, 0), (15, .iconst 3, 1, 0, 0, 0), (16, .if_icmp .gt 47, 3, 0, 0, 0), (19, .aload_n 0, 1, 0, 0, 0), (20, .getfield 48, 3, 0, 6, 0), (23, .aload_n 0, 1, 0, 0, 0), (24, .getfield 26, 3, 0, 2, 0), (27, .getfield 90, 3, 2, 0, 0), (30, .iload_n 2, 1, 0, 0, 0), (31, .invokevirtual 229, 3, 108, 3, 7), (34, .ifCond .eq 23, 3, 0, 0, 0), (37, .iload_n 1, 1, 0, 0, 0), (38, .ifCond .ne 7, 3, 0, 0, 0), (41, .iload_n 2, 1, 0, 0, 0), (42, .goto 14, 3, 0, 0, 0), (45, .aload_n 0, 1, 0, 0, 0), (46, .getfield 48, 3, 0, 6, 0), (49, .iload_n 1, 1, 0, 0, 0), (50, .bipush 10, 2, 0, 0, 0), (52, .isub, 1, 0, 0, 0), (53, .invokevirtual 226, 3, 106, 2, 7), (56, .ireturn, 1, 0, 0, 0), (57, .iinc 2 1, 3, 0, 0, 0), (60, .goto (-46), 3, 0, 0, 0), (63, .bipush (-4), 2, 0, 0, 0), (65, .ireturn, 1, 0, 0, 0)]
/-- DoorPaints$Search.clearsAll(LDoorPaints$Town;I)Z -/
def cL108 : List MI := [(0, .aload_n 0, 1, 0, 0, 0), (1, .iconst 0, 1, 0, 0, 0), (2, .putfield 25, 3, 7, 6, 0), (5, .aload_n 0, 1, 0, 0, 0), (6, .iconst 1, 1, 0, 0, 0), (7, .putfield 30, 3, 7, 4, 0), (10, .aload_n 0, 1, 0, 0, 0), (11, .aload_n 1, 1, 0, 0, 0), (12, .iload_n 2, 1, 0, 0, 0), (13, .invokevirtual 34, 3, 97, 3, 7), (16, .aload_n 0, 1, 0, 0, 0), (17, .iconst 0, 1, 0, 0, 0), (18, .aload_n 0, 1, 0, 0, 0), (19, .getfield 12, 3, 7, 0, 0), (22, .invokevirtual 38, 3, 58, 1, 3), (25, .invokestatic 42, 3, 99, 1, 0), (28, .iconst 0, 1, 0, 0, 0), (29, .invokevirtual 48, 3, 100, 4, 7), (32, .aload_n 0, 1, 0, 0, 0), (33, .getfield 30, 3, 7, 4, 0), (36, .ifCond .ne 7, 3, 0, 0, 0), (39, .iconst 1, 1, 0, 0, 0), (40, .goto 4, 3, 0, 0, 0), (43, .iconst 0, 1, 0, 0, 0), (44, .ireturn, 1, 0, 0, 0)]
/-- DoorPaints.reads(I)I -/
def cL109 : List MI := [(0, .aload_n 0, 1, 0, 0, 0), (1, .getfield 26, 3, 0, 2, 0), (4, .getfield 90, 3, 2, 0, 0), (7, .iload_n 1, 1, 0, 0, 0), (8, .invokevirtual 111, 3, 49, 2, 3), (11, .ifCond .ne 5, 3, 0, 0, 0), (14, .iconst (-1), 1, 0, 0, 0), (15, .ireturn, 1, 0, 0, 0), (16, .aload_n 0, 1, 0, 0, 0), (17, .getfield 26, 3, 0, 2, 0), (20, .getfield 90, 3, 2, 0, 0), (23, .iload_n 1, 1, 0, 0, 0), (24, .invokevirtual 132, 3, 63, 2, 3), (27, .istore_n 2, 1, 0, 0, 0), (28, .iconst 0, 1, 0, 0, 0), (29, .istore_n 3, 1, 0, 0, 0), (30, .iconst 0, 1, 0, 0, 0), (31, .istore 4, 2, 0, 0, 0), (33, .iload 4, 2, 0, 0, 0), (35, .aload_n 0, 1, 0, 0, 0), (36, .getfield 26, 3, 0, 2, 0), (39, .getfield 90, 3, 2, 0, 0), (42, .getfield 96, 3, 3, 3, 0), (45, .if_icmp .ge 36, 3, 0, 0, 0), (48, .aload_n 0, 1, 0, 0, 0), (49, .getfield 26, 3, 0, 2, 0), (52, .getfield 90, 3, 2, 0, 0), (55, .getfield 139, 3, 3, 1, 0), (58, .iload 4, 2, 0, 0, 0), (60, .aaload, 1, 0, 0, 0), (61, .iload_n 2, 1, 0, 0, 0), (62, .invokevirtual 233, 3, 110, 2, 5), (65, .ifCond .eq 10, 3, 0, 0, 0), (68, .iload_n 3, 1, 0, 0, 0), (69, .iconst 1, 1, 0, 0, 0), (70, .iload 4, 2, 0, 0, 0), (72, .ishl, 1, 0, 0, 0), (73, .ior, 1, 0, 0, 0), (74, .istore_n 3, 1, 0, 0, 0), (75, .iinc 4 1, 3, 0, 0, 0), (78, .goto (-45), 3, 0, 0, 0), (81, .iload_n 3, 1, 0, 0, 0), (82, .ireturn, 1, 0, 0, 0)]
/-- DoorPaints$Door.hasLayerOf(I)Z -/
def cL110 : List MI := [(0, .iconst 0, 1, 0, 0, 0), (1, .istore_n 2, 1, 0, 0, 0), (2, .iload_n 2, 1, 0, 0, 0), (3, .aload_n 0, 1, 0, 0, 0), (4, .getfield 15, 3, 5, 1, 0), (7, .if_icmp .ge 21, 3, 0, 0, 0), (10, .aload_n 0, 1, 0, 0, 0), (11, .getfield 9, 3, 5, 0, 0), (14, .iload_n 2, 1, 0, 0, 0), (15, .iaload, 1, 0, 0, 0), (16, .iload_n 1, 1, 0, 0, 0), (17, .if_icmp .ne 5, 3, 0, 0, 0), (20, .iconst 1, 1, 0, 0, 0), (21, .ireturn, 1, 0, 0, 0), (22, .iinc 2 1, 3, 0, 0, 0), (25, .goto (-23), 3, 0, 0, 0), (28, .iconst 0, 1, 0, 0, 0), (29, .ireturn, 1, 0, 0, 0)]
/-- DoorPaints.see(III)I -/
def cL111 : List MI := [(0, .iload_n 3, 1, 0, 0, 0), (1, .invokestatic 181, 3, 73, 1, 0), (4, .ifCond .ne 9, 3, 0, 0, 0), (7, .iload_n 3, 1, 0, 0, 0), (8, .bipush (-4), 2, 0, 0, 0), (10, .if_icmp .ne 7, 3, 0, 0, 0), (13, .iconst 1, 1, 0, 0, 0), (14, .goto 4, 3, 0, 0, 0), (17, .iconst 0, 1, 0, 0, 0), (18, .istore 4, 2, 0, 0, 0), (20, .aload_n 0, 1, 0, 0, 0), (21, .getfield 26, 3, 0, 2, 0), (24, .getfield 90, 3, 2, 0, 0), (27, .iload_n 1, 1, 0, 0, 0), (28, .invokevirtual 136, 3, 50, 2, 3), (31, .ifCond .eq 18, 3, 0, 0, 0), (34, .iload_n 2, 1, 0, 0, 0), (35, .ifCond .lt 14, 3, 0, 0, 0), (38, .iload_n 2, 1, 0, 0, 0), (39, .bipush 6, 2, 0, 0, 0), (41, .if_icmp .ge 8, 3, 0, 0, 0), (44, .iload 4, 2, 0, 0, 0), (46, .ifCond .ne 5, 3, 0, 0, 0), (49, .iconst (-1), 1, 0, 0, 0), (50, .ireturn, 1, 0, 0, 0), (51, .aload_n 0, 1, 0, 0, 0), (52, .getfield 26, 3, 0, 2, 0), (55, .iload_n 1, 1, 0, 0, 0), (56, .iload_n 2, 1, 0, 0, 0), (57, .iload_n 3, 1, 0, 0, 0), (58, .invokevirtual 236, 3, 112, 4, 2), (61, .ifCond .eq 13, 3, 0, 0, 0), (64, .aload_n 0, 1, 0, 0, 0), (65, .getfield 26, 3, 0, 2, 0), (68, .getfield 240, 3, 2, 6, 0), (71, .goto 5, 3, 0, 0, 0), (74, .bipush (-3), 2, 0, 0, 0), (76, .ireturn, 1, 0, 0, 0)]
/-- DoorPaints$Told.addSeen(III)Z -/
def cL112 : List MI := [(0, .aload_n 0, 1, 0, 0, 0), (1, .getfield 39, 3, 2, 6, 0), (4, .bipush 6, 2, 0, 0, 0), (6, .if_icmp .lt 5, 3, 0, 0, 0), (9, .iconst 0, 1, 0, 0, 0), (10, .ireturn, 1, 0, 0, 0), (11, .aload_n 0, 1, 0, 0, 0), (12, .getfield 22, 3, 2, 3, 0), (15, .aload_n 0, 1, 0, 0, 0), (16, .getfield 39, 3, 2, 6, 0), (19, .iload_n 1, 1, 0, 0, 0), (20, .iastore, 1, 0, 0, 0), (21, .aload_n 0, 1, 0, 0, 0), (22, .getfield 25, 3, 2, 4, 0), (25, .aload_n 0, 1, 0, 0, 0), (26, .getfield 39, 3, 2, 6, 0), (29, .iload_n 2, 1, 0, 0, 0), (30, .iastore, 1, 0, 0, 0), (31, .aload_n 0, 1, 0, 0, 0), (32, .getfield 28, 3, 2, 5, 0), (35, .aload_n 0, 1, 0, 0, 0), (36, .getfield 39, 3, 2, 6, 0), (39, .iload_n 3, 1, 0, 0, 0), (40, .iastore, 1, 0, 0, 0), (41, .aload_n 0, 1, 0, 0, 0), (42, .dup, 1, 0, 0, 0), (43, .getfield 39, 3, 2, 6, 0), (46, .iconst 1, 1, 0, 0, 0), (47, .iadd, 1, 0, 0, 0), (48, .putfield 39, 3, 2, 6, 0), (51, .iconst 1, 1, 0, 0, 0), (52, .ireturn, 1, 0, 0, 0)]
/-- DoorPaints.forget(I)I -/
def cL113 : List MI := [(0, .iload_n 1, 1, 0, 0, 0), (1, .ifCond .lt 14, 3, 0, 0, 0), (4, .iload_n 1, 1, 0, 0, 0), (5, .aload_n 0, 1, 0, 0, 0), (6, .getfield 26, 3, 0, 2, 0), (9, .getfield 240, 3, 2, 6, 0), (12, .if_icmp .le 5, 3, 0, 0, 0), (15, .iconst (-1), 1, 0, 0, 0), (16, .ireturn, 1, 0, 0, 0), (17, .aload_n 0, 1, 0, 0, 0), (18, .getfield 26, 3, 0, 2, 0), (21, .getfield 240, 3, 2, 6, 0), (24, .istore_n 2, 1, 0, 0, 0), (25, .aload_n 0, 1, 0, 0, 0), (26, .getfield 26, 3, 0, 2, 0), (29, .iload_n 1, 1, 0, 0, 0), (30, .putfield 240, 3, 2, 6, 0), (33, .iload_n 2, 1, 0, 0, 0), (34, .ireturn, 1, 0, 0, 0)]
/-- DoorPaints.pots(I)I -/
def cL114_0 : List MI := [(0, .aload_n 0, 1, 0, 0, 0), (1, .getfield 26, 3, 0, 2, 0), (4, .getfield 90, 3, 2, 0, 0), (7, .iload_n 1, 1, 0, 0, 0), (8, .invokevirtual 111, 3, 49, 2, 3), (11, .ifCond .ne 5, 3, 0, 0, 0), (14, .iconst (-1), 1, 0, 0, 0), (15, .ireturn, 1, 0, 0, 0), (16, .iconst 0, 1, 0, 0, 0), (17, .istore_n 2, 1, 0, 0, 0), (18, .iconst 0, 1, 0, 0, 0), (19, .istore_n 3, 1, 0, 0, 0), (20, .iload_n 3, 1, 0, 0, 0), (21, .aload_n 0, 1, 0, 0, 0), (22, .getfield 26, 3, 0, 2, 0), (25, .getfield 90, 3, 2, 0, 0), (28, .getfield 93, 3, 3, 2, 0), (31, .if_icmp .ge 75, 3, 0, 0, 0), (34, .aload_n 0, 1, 0, 0, 0), (35, .getfield 41, 3, 0, 5, 0), (38, .aload_n 0, 1, 0, 0, 0), (39, .getfield 26, 3, 0, 2, 0), (42, .getfield 90, 3, 2, 0, 0), (45, .invokevirtual 206, 3, 52, 2, 3), (48, .aload_n 0, 1, 0, 0, 0), (49, .getfield 41, 3, 0, 5, 0), (52, .iload_n 1, 1, 0, 0, 0), (53, .aload_n 0, 1, 0, 0, 0), (54, .getfield 26, 3, 0, 2, 0), (57, .getfield 90, 3, 2, 0, 0), (60, .iload_n 3, 1, 0, 0, 0), (61, .invokevirtual 132, 3, 63, 2, 3), (64, .invokevirtual 243, 3, 115, 3, 3), (67, .aload_n 0, 1, 0, 0, 0), (68, .iconst 0, 1, 0, 0, 0), (69, .aload_n 0, 1, 0, 0, 0), (70, .getfield 26, 3, 0, 2, 0), (73, .getfield 99, 3, 2, 2, 0), (76, .invokevirtual 247, 3, 88, 3, 0), (79, .pop, 1, 0, 0, 0), (80, .aload_n 0, 1, 0, 0, 0), (81, .getfield 26, 3, 0, 2, 0), (84, .aload_n 0, 1, 0, 0, 0), (85, .getfield 41, 3, 0, 5, 0), (88, .invokevirtual 250, 3, 116, 2, 2), (91, .ifCond .eq 9, 3, 0, 0, 0), (94, .iload_n 2, 1, 0, 0, 0), (95, .iconst 1, 1, 0, 0, 0), (96, .iload_n 3, 1, 0, 0, 0), (97, .ishl, 1, 0, 0, 0)]
def cL114_1 : List MI := [(98, .ior, 1, 0, 0, 0), (99, .istore_n 2, 1, 0, 0, 0), (100, .iinc 3 1, 3, 0, 0, 0), (103, .goto (-83), 3, 0, 0, 0), (106, .iload_n 2, 1, 0, 0, 0), (107, .ireturn, 1, 0, 0, 0)]
def cL114 : List MI := cL114_0 ++ (cL114_1)
/-- DoorPaints$Town.lend(II)V -/
def cL115 : List MI := [(0, .aload_n 0, 1, 0, 0, 0), (1, .iload_n 1, 1, 0, 0, 0), (2, .putfield 25, 3, 3, 4, 0), (5, .aload_n 0, 1, 0, 0, 0), (6, .iload_n 2, 1, 0, 0, 0), (7, .putfield 67, 3, 3, 5, 0), (10, .return_, 1, 0, 0, 0)]
/-- DoorPaints$Told.agreesWith(LDoorPaints$Town;)Z -/
def cL116 : List MI := [(0, .iconst 0, 1, 0, 0, 0), (1, .istore_n 2, 1, 0, 0, 0), (2, .iload_n 2, 1, 0, 0, 0), (3, .aload_n 0, 1, 0, 0, 0), (4, .getfield 39, 3, 2, 6, 0), (7, .if_icmp .ge 50, 3, 0, 0, 0), (10, .aload_n 0, 1, 0, 0, 0), (11, .getfield 22, 3, 2, 3, 0), (14, .iload_n 2, 1, 0, 0, 0), (15, .iaload, 1, 0, 0, 0), (16, .istore_n 3, 1, 0, 0, 0), (17, .aload_n 1, 1, 0, 0, 0), (18, .iload_n 3, 1, 0, 0, 0), (19, .invokevirtual 45, 3, 50, 2, 3), (22, .ifCond .eq 27, 3, 0, 0, 0), (25, .aload_n 1, 1, 0, 0, 0), (26, .getfield 49, 3, 3, 1, 0), (29, .iload_n 3, 1, 0, 0, 0), (30, .aaload, 1, 0, 0, 0), (31, .aload_n 0, 1, 0, 0, 0), (32, .getfield 25, 3, 2, 4, 0), (35, .iload_n 2, 1, 0, 0, 0), (36, .iaload, 1, 0, 0, 0), (37, .invokevirtual 53, 3, 65, 2, 5), (40, .aload_n 0, 1, 0, 0, 0), (41, .getfield 28, 3, 2, 5, 0), (44, .iload_n 2, 1, 0, 0, 0), (45, .iaload, 1, 0, 0, 0), (46, .if_icmp .eq 5, 3, 0, 0, 0), (49, .iconst 0, 1, 0, 0, 0), (50, .ireturn, 1, 0, 0, 0), (51, .iinc 2 1, 3, 0, 0, 0), (54, .goto (-52), 3, 0, 0, 0), (57, .iconst 1, 1, 0, 0, 0), (58, .ireturn, 1, 0, 0, 0)]
/-- DoorPaints.rained()I -/
def cL117 : List MI := [(0, .iconst 0, 1, 0, 0, 0), (1, .istore_n 1, 1, 0, 0, 0), (2, .iconst 0, 1, 0, 0, 0), (3, .istore_n 2, 1, 0, 0, 0), (4, .iload_n 2, 1, 0, 0, 0), (5, .aload_n 0, 1, 0, 0, 0), (6, .getfield 26, 3, 0, 2, 0), (9, .getfield 99, 3, 2, 2, 0), (12, .if_icmp .gt 72, 3, 0, 0, 0), (15, .aload_n 0, 1, 0, 0, 0), (16, .getfield 41, 3, 0, 5, 0), (19, .aload_n 0, 1, 0, 0, 0), (20, .getfield 26, 3, 0, 2, 0), (23, .getfield 90, 3, 2, 0, 0), (26, .invokevirtual 206, 3, 52, 2, 3), (29, .aload_n 0, 1, 0, 0, 0), (30, .iconst 0, 1, 0, 0, 0), (31, .iload_n 2, 1, 0, 0, 0), (32, .invokevirtual 247, 3, 88, 3, 0), (35, .pop, 1, 0, 0, 0), (36, .aload_n 0, 1, 0, 0, 0), (37, .getfield 41, 3, 0, 5, 0), (40, .bipush 91, 2, 0, 0, 0), (42, .invokevirtual 171, 3, 76, 2, 3), (45, .aload_n 0, 1, 0, 0, 0), (46, .iload_n 2, 1, 0, 0, 0), (47, .aload_n 0, 1, 0, 0, 0), (48, .getfield 26, 3, 0, 2, 0), (51, .getfield 99, 3, 2, 2, 0), (54, .invokevirtual 247, 3, 88, 3, 0), (57, .pop, 1, 0, 0, 0), (58, .aload_n 0, 1, 0, 0, 0), (59, .getfield 26, 3, 0, 2, 0), (62, .aload_n 0, 1, 0, 0, 0), (63, .getfield 41, 3, 0, 5, 0), (66, .invokevirtual 250, 3, 116, 2, 2), (69, .ifCond .eq 9, 3, 0, 0, 0), (72, .iload_n 1, 1, 0, 0, 0), (73, .iconst 1, 1, 0, 0, 0), (74, .iload_n 2, 1, 0, 0, 0), (75, .ishl, 1, 0, 0, 0), (76, .ior, 1, 0, 0, 0), (77, .istore_n 1, 1, 0, 0, 0), (78, .iinc 2 1, 3, 0, 0, 0), (81, .goto (-77), 3, 0, 0, 0), (84, .iload_n 1, 1, 0, 0, 0), (85, .ireturn, 1, 0, 0, 0)]
/-- DoorPaints.orders(I)I -/
def cL118 : List MI := [(0, .iload_n 1, 1, 0, 0, 0), (1, .ifCond .lt 8, 3, 0, 0, 0), (4, .iload_n 1, 1, 0, 0, 0), (5, .iconst 1, 1, 0, 0, 0), (6, .if_icmp .le 5, 3, 0, 0, 0), (9, .iconst (-1), 1, 0, 0, 0), (10, .ireturn, 1, 0, 0, 0), (11, .aload_n 0, 1, 0, 0, 0), (12, .getfield 26, 3, 0, 2, 0), (15, .getfield 99, 3, 2, 2, 0), (18, .iconst 5, 1, 0, 0, 0), (19, .if_icmp .le 6, 3, 0, 0, 0), (22, .bipush (-2), 2, 0, 0, 0), (24, .ireturn, 1, 0, 0, 0), (25, .aload_n 0, 1, 0, 0, 0), (26, .iconst 0, 1, 0, 0, 0), (27, .putfield 254, 3, 0, 11, 0), (30, .aload_n 0, 1, 0, 0, 0), (31, .iconst 0, 1, 0, 0, 0), (32, .putfield 257, 3, 0, 12, 0), (35, .aload_n 0, 1, 0, 0, 0), (36, .iconst 0, 1, 0, 0, 0), (37, .iconst 0, 1, 0, 0, 0), (38, .invokevirtual 260, 3, 119, 3, 0), (41, .iload_n 1, 1, 0, 0, 0), (42, .ifCond .ne 10, 3, 0, 0, 0), (45, .aload_n 0, 1, 0, 0, 0), (46, .getfield 254, 3, 0, 11, 0), (49, .goto 7, 3, 0, 0, 0), (52, .aload_n 0, 1, 0, 0, 0), (53, .getfield 257, 3, 0, 12, 0), (56, .ireturn, 1, 0, 0, 0)]
/-- DoorPaints.arrange(II)V -/
def cL119 : List MI := [(0, .iload_n 1, 1, 0, 0, 0), (1, .aload_n 0, 1, 0, 0, 0), (2, .getfield 26, 3, 0, 2, 0), (5, .getfield 99, 3, 2, 2, 0), (8, .if_icmp .ge 8, 3, 0, 0, 0), (11, .iload_n 1, 1, 0, 0, 0), (12, .iconst 5, 1, 0, 0, 0), (13, .if_icmp .lt 9, 3, 0, 0, 0), (16, .aload_n 0, 1, 0, 0, 0), (17, .iload_n 1, 1, 0, 0, 0), (18, .invokevirtual 326, 3, 120, 2, 0), (21, .return_, 1, 0, 0, 0), (22, .iconst 0, 1, 0, 0, 0), (23, .istore_n 3, 1, 0, 0, 0), (24, .iload_n 3, 1, 0, 0, 0), (25, .aload_n 0, 1, 0, 0, 0), (26, .getfield 26, 3, 0, 2, 0), (29, .getfield 99, 3, 2, 2, 0), (32, .if_icmp .ge 36, 3, 0, 0, 0), (35, .iload_n 2, 1, 0, 0, 0), (36, .iload_n 3, 1, 0, 0, 0), (37, .ishr, 1, 0, 0, 0), (38, .iconst 1, 1, 0, 0, 0), (39, .iand, 1, 0, 0, 0), (40, .ifCond .ne 22, 3, 0, 0, 0), (43, .aload_n 0, 1, 0, 0, 0), (44, .getfield 52, 3, 0, 7, 0), (47, .iload_n 1, 1, 0, 0, 0), (48, .iload_n 3, 1, 0, 0, 0), (49, .iastore, 1, 0, 0, 0), (50, .aload_n 0, 1, 0, 0, 0), (51, .iload_n 1, 1, 0, 0, 0), (52, .iconst 1, 1, 0, 0, 0), (53, .iadd, 1, 0, 0, 0), (54, .iload_n 2, 1, 0, 0, 0), (55, .iconst 1, 1, 0, 0, 0), (56, .iload_n 3, 1, 0, 0, 0), (57, .ishl, 1, 0, 0, 0), (58, .ior, 1, 0, 0, 0), (59, .invokevirtual 260, 3, 119, 3, 0), (62, .iinc 3 1, 3, 0, 0, 0), (65, .goto (-41), 3, 0, 0, 0), (68, .return_, 1, 0, 0, 0)]
/-- DoorPaints.judgeOrder(I)V -/
def cL120_0 : List MI := [(0, .aload_n 0, 1, 0, 0, 0), (1, .getfield 41, 3, 0, 5, 0), (4, .aload_n 0, 1, 0, 0, 0), (5, .getfield 26, 3, 0, 2, 0), (8, .getfield 90, 3, 2, 0, 0), (11, .invokevirtual 206, 3, 52, 2, 3), (14, .iconst 0, 1, 0, 0, 0), (15, .istore_n 2, 1, 0, 0, 0), (16, .iload_n 2, 1, 0, 0, 0), (17, .iload_n 1, 1, 0, 0, 0), (18, .if_icmp .ge 31, 3, 0, 0, 0), (21, .aload_n 0, 1, 0, 0, 0), (22, .getfield 41, 3, 0, 5, 0), (25, .aload_n 0, 1, 0, 0, 0), (26, .getfield 26, 3, 0, 2, 0), (29, .getfield 161, 3, 2, 1, 0), (32, .aload_n 0, 1, 0, 0, 0), (33, .getfield 52, 3, 0, 7, 0), (36, .iload_n 2, 1, 0, 0, 0), (37, .iaload, 1, 0, 0, 0), (38, .iaload, 1, 0, 0, 0), (39, .invokevirtual 323, 3, 89, 2, 3), (42, .pop, 1, 0, 0, 0), (43, .iinc 2 1, 3, 0, 0, 0), (46, .goto (-30), 3, 0, 0, 0), (49, .aload_n 0, 1, 0, 0, 0), (50, .getfield 26, 3, 0, 2, 0), (53, .aload_n 0, 1, 0, 0, 0), (54, .getfield 41, 3, 0, 5, 0), (57, .invokevirtual 250, 3, 116, 2, 2), (60, .ifCond .eq 40, 3, 0, 0, 0), (63, .aload_n 0, 1, 0, 0, 0), (64, .dup, 1, 0, 0, 0), (65, .getfield 254, 3, 0, 11, 0), (68, .iconst 1, 1, 0, 0, 0), (69, .iadd, 1, 0, 0, 0), (70, .putfield 254, 3, 0, 11, 0), (73, .aload_n 0, 1, 0, 0, 0), (74, .dup, 1, 0, 0, 0), (75, .getfield 257, 3, 0, 12, 0), (78, .iload_n 1, 1, 0, 0, 0), (79, .ifCond .le 16, 3, 0, 0, 0), (82, .iconst 1, 1, 0, 0, 0), (83, .aload_n 0, 1, 0, 0, 0), (84, .getfield 52, 3, 0, 7, 0), (87, .iload_n 1, 1, 0, 0, 0), (88, .iconst 1, 1, 0, 0, 0), (89, .isub, 1, 0, 0, 0), (90, .iaload, 1, 0, 0, 0), (91, .ishl, 1, 0, 0, 0)]
def cL120_1 : List MI := [(92, .goto 4, 3, 0, 0, 0), (95, .iconst 0, 1, 0, 0, 0), (96, .ior, 1, 0, 0, 0), (97, .putfield 257, 3, 0, 12, 0), (100, .return_, 1, 0, 0, 0)]
def cL120 : List MI := cL120_0 ++ (cL120_1)
/-- DoorPaints.luck(III)J -/
def cL121_0 : List MI := [(0, .iload_n 1, 1, 0, 0, 0), (1, .ifCond .lt 32, 3, 0, 0, 0), (4, .iload_n 1, 1, 0, 0, 0), (5, .bipush 10, 2, 0, 0, 0), (7, .if_icmp .gt 26, 3, 0, 0, 0), (10, .aload_n 0, 1, 0, 0, 0), (11, .getfield 26, 3, 0, 2, 0), (14, .getfield 90, 3, 2, 0, 0), (17, .iload_n 2, 1, 0, 0, 0), (18, .invokevirtual 136, 3, 50, 2, 3), (21, .ifCond .eq 12, 3, 0, 0, 0), (24, .iload_n 3, 1, 0, 0, 0), (25, .ifCond .lt 8, 3, 0, 0, 0), (28, .iload_n 3, 1, 0, 0, 0), (29, .iconst 1, 1, 0, 0, 0), (30, .if_icmp .le 7, 3, 0, 0, 0), (33, .ldc2_w 263, 3, 0, 0, (-1)), (36, .lreturn, 1, 0, 0, 0), (37, .aload_n 0, 1, 0, 0, 0), (38, .getfield 26, 3, 0, 2, 0), (41, .invokevirtual 265, 3, 122, 1, 2), (44, .istore 4, 2, 0, 0, 0), (46, .lconst 0, 1, 0, 0, 0), (47, .lstore 5, 2, 0, 0, 0), (49, .iconst 0, 1, 0, 0, 0), (50, .istore 7, 2, 0, 0, 0), (52, .iload 7, 2, 0, 0, 0), (54, .iconst 1, 1, 0, 0, 0), (55, .iload 4, 2, 0, 0, 0), (57, .ishl, 1, 0, 0, 0), (58, .if_icmp .ge 58, 3, 0, 0, 0), (61, .iload 7, 2, 0, 0, 0), (63, .iload 4, 2, 0, 0, 0), (65, .iload_n 1, 1, 0, 0, 0), (66, .invokestatic 268, 3, 123, 3, 0), (69, .lstore 8, 2, 0, 0, 0), (71, .lload 8, 2, 0, 0, 0), (73, .lconst 0, 1, 0, 0, 0), (74, .lcmp, 1, 0, 0, 0), (75, .ifCond .le 35, 3, 0, 0, 0), (78, .aload_n 0, 1, 0, 0, 0), (79, .iload 7, 2, 0, 0, 0), (81, .invokevirtual 272, 3, 124, 2, 0), (84, .lload 5, 2, 0, 0, 0), (86, .aload_n 0, 1, 0, 0, 0), (87, .getfield 41, 3, 0, 5, 0), (90, .getfield 139, 3, 3, 1, 0), (93, .iload_n 2, 1, 0, 0, 0), (94, .aaload, 1, 0, 0, 0), (95, .invokevirtual 212, 3, 59, 1, 5)]
def cL121_1 : List MI := [(98, .ifCond .eq 8, 3, 0, 0, 0), (101, .lload 8, 2, 0, 0, 0), (103, .goto 4, 3, 0, 0, 0), (106, .lconst 0, 1, 0, 0, 0), (107, .ladd, 1, 0, 0, 0), (108, .lstore 5, 2, 0, 0, 0), (110, .iinc 7 1, 3, 0, 0, 0), (113, .goto (-61), 3, 0, 0, 0), (116, .lload 5, 2, 0, 0, 0), (118, .iload 4, 2, 0, 0, 0), (120, .invokestatic 275, 3, 125, 1, 0), (123, .iload_n 3, 1, 0, 0, 0), (124, .invokestatic 279, 3, 126, 3, 0), (127, .lreturn, 1, 0, 0, 0)]
def cL121 : List MI := cL121_0 ++ (cL121_1)
/-- DoorPaints$Told.visitsPlanned()I -/
def cL122 : List MI := [(0, .iconst 0, 1, 0, 0, 0), (1, .istore_n 1, 1, 0, 0, 0), (2, .iconst 0, 1, 0, 0, 0), (3, .istore_n 2, 1, 0, 0, 0), (4, .iload_n 2, 1, 0, 0, 0), (5, .aload_n 0, 1, 0, 0, 0), (6, .getfield 35, 3, 2, 2, 0), (9, .if_icmp .ge 29, 3, 0, 0, 0), (12, .iload_n 1, 1, 0, 0, 0), (13, .aload_n 0, 1, 0, 0, 0), (14, .getfield 18, 3, 2, 1, 0), (17, .iload_n 2, 1, 0, 0, 0), (18, .iaload, 1, 0, 0, 0), (19, .invokestatic 59, 3, 42, 1, 0), (22, .ifCond .eq 7, 3, 0, 0, 0), (25, .iconst 0, 1, 0, 0, 0), (26, .goto 4, 3, 0, 0, 0), (29, .iconst 1, 1, 0, 0, 0), (30, .iadd, 1, 0, 0, 0), (31, .istore_n 1, 1, 0, 0, 0), (32, .iinc 2 1, 3, 0, 0, 0), (35, .goto (-31), 3, 0, 0, 0), (38, .iload_n 1, 1, 0, 0, 0), (39, .ireturn, 1, 0, 0, 0)]
/-- DoorPaints.weightOf(III)J -/
def cL123 : List MI := [(0, .lconst 1, 1, 0, 0, 0), (1, .lstore_n 3, 1, 0, 0, 0), (2, .iconst 0, 1, 0, 0, 0), (3, .istore 5, 2, 0, 0, 0), (5, .iload 5, 2, 0, 0, 0), (7, .iload_n 1, 1, 0, 0, 0), (8, .if_icmp .ge 32, 3, 0, 0, 0), (11, .lload_n 3, 1, 0, 0, 0), (12, .iload_n 0, 1, 0, 0, 0), (13, .iload 5, 2, 0, 0, 0), (15, .ishr, 1, 0, 0, 0), (16, .iconst 1, 1, 0, 0, 0), (17, .iand, 1, 0, 0, 0), (18, .iconst 1, 1, 0, 0, 0), (19, .if_icmp .ne 8, 3, 0, 0, 0), (22, .iload_n 2, 1, 0, 0, 0), (23, .i2l, 1, 0, 0, 0), (24, .goto 8, 3, 0, 0, 0), (27, .bipush 10, 2, 0, 0, 0), (29, .iload_n 2, 1, 0, 0, 0), (30, .isub, 1, 0, 0, 0), (31, .i2l, 1, 0, 0, 0), (32, .lmul, 1, 0, 0, 0), (33, .lstore_n 3, 1, 0, 0, 0), (34, .iinc 5 1, 3, 0, 0, 0), (37, .goto (-32), 3, 0, 0, 0), (40, .lload_n 3, 1, 0, 0, 0), (41, .lreturn, 1, 0, 0, 0)]
/-- DoorPaints.actChosen(I)V -/
def cL124 : List MI := [(0, .aload_n 0, 1, 0, 0, 0), (1, .getfield 41, 3, 0, 5, 0), (4, .aload_n 0, 1, 0, 0, 0), (5, .getfield 26, 3, 0, 2, 0), (8, .getfield 90, 3, 2, 0, 0), (11, .invokevirtual 206, 3, 52, 2, 3), (14, .iconst 0, 1, 0, 0, 0), (15, .istore_n 2, 1, 0, 0, 0), (16, .iconst 0, 1, 0, 0, 0), (17, .istore_n 3, 1, 0, 0, 0), (18, .iload_n 3, 1, 0, 0, 0), (19, .aload_n 0, 1, 0, 0, 0), (20, .getfield 26, 3, 0, 2, 0), (23, .getfield 99, 3, 2, 2, 0), (26, .if_icmp .ge 62, 3, 0, 0, 0), (29, .aload_n 0, 1, 0, 0, 0), (30, .getfield 26, 3, 0, 2, 0), (33, .getfield 161, 3, 2, 1, 0), (36, .iload_n 3, 1, 0, 0, 0), (37, .iaload, 1, 0, 0, 0), (38, .istore 4, 2, 0, 0, 0), (40, .iload 4, 2, 0, 0, 0), (42, .invokestatic 320, 3, 42, 1, 0), (45, .ifCond .eq 15, 3, 0, 0, 0), (48, .aload_n 0, 1, 0, 0, 0), (49, .getfield 41, 3, 0, 5, 0), (52, .iload 4, 2, 0, 0, 0), (54, .invokevirtual 171, 3, 76, 2, 3), (57, .goto 25, 3, 0, 0, 0), (60, .iload_n 1, 1, 0, 0, 0), (61, .iload_n 2, 1, 0, 0, 0), (62, .ishr, 1, 0, 0, 0), (63, .iconst 1, 1, 0, 0, 0), (64, .iand, 1, 0, 0, 0), (65, .iconst 1, 1, 0, 0, 0), (66, .if_icmp .ne 13, 3, 0, 0, 0), (69, .aload_n 0, 1, 0, 0, 0), (70, .getfield 41, 3, 0, 5, 0), (73, .iload 4, 2, 0, 0, 0), (75, .invokevirtual 323, 3, 89, 2, 3), (78, .pop, 1, 0, 0, 0), (79, .iinc 2 1, 3, 0, 0, 0), (82, .iinc 3 1, 3, 0, 0, 0), (85, .goto (-67), 3, 0, 0, 0), (88, .return_, 1, 0, 0, 0)]
/-- DoorPaints.powerOfTen(I)J -/
def cL125 : List MI := [(0, .lconst 1, 1, 0, 0, 0), (1, .lstore_n 1, 1, 0, 0, 0), (2, .iconst 0, 1, 0, 0, 0), (3, .istore_n 3, 1, 0, 0, 0), (4, .iload_n 3, 1, 0, 0, 0), (5, .iload_n 0, 1, 0, 0, 0), (6, .if_icmp .ge 15, 3, 0, 0, 0), (9, .lload_n 1, 1, 0, 0, 0), (10, .ldc2_w 329, 3, 0, 0, 10), (13, .lmul, 1, 0, 0, 0), (14, .lstore_n 1, 1, 0, 0, 0), (15, .iinc 3 1, 3, 0, 0, 0), (18, .goto (-14), 3, 0, 0, 0), (21, .lload_n 1, 1, 0, 0, 0), (22, .lreturn, 1, 0, 0, 0)]
/-- DoorPaints.ofFraction(JJI)J -/
def cL126 : List MI := [(0, .lload_n 2, 1, 0, 0, 0), (1, .lstore 5, 2, 0, 0, 0), (3, .lload_n 0, 1, 0, 0, 0), (4, .lstore 7, 2, 0, 0, 0), (6, .iconst 0, 1, 0, 0, 0), (7, .istore 9, 2, 0, 0, 0), (9, .iload 9, 2, 0, 0, 0), (11, .bipush 100, 2, 0, 0, 0), (13, .if_icmp .ge 31, 3, 0, 0, 0), (16, .lload 7, 2, 0, 0, 0), (18, .lconst 0, 1, 0, 0, 0), (19, .lcmp, 1, 0, 0, 0), (20, .ifCond .le 24, 3, 0, 0, 0), (23, .lload 5, 2, 0, 0, 0), (25, .lload 7, 2, 0, 0, 0), (27, .lrem, 1, 0, 0, 0), (28, .lstore 10, 2, 0, 0, 0), (30, .lload 7, 2, 0, 0, 0), (32, .lstore 5, 2, 0, 0, 0), (34, .lload 10, 2, 0, 0, 0), (36, .lstore 7, 2, 0, 0, 0), (38, .iinc 9 1, 3, 0, 0, 0), (41, .goto (-32), 3, 0, 0, 0), (44, .lload 5, 2, 0, 0, 0), (46, .lconst 0, 1, 0, 0, 0), (47, .lcmp, 1, 0, 0, 0), (48, .ifCond .gt 7, 3, 0, 0, 0), (51, .ldc2_w 263, 3, 0, 0, (-1)), (54, .lreturn, 1, 0, 0, 0), (55, .iload 4, 2, 0, 0, 0), (57, .ifCond .ne 10, 3, 0, 0, 0), (60, .lload_n 0, 1, 0, 0, 0), (61, .lload 5, 2, 0, 0, 0), (63, .ldiv, 1, 0, 0, 0), (64, .goto 7, 3, 0, 0, 0), (67, .lload_n 2, 1, 0, 0, 0), (68, .lload 5, 2, 0, 0, 0), (70, .ldiv, 1, 0, 0, 0), (71, .lreturn, 1, 0, 0, 0)]
/-- DoorPaints.mean(II)J -/
def cL127_0 : List MI := [(0, .iload_n 1, 1, 0, 0, 0), (1, .ifCond .lt 18, 3, 0, 0, 0), (4, .iload_n 1, 1, 0, 0, 0), (5, .bipush 10, 2, 0, 0, 0), (7, .if_icmp .gt 12, 3, 0, 0, 0), (10, .iload_n 2, 1, 0, 0, 0), (11, .ifCond .lt 8, 3, 0, 0, 0), (14, .iload_n 2, 1, 0, 0, 0), (15, .iconst 1, 1, 0, 0, 0), (16, .if_icmp .le 7, 3, 0, 0, 0), (19, .ldc2_w 263, 3, 0, 0, (-1)), (22, .lreturn, 1, 0, 0, 0), (23, .aload_n 0, 1, 0, 0, 0), (24, .getfield 26, 3, 0, 2, 0), (27, .invokevirtual 265, 3, 122, 1, 2), (30, .istore_n 3, 1, 0, 0, 0), (31, .lconst 0, 1, 0, 0, 0), (32, .lstore 4, 2, 0, 0, 0), (34, .iconst 0, 1, 0, 0, 0), (35, .istore 6, 2, 0, 0, 0), (37, .iload 6, 2, 0, 0, 0), (39, .iconst 1, 1, 0, 0, 0), (40, .iload_n 3, 1, 0, 0, 0), (41, .ishl, 1, 0, 0, 0), (42, .if_icmp .ge 44, 3, 0, 0, 0), (45, .iload 6, 2, 0, 0, 0), (47, .iload_n 3, 1, 0, 0, 0), (48, .iload_n 1, 1, 0, 0, 0), (49, .invokestatic 268, 3, 123, 3, 0), (52, .lstore 7, 2, 0, 0, 0), (54, .lload 7, 2, 0, 0, 0), (56, .lconst 0, 1, 0, 0, 0), (57, .lcmp, 1, 0, 0, 0), (58, .ifCond .le 22, 3, 0, 0, 0), (61, .aload_n 0, 1, 0, 0, 0), (62, .iload 6, 2, 0, 0, 0), (64, .invokevirtual 272, 3, 124, 2, 0), (67, .lload 4, 2, 0, 0, 0), (69, .lload 7, 2, 0, 0, 0), (71, .aload_n 0, 1, 0, 0, 0), (72, .invokevirtual 200, 3, 91, 1, 0), (75, .i2l, 1, 0, 0, 0), (76, .lmul, 1, 0, 0, 0), (77, .ladd, 1, 0, 0, 0), (78, .lstore 4, 2, 0, 0, 0), (80, .iinc 6 1, 3, 0, 0, 0), (83, .goto (-46), 3, 0, 0, 0), (86, .lload 4, 2, 0, 0, 0), (88, .iload_n 3, 1, 0, 0, 0), (89, .invokestatic 275, 3, 125, 1, 0)]
def cL127_1 : List MI := [(92, .iload_n 2, 1, 0, 0, 0), (93, .invokestatic 279, 3, 126, 3, 0), (96, .lreturn, 1, 0, 0, 0)]
def cL127 : List MI := cL127_0 ++ (cL127_1)
/-- DoorPaints.drift(III)I -/
def cL128_0 : List MI := [(0, .iload_n 2, 1, 0, 0, 0), (1, .iconst 1, 1, 0, 0, 0), (2, .if_icmp .lt 18, 3, 0, 0, 0), (5, .iload_n 2, 1, 0, 0, 0), (6, .bipush 60, 2, 0, 0, 0), (8, .if_icmp .gt 12, 3, 0, 0, 0), (11, .iload_n 3, 1, 0, 0, 0), (12, .ifCond .lt 8, 3, 0, 0, 0), (15, .iload_n 3, 1, 0, 0, 0), (16, .iconst 1, 1, 0, 0, 0), (17, .if_icmp .le 5, 3, 0, 0, 0), (20, .iconst (-1), 1, 0, 0, 0), (21, .ireturn, 1, 0, 0, 0), (22, .aload_n 0, 1, 0, 0, 0), (23, .getfield 26, 3, 0, 2, 0), (26, .getfield 90, 3, 2, 0, 0), (29, .invokevirtual 283, 3, 98, 1, 3), (32, .ifCond .ne 6, 3, 0, 0, 0), (35, .bipush (-2), 2, 0, 0, 0), (37, .ireturn, 1, 0, 0, 0), (38, .aload_n 0, 1, 0, 0, 0), (39, .getfield 41, 3, 0, 5, 0), (42, .aload_n 0, 1, 0, 0, 0), (43, .getfield 26, 3, 0, 2, 0), (46, .getfield 90, 3, 2, 0, 0), (49, .invokevirtual 206, 3, 52, 2, 3), (52, .iload_n 1, 1, 0, 0, 0), (53, .istore 4, 2, 0, 0, 0), (55, .iconst 0, 1, 0, 0, 0), (56, .istore 5, 2, 0, 0, 0), (58, .iload 5, 2, 0, 0, 0), (60, .iload_n 2, 1, 0, 0, 0), (61, .if_icmp .ge 37, 3, 0, 0, 0), (64, .iload 4, 2, 0, 0, 0), (66, .ldc_w 286, 3, 0, 0, 1103515245), (69, .imul, 1, 0, 0, 0), (70, .sipush 12345, 3, 0, 0, 0), (73, .iadd, 1, 0, 0, 0), (74, .istore 4, 2, 0, 0, 0), (76, .aload_n 0, 1, 0, 0, 0), (77, .getfield 41, 3, 0, 5, 0), (80, .iload 4, 2, 0, 0, 0), (82, .bipush 16, 2, 0, 0, 0), (84, .iushr, 1, 0, 0, 0), (85, .sipush 32767, 3, 0, 0, 0), (88, .iand, 1, 0, 0, 0), (89, .invokevirtual 287, 3, 129, 2, 3), (92, .iinc 5 1, 3, 0, 0, 0), (95, .goto (-37), 3, 0, 0, 0), (98, .iload_n 3, 1, 0, 0, 0)]
def cL128_1 : List MI := [(99, .ifCond .ne 13, 3, 0, 0, 0), (102, .aload_n 0, 1, 0, 0, 0), (103, .getfield 41, 3, 0, 5, 0), (106, .invokevirtual 175, 3, 80, 1, 3), (109, .goto 10, 3, 0, 0, 0), (112, .aload_n 0, 1, 0, 0, 0), (113, .getfield 41, 3, 0, 5, 0), (116, .invokevirtual 105, 3, 58, 1, 3), (119, .ireturn, 1, 0, 0, 0)]
def cL128 : List MI := cL128_0 ++ (cL128_1)
/-- DoorPaints$Town.actBySeed(I)V -/
def cL129 : List MI := [(0, .iload_n 1, 1, 0, 0, 0), (1, .bipush 8, 2, 0, 0, 0), (3, .irem, 1, 0, 0, 0), (4, .istore_n 2, 1, 0, 0, 0), (5, .iload_n 2, 1, 0, 0, 0), (6, .iconst 5, 1, 0, 0, 0), (7, .if_icmp .lt 16, 3, 0, 0, 0), (10, .aload_n 0, 1, 0, 0, 0), (11, .bipush 90, 2, 0, 0, 0), (13, .iload_n 2, 1, 0, 0, 0), (14, .iadd, 1, 0, 0, 0), (15, .iconst 5, 1, 0, 0, 0), (16, .isub, 1, 0, 0, 0), (17, .invokevirtual 106, 3, 76, 2, 3), (20, .goto 33, 3, 0, 0, 0), (23, .aload_n 0, 1, 0, 0, 0), (24, .invokevirtual 115, 3, 98, 1, 3), (27, .ifCond .eq 26, 3, 0, 0, 0), (30, .aload_n 0, 1, 0, 0, 0), (31, .iload_n 1, 1, 0, 0, 0), (32, .bipush 8, 2, 0, 0, 0), (34, .idiv, 1, 0, 0, 0), (35, .aload_n 0, 1, 0, 0, 0), (36, .getfield 29, 3, 3, 2, 0), (39, .irem, 1, 0, 0, 0), (40, .iload_n 1, 1, 0, 0, 0), (41, .bipush 32, 2, 0, 0, 0), (43, .idiv, 1, 0, 0, 0), (44, .aload_n 0, 1, 0, 0, 0), (45, .getfield 36, 3, 3, 3, 0), (48, .irem, 1, 0, 0, 0), (49, .invokevirtual 109, 3, 70, 3, 3), (52, .pop, 1, 0, 0, 0), (53, .return_, 1, 0, 0, 0)]
/-- DoorPaints.keep(I)I -/
def cL130 : List MI := [(0, .iload_n 1, 1, 0, 0, 0), (1, .ifCond .lt 8, 3, 0, 0, 0), (4, .iload_n 1, 1, 0, 0, 0), (5, .iconst 2, 1, 0, 0, 0), (6, .if_icmp .lt 5, 3, 0, 0, 0), (9, .iconst (-1), 1, 0, 0, 0), (10, .ireturn, 1, 0, 0, 0), (11, .aload_n 0, 1, 0, 0, 0), (12, .getfield 34, 3, 0, 4, 0), (15, .iload_n 1, 1, 0, 0, 0), (16, .baload, 1, 0, 0, 0), (17, .ifCond .eq 7, 3, 0, 0, 0), (20, .iconst 1, 1, 0, 0, 0), (21, .goto 4, 3, 0, 0, 0), (24, .iconst 0, 1, 0, 0, 0), (25, .istore_n 2, 1, 0, 0, 0), (26, .aload_n 0, 1, 0, 0, 0), (27, .getfield 30, 3, 0, 3, 0), (30, .iload_n 1, 1, 0, 0, 0), (31, .aaload, 1, 0, 0, 0), (32, .aload_n 0, 1, 0, 0, 0), (33, .getfield 26, 3, 0, 2, 0), (36, .invokevirtual 86, 3, 51, 2, 2), (39, .aload_n 0, 1, 0, 0, 0), (40, .getfield 34, 3, 0, 4, 0), (43, .iload_n 1, 1, 0, 0, 0), (44, .iconst 1, 1, 0, 0, 0), (45, .bastore, 1, 0, 0, 0), (46, .iload_n 2, 1, 0, 0, 0), (47, .ireturn, 1, 0, 0, 0)]
/-- DoorPaints.back(I)I -/
def cL131 : List MI := [(0, .iload_n 1, 1, 0, 0, 0), (1, .ifCond .lt 8, 3, 0, 0, 0), (4, .iload_n 1, 1, 0, 0, 0), (5, .iconst 2, 1, 0, 0, 0), (6, .if_icmp .lt 5, 3, 0, 0, 0), (9, .iconst (-1), 1, 0, 0, 0), (10, .ireturn, 1, 0, 0, 0), (11, .aload_n 0, 1, 0, 0, 0), (12, .getfield 34, 3, 0, 4, 0), (15, .iload_n 1, 1, 0, 0, 0), (16, .baload, 1, 0, 0, 0), (17, .ifCond .ne 6, 3, 0, 0, 0), (20, .bipush (-2), 2, 0, 0, 0), (22, .ireturn, 1, 0, 0, 0), (23, .aload_n 0, 1, 0, 0, 0), (24, .getfield 26, 3, 0, 2, 0), (27, .aload_n 0, 1, 0, 0, 0), (28, .getfield 30, 3, 0, 3, 0), (31, .iload_n 1, 1, 0, 0, 0), (32, .aaload, 1, 0, 0, 0), (33, .invokevirtual 86, 3, 51, 2, 2), (36, .aload_n 0, 1, 0, 0, 0), (37, .getfield 26, 3, 0, 2, 0), (40, .getfield 90, 3, 2, 0, 0), (43, .invokevirtual 175, 3, 80, 1, 3), (46, .ireturn, 1, 0, 0, 0)]
/-- DoorPaints.sheet(III)I -/
def cL132 : List MI := [(0, .iload_n 1, 1, 0, 0, 0), (1, .invokestatic 290, 3, 133, 1, 0), (4, .ifCond .eq 16, 3, 0, 0, 0), (7, .iload_n 2, 1, 0, 0, 0), (8, .invokestatic 293, 3, 134, 1, 0), (11, .ifCond .eq 9, 3, 0, 0, 0), (14, .iload_n 3, 1, 0, 0, 0), (15, .bipush 40, 2, 0, 0, 0), (17, .if_icmp .le 5, 3, 0, 0, 0), (20, .iconst (-1), 1, 0, 0, 0), (21, .ireturn, 1, 0, 0, 0), (22, .iload_n 3, 1, 0, 0, 0), (23, .ifCond .ge 6, 3, 0, 0, 0), (26, .bipush (-14), 2, 0, 0, 0), (28, .ireturn, 1, 0, 0, 0), (29, .aload_n 0, 1, 0, 0, 0), (30, .getfield 58, 3, 0, 8, 0), (33, .iload_n 1, 1, 0, 0, 0), (34, .aaload, 1, 0, 0, 0), (35, .iload_n 2, 1, 0, 0, 0), (36, .iload_n 3, 1, 0, 0, 0), (37, .invokevirtual 296, 3, 135, 3, 8), (40, .iconst 1, 1, 0, 0, 0), (41, .ireturn, 1, 0, 0, 0)]
/-- DoorPaints.isSheet(I)Z -/
def cL133 : List MI := [(0, .iload_n 0, 1, 0, 0, 0), (1, .ifCond .lt 12, 3, 0, 0, 0), (4, .iload_n 0, 1, 0, 0, 0), (5, .iconst 4, 1, 0, 0, 0), (6, .if_icmp .ge 7, 3, 0, 0, 0), (9, .iconst 1, 1, 0, 0, 0), (10, .goto 4, 3, 0, 0, 0), (13, .iconst 0, 1, 0, 0, 0), (14, .ireturn, 1, 0, 0, 0)]
/-- DoorPaints.isLane(I)Z -/
def cL134 : List MI := [(0, .iload_n 0, 1, 0, 0, 0), (1, .ifCond .lt 12, 3, 0, 0, 0), (4, .iload_n 0, 1, 0, 0, 0), (5, .iconst 3, 1, 0, 0, 0), (6, .if_icmp .ge 7, 3, 0, 0, 0), (9, .iconst 1, 1, 0, 0, 0), (10, .goto 4, 3, 0, 0, 0), (13, .iconst 0, 1, 0, 0, 0), (14, .ireturn, 1, 0, 0, 0)]
/-- DoorPaints$Sheet.renew(II)V -/
def cL135 : List MI := [(0, .aload_n 0, 1, 0, 0, 0), (1, .iload_n 1, 1, 0, 0, 0), (2, .putfield 15, 3, 8, 2, 0), (5, .aload_n 0, 1, 0, 0, 0), (6, .iload_n 2, 1, 0, 0, 0), (7, .putfield 19, 3, 8, 1, 0), (10, .iconst 0, 1, 0, 0, 0), (11, .istore_n 3, 1, 0, 0, 0), (12, .iload_n 3, 1, 0, 0, 0), (13, .bipush 40, 2, 0, 0, 0), (15, .if_icmp .ge 16, 3, 0, 0, 0), (18, .aload_n 0, 1, 0, 0, 0), (19, .getfield 9, 3, 8, 0, 0), (22, .iload_n 3, 1, 0, 0, 0), (23, .iconst 0, 1, 0, 0, 0), (24, .iastore, 1, 0, 0, 0), (25, .iinc 3 1, 3, 0, 0, 0), (28, .goto (-16), 3, 0, 0, 0), (31, .return_, 1, 0, 0, 0)]
/-- DoorPaints.lay(III)I -/
def cL136 : List MI := [(0, .iload_n 1, 1, 0, 0, 0), (1, .invokestatic 290, 3, 133, 1, 0), (4, .ifCond .ne 5, 3, 0, 0, 0), (7, .iconst (-1), 1, 0, 0, 0), (8, .ireturn, 1, 0, 0, 0), (9, .aload_n 0, 1, 0, 0, 0), (10, .getfield 58, 3, 0, 8, 0), (13, .iload_n 1, 1, 0, 0, 0), (14, .aaload, 1, 0, 0, 0), (15, .astore 4, 2, 0, 0, 0), (17, .aload 4, 2, 0, 0, 0), (19, .aload 4, 2, 0, 0, 0), (21, .getfield 299, 3, 8, 2, 0), (24, .iload_n 2, 1, 0, 0, 0), (25, .invokevirtual 302, 3, 137, 3, 8), (28, .istore 5, 2, 0, 0, 0), (30, .iload 5, 2, 0, 0, 0), (32, .ifCond .eq 9, 3, 0, 0, 0), (35, .bipush (-10), 2, 0, 0, 0), (37, .iload 5, 2, 0, 0, 0), (39, .isub, 1, 0, 0, 0), (40, .ireturn, 1, 0, 0, 0), (41, .aload 4, 2, 0, 0, 0), (43, .iload_n 2, 1, 0, 0, 0), (44, .iload_n 3, 1, 0, 0, 0), (45, .invokevirtual 305, 3, 138, 3, 8), (48, .iconst 1, 1, 0, 0, 0), (49, .ireturn, 1, 0, 0, 0)]
/-- DoorPaints$Sheet.faultAt(II)I -/
def cL137 : List MI := [(0, .aload_n 0, 1, 0, 0, 0), (1, .getfield 15, 3, 8, 2, 0), (4, .bipush (-4), 2, 0, 0, 0), (6, .if_icmp .ne 5, 3, 0, 0, 0), (9, .iconst 1, 1, 0, 0, 0), (10, .ireturn, 1, 0, 0, 0), (11, .aload_n 0, 1, 0, 0, 0), (12, .getfield 15, 3, 8, 2, 0), (15, .iload_n 1, 1, 0, 0, 0), (16, .if_icmp .eq 5, 3, 0, 0, 0), (19, .iconst 3, 1, 0, 0, 0), (20, .ireturn, 1, 0, 0, 0), (21, .iload_n 2, 1, 0, 0, 0), (22, .ifCond .lt 11, 3, 0, 0, 0), (25, .iload_n 2, 1, 0, 0, 0), (26, .aload_n 0, 1, 0, 0, 0), (27, .getfield 19, 3, 8, 1, 0), (30, .if_icmp .lt 7, 3, 0, 0, 0), (33, .iconst 2, 1, 0, 0, 0), (34, .goto 4, 3, 0, 0, 0), (37, .iconst 0, 1, 0, 0, 0), (38, .ireturn, 1, 0, 0, 0)]
/-- DoorPaints$Sheet.put(II)V -/
def cL138 : List MI := [(0, .iload_n 1, 1, 0, 0, 0), (1, .ifCond .lt 43, 3, 0, 0, 0), (4, .iload_n 1, 1, 0, 0, 0), (5, .aload_n 0, 1, 0, 0, 0), (6, .getfield 19, 3, 8, 1, 0), (9, .if_icmp .ge 35, 3, 0, 0, 0), (12, .aload_n 0, 1, 0, 0, 0), (13, .getfield 9, 3, 8, 0, 0), (16, .iload_n 1, 1, 0, 0, 0), (17, .aload_n 0, 1, 0, 0, 0), (18, .getfield 15, 3, 8, 2, 0), (21, .ifCond .ne 8, 3, 0, 0, 0), (24, .iload_n 2, 1, 0, 0, 0), (25, .i2b, 1, 0, 0, 0), (26, .goto 17, 3, 0, 0, 0), (29, .aload_n 0, 1, 0, 0, 0), (30, .getfield 15, 3, 8, 2, 0), (33, .iconst 1, 1, 0, 0, 0), (34, .if_icmp .ne 8, 3, 0, 0, 0), (37, .iload_n 2, 1, 0, 0, 0), (38, .i2s, 1, 0, 0, 0), (39, .goto 4, 3, 0, 0, 0), (42, .iload_n 2, 1, 0, 0, 0), (43, .iastore, 1, 0, 0, 0), (44, .return_, 1, 0, 0, 0)]
/-- DoorPaints.read(IIII)I -/
def cL139_0 : List MI := [(0, .iload_n 1, 1, 0, 0, 0), (1, .invokestatic 290, 3, 133, 1, 0), (4, .ifCond .eq 22, 3, 0, 0, 0), (7, .iload_n 2, 1, 0, 0, 0), (8, .invokestatic 293, 3, 134, 1, 0), (11, .ifCond .eq 15, 3, 0, 0, 0), (14, .iload 4, 2, 0, 0, 0), (16, .ifCond .lt 10, 3, 0, 0, 0), (19, .iload 4, 2, 0, 0, 0), (21, .bipush 20, 2, 0, 0, 0), (23, .if_icmp .le 5, 3, 0, 0, 0), (26, .iconst (-1), 1, 0, 0, 0), (27, .ireturn, 1, 0, 0, 0), (28, .aload_n 0, 1, 0, 0, 0), (29, .getfield 58, 3, 0, 8, 0), (32, .iload_n 1, 1, 0, 0, 0), (33, .aaload, 1, 0, 0, 0), (34, .astore 5, 2, 0, 0, 0), (36, .aload_n 0, 1, 0, 0, 0), (37, .getfield 41, 3, 0, 5, 0), (40, .aload_n 0, 1, 0, 0, 0), (41, .getfield 26, 3, 0, 2, 0), (44, .getfield 90, 3, 2, 0, 0), (47, .invokevirtual 206, 3, 52, 2, 3), (50, .iconst 0, 1, 0, 0, 0), (51, .istore 6, 2, 0, 0, 0), (53, .iconst 0, 1, 0, 0, 0), (54, .istore 7, 2, 0, 0, 0), (56, .iconst 0, 1, 0, 0, 0), (57, .istore 8, 2, 0, 0, 0), (59, .iload 8, 2, 0, 0, 0), (61, .iload 4, 2, 0, 0, 0), (63, .if_icmp .ge 75, 3, 0, 0, 0), (66, .iload 6, 2, 0, 0, 0), (68, .ifCond .ne 70, 3, 0, 0, 0), (71, .iload_n 3, 1, 0, 0, 0), (72, .iconst 2, 1, 0, 0, 0), (73, .iload 8, 2, 0, 0, 0), (75, .imul, 1, 0, 0, 0), (76, .iadd, 1, 0, 0, 0), (77, .istore 9, 2, 0, 0, 0), (79, .aload 5, 2, 0, 0, 0), (81, .iload_n 2, 1, 0, 0, 0), (82, .iload 9, 2, 0, 0, 0), (84, .invokevirtual 308, 3, 140, 3, 8), (87, .istore 6, 2, 0, 0, 0), (89, .iload 6, 2, 0, 0, 0), (91, .ifCond .ne 41, 3, 0, 0, 0), (94, .aload_n 0, 1, 0, 0, 0), (95, .getfield 41, 3, 0, 5, 0)]
def cL139_1 : List MI := [(98, .aload 5, 2, 0, 0, 0), (100, .iload 9, 2, 0, 0, 0), (102, .invokevirtual 311, 3, 141, 2, 8), (105, .aload 5, 2, 0, 0, 0), (107, .iload 9, 2, 0, 0, 0), (109, .iconst 1, 1, 0, 0, 0), (110, .iadd, 1, 0, 0, 0), (111, .invokevirtual 311, 3, 141, 2, 8), (114, .invokevirtual 168, 3, 70, 3, 3), (117, .invokestatic 209, 3, 90, 1, 0), (120, .ifCond .eq 9, 3, 0, 0, 0), (123, .bipush (-20), 2, 0, 0, 0), (125, .iload 8, 2, 0, 0, 0), (127, .isub, 1, 0, 0, 0), (128, .ireturn, 1, 0, 0, 0), (129, .iinc 7 1, 3, 0, 0, 0), (132, .iinc 8 1, 3, 0, 0, 0), (135, .goto (-76), 3, 0, 0, 0), (138, .aload_n 0, 1, 0, 0, 0), (139, .getfield 26, 3, 0, 2, 0), (142, .getfield 90, 3, 2, 0, 0), (145, .aload_n 0, 1, 0, 0, 0), (146, .getfield 41, 3, 0, 5, 0), (149, .invokevirtual 206, 3, 52, 2, 3), (152, .aload_n 0, 1, 0, 0, 0), (153, .iload 6, 2, 0, 0, 0), (155, .putfield 314, 3, 0, 10, 0), (158, .iload 7, 2, 0, 0, 0), (160, .ireturn, 1, 0, 0, 0)]
def cL139 : List MI := cL139_0 ++ (cL139_1)
end
section
/-! TABLES: the methods' listings (written by a program) -/
/-- DoorPaints$Sheet.faultOfPair(II)I -/
def cL140 : List MI := [(0, .aload_n 0, 1, 0, 0, 0), (1, .iload_n 1, 1, 0, 0, 0), (2, .iload_n 2, 1, 0, 0, 0), (3, .invokevirtual 22, 3, 137, 3, 8), (6, .istore_n 3, 1, 0, 0, 0), (7, .iload_n 3, 1, 0, 0, 0), (8, .ifCond .eq 7, 3, 0, 0, 0), (11, .iload_n 3, 1, 0, 0, 0), (12, .goto 11, 3, 0, 0, 0), (15, .aload_n 0, 1, 0, 0, 0), (16, .iload_n 1, 1, 0, 0, 0), (17, .iload_n 2, 1, 0, 0, 0), (18, .iconst 1, 1, 0, 0, 0), (19, .iadd, 1, 0, 0, 0), (20, .invokevirtual 22, 3, 137, 3, 8), (23, .ireturn, 1, 0, 0, 0)]
/-- DoorPaints$Sheet.cellAt(I)I -/
def cL141 : List MI := [(0, .iload_n 1, 1, 0, 0, 0), (1, .ifCond .lt 20, 3, 0, 0, 0), (4, .iload_n 1, 1, 0, 0, 0), (5, .aload_n 0, 1, 0, 0, 0), (6, .getfield 19, 3, 8, 1, 0), (9, .if_icmp .ge 12, 3, 0, 0, 0), (12, .aload_n 0, 1, 0, 0, 0), (13, .getfield 9, 3, 8, 0, 0), (16, .iload_n 1, 1, 0, 0, 0), (17, .iaload, 1, 0, 0, 0), (18, .goto 4, 3, 0, 0, 0), (21, .iconst (-1), 1, 0, 0, 0), (22, .ireturn, 1, 0, 0, 0)]
/-- DoorPaints.torn()I -/
def cL142 : List MI := [(0, .aload_n 0, 1, 0, 0, 0), (1, .getfield 314, 3, 0, 10, 0), (4, .ireturn, 1, 0, 0, 0)]
/-- DoorPaints.count(I)I -/
def cL143 : List MI := [(0, .iload_n 1, 1, 0, 0, 0), (1, .tableswitch 121 0 4 #[35, 46, 54, 84, 92], 35, 0, 0, 0), (36, .aload_n 0, 1, 0, 0, 0), (37, .getfield 26, 3, 0, 2, 0), (40, .getfield 90, 3, 2, 0, 0), (43, .invokevirtual 175, 3, 80, 1, 3), (46, .ireturn, 1, 0, 0, 0), (47, .aload_n 0, 1, 0, 0, 0), (48, .getfield 26, 3, 0, 2, 0), (51, .getfield 240, 3, 2, 6, 0), (54, .ireturn, 1, 0, 0, 0), (55, .aload_n 0, 1, 0, 0, 0), (56, .getfield 34, 3, 0, 4, 0), (59, .iconst 0, 1, 0, 0, 0), (60, .baload, 1, 0, 0, 0), (61, .ifCond .eq 7, 3, 0, 0, 0), (64, .iconst 1, 1, 0, 0, 0), (65, .goto 4, 3, 0, 0, 0), (68, .iconst 0, 1, 0, 0, 0), (69, .aload_n 0, 1, 0, 0, 0), (70, .getfield 34, 3, 0, 4, 0), (73, .iconst 1, 1, 0, 0, 0), (74, .baload, 1, 0, 0, 0), (75, .ifCond .eq 7, 3, 0, 0, 0), (78, .iconst 1, 1, 0, 0, 0), (79, .goto 4, 3, 0, 0, 0), (82, .iconst 0, 1, 0, 0, 0), (83, .iadd, 1, 0, 0, 0), (84, .ireturn, 1, 0, 0, 0), (85, .aload_n 0, 1, 0, 0, 0), (86, .getfield 20, 3, 0, 1, 0), (89, .getfield 69, 3, 6, 1, 0), (92, .ireturn, 1, 0, 0, 0), (93, .aload_n 0, 1, 0, 0, 0), (94, .getfield 58, 3, 0, 8, 0), (97, .iconst 0, 1, 0, 0, 0), (98, .aaload, 1, 0, 0, 0), (99, .getfield 299, 3, 8, 2, 0), (102, .bipush (-4), 2, 0, 0, 0), (104, .if_icmp .ne 8, 3, 0, 0, 0), (107, .bipush (-4), 2, 0, 0, 0), (109, .goto 12, 3, 0, 0, 0), (112, .aload_n 0, 1, 0, 0, 0), (113, .getfield 58, 3, 0, 8, 0), (116, .iconst 0, 1, 0, 0, 0), (117, .aaload, 1, 0, 0, 0), (118, .getfield 317, 3, 8, 1, 0), (121, .ireturn, 1, 0, 0, 0), (122, .iconst (-1), 1, 0, 0, 0), (123, .ireturn, 1, 0, 0, 0)]
/-- DoorPaintsModel.<init>()V -/
def cL144_0 : List MI := [(0, .aload_n 0, 1, 0, 0, 0), (1, .invokespecial 1, 3, 9999, 1, 0), (4, .aload_n 0, 1, 0, 0, 0), (5, .sipush 240, 3, 0, 0, 0), (8, .newarray .int, 2, 0, 0, 0), (10, .putfield 7, 3, 9, 0, 0), (13, .aload_n 0, 1, 0, 0, 0), (14, .bipush 80, 2, 0, 0, 0), (16, .newarray .int, 2, 0, 0, 0), (18, .putfield 13, 3, 9, 1, 0), (21, .aload_n 0, 1, 0, 0, 0), (22, .iconst 2, 1, 0, 0, 0), (23, .newarray .boolean, 2, 1, 0, 0), (25, .putfield 16, 3, 9, 2, 0), (28, .aload_n 0, 1, 0, 0, 0), (29, .bipush 80, 2, 0, 0, 0), (31, .newarray .int, 2, 0, 0, 0), (33, .putfield 20, 3, 9, 5, 0), (36, .aload_n 0, 1, 0, 0, 0), (37, .iconst 4, 1, 0, 0, 0), (38, .newarray .int, 2, 0, 0, 0), (40, .putfield 23, 3, 9, 11, 0), (43, .aload_n 0, 1, 0, 0, 0), (44, .sipush 160, 3, 0, 0, 0), (47, .newarray .int, 2, 0, 0, 0), (49, .putfield 26, 3, 9, 12, 0), (52, .aload_n 0, 1, 0, 0, 0), (53, .iconst 5, 1, 0, 0, 0), (54, .newarray .int, 2, 0, 0, 0), (56, .putfield 29, 3, 9, 24, 0), (59, .aload_n 0, 1, 0, 0, 0), (60, .iconst 4, 1, 0, 0, 0), (61, .newarray .int, 2, 0, 0, 0), (63, .putfield 32, 3, 9, 28, 0), (66, .aload_n 0, 1, 0, 0, 0), (67, .iconst 4, 1, 0, 0, 0), (68, .newarray .int, 2, 0, 0, 0), (70, .putfield 35, 3, 9, 29, 0), (73, .aload_n 0, 1, 0, 0, 0), (74, .sipush 160, 3, 0, 0, 0), (77, .newarray .int, 2, 0, 0, 0), (79, .putfield 38, 3, 9, 30, 0), (82, .aload_n 0, 1, 0, 0, 0), (83, .bipush 80, 2, 0, 0, 0), (85, .newarray .int, 2, 0, 0, 0), (87, .putfield 41, 3, 9, 32, 0), (90, .iconst 0, 1, 0, 0, 0), (91, .istore_n 1, 1, 0, 0, 0), (92, .iload_n 1, 1, 0, 0, 0), (93, .iconst 4, 1, 0, 0, 0)]
def cL144_1 : List MI := [(94, .if_icmp .ge 17, 3, 0, 0, 0), (97, .aload_n 0, 1, 0, 0, 0), (98, .getfield 32, 3, 9, 28, 0), (101, .iload_n 1, 1, 0, 0, 0), (102, .bipush (-4), 2, 0, 0, 0), (104, .iastore, 1, 0, 0, 0), (105, .iinc 1 1, 3, 0, 0, 0), (108, .goto (-16), 3, 0, 0, 0), (111, .aload_n 0, 1, 0, 0, 0), (112, .invokevirtual 44, 3, 145, 1, 9), (115, .aload_n 0, 1, 0, 0, 0), (116, .invokevirtual 47, 3, 146, 1, 9), (119, .return_, 1, 0, 0, 0)]
def cL144 : List MI := cL144_0 ++ (cL144_1)
/-- DoorPaintsModel.firstDraft()V -/
def cL145 : List MI := [(0, .iconst 0, 1, 0, 0, 0), (1, .istore_n 1, 1, 0, 0, 0), (2, .iload_n 1, 1, 0, 0, 0), (3, .bipush 80, 2, 0, 0, 0), (5, .if_icmp .ge 16, 3, 0, 0, 0), (8, .aload_n 0, 1, 0, 0, 0), (9, .getfield 20, 3, 9, 5, 0), (12, .iload_n 1, 1, 0, 0, 0), (13, .iconst 0, 1, 0, 0, 0), (14, .iastore, 1, 0, 0, 0), (15, .iinc 1 1, 3, 0, 0, 0), (18, .goto (-16), 3, 0, 0, 0), (21, .iconst 0, 1, 0, 0, 0), (22, .istore_n 1, 1, 0, 0, 0), (23, .iload_n 1, 1, 0, 0, 0), (24, .iconst 4, 1, 0, 0, 0), (25, .if_icmp .ge 16, 3, 0, 0, 0), (28, .aload_n 0, 1, 0, 0, 0), (29, .getfield 23, 3, 9, 11, 0), (32, .iload_n 1, 1, 0, 0, 0), (33, .iconst 0, 1, 0, 0, 0), (34, .iastore, 1, 0, 0, 0), (35, .iinc 1 1, 3, 0, 0, 0), (38, .goto (-15), 3, 0, 0, 0), (41, .aload_n 0, 1, 0, 0, 0), (42, .iconst 0, 1, 0, 0, 0), (43, .putfield 50, 3, 9, 6, 0), (46, .aload_n 0, 1, 0, 0, 0), (47, .iconst 0, 1, 0, 0, 0), (48, .putfield 54, 3, 9, 7, 0), (51, .aload_n 0, 1, 0, 0, 0), (52, .iconst 0, 1, 0, 0, 0), (53, .putfield 57, 3, 9, 8, 0), (56, .aload_n 0, 1, 0, 0, 0), (57, .bipush (-4), 2, 0, 0, 0), (59, .putfield 61, 3, 9, 9, 0), (62, .aload_n 0, 1, 0, 0, 0), (63, .bipush (-4), 2, 0, 0, 0), (65, .putfield 64, 3, 9, 10, 0), (68, .return_, 1, 0, 0, 0)]
/-- DoorPaintsModel.keepDraft()V -/
def cL146_0 : List MI := [(0, .iconst 0, 1, 0, 0, 0), (1, .istore_n 1, 1, 0, 0, 0), (2, .iload_n 1, 1, 0, 0, 0), (3, .bipush 80, 2, 0, 0, 0), (5, .if_icmp .ge 21, 3, 0, 0, 0), (8, .aload_n 0, 1, 0, 0, 0), (9, .getfield 7, 3, 9, 0, 0), (12, .iload_n 1, 1, 0, 0, 0), (13, .aload_n 0, 1, 0, 0, 0), (14, .getfield 20, 3, 9, 5, 0), (17, .iload_n 1, 1, 0, 0, 0), (18, .iaload, 1, 0, 0, 0), (19, .iastore, 1, 0, 0, 0), (20, .iinc 1 1, 3, 0, 0, 0), (23, .goto (-21), 3, 0, 0, 0), (26, .aload_n 0, 1, 0, 0, 0), (27, .aload_n 0, 1, 0, 0, 0), (28, .getfield 50, 3, 9, 6, 0), (31, .putfield 67, 3, 9, 3, 0), (34, .aload_n 0, 1, 0, 0, 0), (35, .aload_n 0, 1, 0, 0, 0), (36, .getfield 54, 3, 9, 7, 0), (39, .putfield 70, 3, 9, 4, 0), (42, .iconst 0, 1, 0, 0, 0), (43, .istore_n 1, 1, 0, 0, 0), (44, .iload_n 1, 1, 0, 0, 0), (45, .aload_n 0, 1, 0, 0, 0), (46, .getfield 70, 3, 9, 4, 0), (49, .if_icmp .ge 29, 3, 0, 0, 0), (52, .aload_n 0, 1, 0, 0, 0), (53, .getfield 7, 3, 9, 0, 0), (56, .bipush 16, 2, 0, 0, 0), (58, .bipush 9, 2, 0, 0, 0), (60, .iload_n 1, 1, 0, 0, 0), (61, .imul, 1, 0, 0, 0), (62, .iadd, 1, 0, 0, 0), (63, .iconst 2, 1, 0, 0, 0), (64, .iadd, 1, 0, 0, 0), (65, .aload_n 0, 1, 0, 0, 0), (66, .getfield 23, 3, 9, 11, 0), (69, .iload_n 1, 1, 0, 0, 0), (70, .iaload, 1, 0, 0, 0), (71, .iastore, 1, 0, 0, 0), (72, .iinc 1 1, 3, 0, 0, 0), (75, .goto (-31), 3, 0, 0, 0), (78, .aload_n 0, 1, 0, 0, 0), (79, .getfield 16, 3, 9, 2, 0), (82, .iconst 0, 1, 0, 0, 0), (83, .iconst 0, 1, 0, 0, 0), (84, .bastore, 1, 0, 0, 0)]
def cL146_1 : List MI := [(85, .aload_n 0, 1, 0, 0, 0), (86, .getfield 16, 3, 9, 2, 0), (89, .iconst 1, 1, 0, 0, 0), (90, .iconst 0, 1, 0, 0, 0), (91, .bastore, 1, 0, 0, 0), (92, .return_, 1, 0, 0, 0)]
def cL146 : List MI := cL146_0 ++ (cL146_1)
/-- DoorPaintsModel.feed(I)I -/
def cL147 : List MI := [(0, .iload_n 1, 1, 0, 0, 0), (1, .i2l, 1, 0, 0, 0), (2, .lconst 0, 1, 0, 0, 0), (3, .ldc2_w 73, 3, 0, 0, 127), (6, .invokestatic 75, 3, 148, 3, 0), (9, .ifCond .ne 5, 3, 0, 0, 0), (12, .iconst (-1), 1, 0, 0, 0), (13, .ireturn, 1, 0, 0, 0), (14, .aload_n 0, 1, 0, 0, 0), (15, .getfield 79, 3, 9, 13, 0), (18, .sipush 160, 3, 0, 0, 0), (21, .if_icmp .ne 6, 3, 0, 0, 0), (24, .bipush (-3), 2, 0, 0, 0), (26, .ireturn, 1, 0, 0, 0), (27, .aload_n 0, 1, 0, 0, 0), (28, .getfield 26, 3, 9, 12, 0), (31, .aload_n 0, 1, 0, 0, 0), (32, .getfield 79, 3, 9, 13, 0), (35, .iload_n 1, 1, 0, 0, 0), (36, .iastore, 1, 0, 0, 0), (37, .aload_n 0, 1, 0, 0, 0), (38, .dup, 1, 0, 0, 0), (39, .getfield 79, 3, 9, 13, 0), (42, .iconst 1, 1, 0, 0, 0), (43, .iadd, 1, 0, 0, 0), (44, .putfield 79, 3, 9, 13, 0), (47, .aload_n 0, 1, 0, 0, 0), (48, .getfield 79, 3, 9, 13, 0), (51, .ireturn, 1, 0, 0, 0)]
/-- DoorPaintsModel.in(JJJ)Z -/
def cL148 : List MI := [(0, .lload_n 0, 1, 0, 0, 0), (1, .lload_n 2, 1, 0, 0, 0), (2, .lcmp, 1, 0, 0, 0), (3, .ifCond .lt 14, 3, 0, 0, 0), (6, .lload_n 0, 1, 0, 0, 0), (7, .lload 4, 2, 0, 0, 0), (9, .lcmp, 1, 0, 0, 0), (10, .ifCond .gt 7, 3, 0, 0, 0), (13, .iconst 1, 1, 0, 0, 0), (14, .goto 4, 3, 0, 0, 0), (17, .iconst 0, 1, 0, 0, 0), (18, .ireturn, 1, 0, 0, 0)]
/-- DoorPaintsModel.end(I)I -/
def cL149 : List MI := [(0, .iload_n 1, 1, 0, 0, 0), (1, .i2l, 1, 0, 0, 0), (2, .lconst 0, 1, 0, 0, 0), (3, .aload_n 0, 1, 0, 0, 0), (4, .getfield 79, 3, 9, 13, 0), (7, .i2l, 1, 0, 0, 0), (8, .invokestatic 75, 3, 148, 3, 0), (11, .ifCond .ne 5, 3, 0, 0, 0), (14, .iconst (-1), 1, 0, 0, 0), (15, .ireturn, 1, 0, 0, 0), (16, .aload_n 0, 1, 0, 0, 0), (17, .getfield 79, 3, 9, 13, 0), (20, .istore_n 2, 1, 0, 0, 0), (21, .aload_n 0, 1, 0, 0, 0), (22, .iload_n 1, 1, 0, 0, 0), (23, .putfield 79, 3, 9, 13, 0), (26, .iload_n 2, 1, 0, 0, 0), (27, .ireturn, 1, 0, 0, 0)]
/-- DoorPaintsModel.text()I -/
def cL150_0 : List MI := [(0, .iconst 0, 1, 0, 0, 0), (1, .istore_n 1, 1, 0, 0, 0), (2, .aload_n 0, 1, 0, 0, 0), (3, .iconst 0, 1, 0, 0, 0), (4, .putfield 82, 3, 9, 18, 0), (7, .aload_n 0, 1, 0, 0, 0), (8, .iconst 0, 1, 0, 0, 0), (9, .putfield 91, 3, 9, 14, 0), (12, .aload_n 0, 1, 0, 0, 0), (13, .invokevirtual 44, 3, 145, 1, 9), (16, .aload_n 0, 1, 0, 0, 0), (17, .invokevirtual 128, 3, 151, 1, 9), (20, .aload_n 0, 1, 0, 0, 0), (21, .getfield 82, 3, 9, 18, 0), (24, .ifCond .ne 20, 3, 0, 0, 0), (27, .aload_n 0, 1, 0, 0, 0), (28, .getfield 106, 3, 9, 16, 0), (31, .ifCond .eq 13, 3, 0, 0, 0), (34, .aload_n 0, 1, 0, 0, 0), (35, .invokevirtual 164, 3, 154, 1, 9), (38, .iinc 1 1, 3, 0, 0, 0), (41, .goto (-21), 3, 0, 0, 0), (44, .aload_n 0, 1, 0, 0, 0), (45, .getfield 82, 3, 9, 18, 0), (48, .ifCond .ne 36, 3, 0, 0, 0), (51, .aload_n 0, 1, 0, 0, 0), (52, .aload_n 0, 1, 0, 0, 0), (53, .getfield 61, 3, 9, 9, 0), (56, .aload_n 0, 1, 0, 0, 0), (57, .getfield 50, 3, 9, 6, 0), (60, .if_icmp .ge 18, 3, 0, 0, 0), (63, .aload_n 0, 1, 0, 0, 0), (64, .getfield 64, 3, 9, 10, 0), (67, .aload_n 0, 1, 0, 0, 0), (68, .getfield 54, 3, 9, 7, 0), (71, .if_icmp .ge 7, 3, 0, 0, 0), (74, .iconst 1, 1, 0, 0, 0), (75, .goto 4, 3, 0, 0, 0), (78, .iconst 0, 1, 0, 0, 0), (79, .bipush 6, 2, 0, 0, 0), (81, .invokevirtual 120, 3, 153, 3, 9), (84, .aload_n 0, 1, 0, 0, 0), (85, .iconst 0, 1, 0, 0, 0), (86, .putfield 79, 3, 9, 13, 0), (89, .aload_n 0, 1, 0, 0, 0), (90, .getfield 82, 3, 9, 18, 0), (93, .ifCond .le 11, 3, 0, 0, 0), (96, .bipush (-10), 2, 0, 0, 0), (98, .aload_n 0, 1, 0, 0, 0), (99, .getfield 88, 3, 9, 19, 0)]
def cL150_1 : List MI := [(102, .isub, 1, 0, 0, 0), (103, .ireturn, 1, 0, 0, 0), (104, .aload_n 0, 1, 0, 0, 0), (105, .invokevirtual 47, 3, 146, 1, 9), (108, .iload_n 1, 1, 0, 0, 0), (109, .ireturn, 1, 0, 0, 0)]
def cL150 : List MI := cL150_0 ++ (cL150_1)
/-- DoorPaintsModel.next()V -/
def cL151_0 : List MI := [(0, .aload_n 0, 1, 0, 0, 0), (1, .getfield 82, 3, 9, 18, 0), (4, .ifCond .le 4, 3, 0, 0, 0), (7, .return_, 1, 0, 0, 0), (8, .aload_n 0, 1, 0, 0, 0), (9, .aload_n 0, 1, 0, 0, 0), (10, .getfield 91, 3, 9, 14, 0), (13, .invokevirtual 94, 3, 152, 2, 9), (16, .bipush 32, 2, 0, 0, 0), (18, .if_icmp .ne 16, 3, 0, 0, 0), (21, .aload_n 0, 1, 0, 0, 0), (22, .dup, 1, 0, 0, 0), (23, .getfield 91, 3, 9, 14, 0), (26, .iconst 1, 1, 0, 0, 0), (27, .iadd, 1, 0, 0, 0), (28, .putfield 91, 3, 9, 14, 0), (31, .goto (-23), 3, 0, 0, 0), (34, .aload_n 0, 1, 0, 0, 0), (35, .aload_n 0, 1, 0, 0, 0), (36, .getfield 91, 3, 9, 14, 0), (39, .putfield 85, 3, 9, 15, 0), (42, .aload_n 0, 1, 0, 0, 0), (43, .aload_n 0, 1, 0, 0, 0), (44, .getfield 91, 3, 9, 14, 0), (47, .invokevirtual 94, 3, 152, 2, 9), (50, .istore_n 1, 1, 0, 0, 0), (51, .iload_n 1, 1, 0, 0, 0), (52, .ifCond .ge 11, 3, 0, 0, 0), (55, .aload_n 0, 1, 0, 0, 0), (56, .iconst 0, 1, 0, 0, 0), (57, .putfield 106, 3, 9, 16, 0), (60, .goto 214, 3, 0, 0, 0), (63, .iload_n 1, 1, 0, 0, 0), (64, .i2l, 1, 0, 0, 0), (65, .ldc2_w 109, 3, 0, 0, 97), (68, .ldc2_w 111, 3, 0, 0, 122), (71, .invokestatic 75, 3, 148, 3, 0), (74, .ifCond .eq 42, 3, 0, 0, 0), (77, .aload_n 0, 1, 0, 0, 0), (78, .iconst 1, 1, 0, 0, 0), (79, .putfield 106, 3, 9, 16, 0), (82, .aload_n 0, 1, 0, 0, 0), (83, .aload_n 0, 1, 0, 0, 0), (84, .getfield 91, 3, 9, 14, 0), (87, .invokevirtual 94, 3, 152, 2, 9), (90, .i2l, 1, 0, 0, 0), (91, .ldc2_w 109, 3, 0, 0, 97), (94, .ldc2_w 111, 3, 0, 0, 122), (97, .invokestatic 75, 3, 148, 3, 0), (100, .ifCond .eq 174, 3, 0, 0, 0)]
def cL151_1 : List MI := [(103, .aload_n 0, 1, 0, 0, 0), (104, .dup, 1, 0, 0, 0), (105, .getfield 91, 3, 9, 14, 0), (108, .iconst 1, 1, 0, 0, 0), (109, .iadd, 1, 0, 0, 0), (110, .putfield 91, 3, 9, 14, 0), (113, .goto (-31), 3, 0, 0, 0), (116, .iload_n 1, 1, 0, 0, 0), (117, .i2l, 1, 0, 0, 0), (118, .ldc2_w 113, 3, 0, 0, 48), (121, .ldc2_w 115, 3, 0, 0, 57), (124, .invokestatic 75, 3, 148, 3, 0), (127, .ifCond .eq 116, 3, 0, 0, 0), (130, .aload_n 0, 1, 0, 0, 0), (131, .iconst 2, 1, 0, 0, 0), (132, .putfield 106, 3, 9, 16, 0), (135, .aload_n 0, 1, 0, 0, 0), (136, .iconst 0, 1, 0, 0, 0), (137, .putfield 117, 3, 9, 17, 0), (140, .aload_n 0, 1, 0, 0, 0), (141, .aload_n 0, 1, 0, 0, 0), (142, .getfield 91, 3, 9, 14, 0), (145, .invokevirtual 94, 3, 152, 2, 9), (148, .i2l, 1, 0, 0, 0), (149, .ldc2_w 113, 3, 0, 0, 48), (152, .ldc2_w 115, 3, 0, 0, 57), (155, .invokestatic 75, 3, 148, 3, 0), (158, .ifCond .eq 59, 3, 0, 0, 0), (161, .aload_n 0, 1, 0, 0, 0), (162, .aload_n 0, 1, 0, 0, 0), (163, .getfield 91, 3, 9, 14, 0), (166, .aload_n 0, 1, 0, 0, 0), (167, .getfield 85, 3, 9, 15, 0), (170, .isub, 1, 0, 0, 0), (171, .iconst 2, 1, 0, 0, 0), (172, .if_icmp .ge 25, 3, 0, 0, 0), (175, .bipush 10, 2, 0, 0, 0), (177, .aload_n 0, 1, 0, 0, 0), (178, .getfield 117, 3, 9, 17, 0), (181, .imul, 1, 0, 0, 0), (182, .aload_n 0, 1, 0, 0, 0), (183, .aload_n 0, 1, 0, 0, 0), (184, .getfield 91, 3, 9, 14, 0), (187, .invokevirtual 94, 3, 152, 2, 9), (190, .iadd, 1, 0, 0, 0), (191, .bipush 48, 2, 0, 0, 0), (193, .isub, 1, 0, 0, 0), (194, .goto 7, 3, 0, 0, 0), (197, .aload_n 0, 1, 0, 0, 0), (198, .getfield 117, 3, 9, 17, 0)]
def cL151_2 : List MI := [(201, .putfield 117, 3, 9, 17, 0), (204, .aload_n 0, 1, 0, 0, 0), (205, .dup, 1, 0, 0, 0), (206, .getfield 91, 3, 9, 14, 0), (209, .iconst 1, 1, 0, 0, 0), (210, .iadd, 1, 0, 0, 0), (211, .putfield 91, 3, 9, 14, 0), (214, .goto (-74), 3, 0, 0, 0), (217, .aload_n 0, 1, 0, 0, 0), (218, .aload_n 0, 1, 0, 0, 0), (219, .getfield 91, 3, 9, 14, 0), (222, .aload_n 0, 1, 0, 0, 0), (223, .getfield 85, 3, 9, 15, 0), (226, .isub, 1, 0, 0, 0), (227, .iconst 2, 1, 0, 0, 0), (228, .if_icmp .gt 7, 3, 0, 0, 0), (231, .iconst 1, 1, 0, 0, 0), (232, .goto 4, 3, 0, 0, 0), (235, .iconst 0, 1, 0, 0, 0), (236, .iconst 1, 1, 0, 0, 0), (237, .invokevirtual 120, 3, 153, 3, 9), (240, .goto 34, 3, 0, 0, 0), (243, .aload_n 0, 1, 0, 0, 0), (244, .iconst 3, 1, 0, 0, 0), (245, .putfield 106, 3, 9, 16, 0), (248, .aload_n 0, 1, 0, 0, 0), (249, .iload_n 1, 1, 0, 0, 0), (250, .bipush 59, 2, 0, 0, 0), (252, .if_icmp .ne 7, 3, 0, 0, 0), (255, .iconst 1, 1, 0, 0, 0), (256, .goto 4, 3, 0, 0, 0), (259, .iconst 0, 1, 0, 0, 0), (260, .iconst 1, 1, 0, 0, 0), (261, .invokevirtual 120, 3, 153, 3, 9), (264, .aload_n 0, 1, 0, 0, 0), (265, .dup, 1, 0, 0, 0), (266, .getfield 91, 3, 9, 14, 0), (269, .iconst 1, 1, 0, 0, 0), (270, .iadd, 1, 0, 0, 0), (271, .putfield 91, 3, 9, 14, 0), (274, .return_, 1, 0, 0, 0)]
def cL151 : List MI := cL151_0 ++ (cL151_1 ++ (cL151_2))
/-- DoorPaintsModel.byteAt(I)I -/
def cL152 : List MI := [(0, .iload_n 1, 1, 0, 0, 0), (1, .aload_n 0, 1, 0, 0, 0), (2, .getfield 79, 3, 9, 13, 0), (5, .if_icmp .ge 12, 3, 0, 0, 0), (8, .aload_n 0, 1, 0, 0, 0), (9, .getfield 26, 3, 9, 12, 0), (12, .iload_n 1, 1, 0, 0, 0), (13, .iaload, 1, 0, 0, 0), (14, .goto 4, 3, 0, 0, 0), (17, .iconst (-1), 1, 0, 0, 0), (18, .ireturn, 1, 0, 0, 0)]
/-- DoorPaintsModel.needs(ZI)V -/
def cL153 : List MI := [(0, .iload_n 1, 1, 0, 0, 0), (1, .ifCond .ne 23, 3, 0, 0, 0), (4, .aload_n 0, 1, 0, 0, 0), (5, .getfield 82, 3, 9, 18, 0), (8, .ifCond .ne 16, 3, 0, 0, 0), (11, .aload_n 0, 1, 0, 0, 0), (12, .iload_n 2, 1, 0, 0, 0), (13, .putfield 82, 3, 9, 18, 0), (16, .aload_n 0, 1, 0, 0, 0), (17, .aload_n 0, 1, 0, 0, 0), (18, .getfield 85, 3, 9, 15, 0), (21, .putfield 88, 3, 9, 19, 0), (24, .return_, 1, 0, 0, 0)]
/-- DoorPaintsModel.readLine()V -/
def cL154_0 : List MI := [(0, .aload_n 0, 1, 0, 0, 0), (1, .getfield 106, 3, 9, 16, 0), (4, .iconst 1, 1, 0, 0, 0), (5, .if_icmp .ne 10, 3, 0, 0, 0), (8, .aload_n 0, 1, 0, 0, 0), (9, .invokevirtual 157, 3, 155, 1, 9), (12, .goto 5, 3, 0, 0, 0), (15, .bipush (-4), 2, 0, 0, 0), (17, .istore_n 1, 1, 0, 0, 0), (18, .aload_n 0, 1, 0, 0, 0), (19, .iload_n 1, 1, 0, 0, 0), (20, .bipush (-4), 2, 0, 0, 0), (22, .if_icmp .eq 7, 3, 0, 0, 0), (25, .iconst 1, 1, 0, 0, 0), (26, .goto 4, 3, 0, 0, 0), (29, .iconst 0, 1, 0, 0, 0), (30, .iconst 2, 1, 0, 0, 0), (31, .invokevirtual 120, 3, 153, 3, 9), (34, .aload_n 0, 1, 0, 0, 0), (35, .iload_n 1, 1, 0, 0, 0), (36, .iconst 4, 1, 0, 0, 0), (37, .if_icmp .ne 19, 3, 0, 0, 0), (40, .aload_n 0, 1, 0, 0, 0), (41, .getfield 54, 3, 9, 7, 0), (44, .iconst 4, 1, 0, 0, 0), (45, .if_icmp .ge 7, 3, 0, 0, 0), (48, .iconst 1, 1, 0, 0, 0), (49, .goto 25, 3, 0, 0, 0), (52, .iconst 0, 1, 0, 0, 0), (53, .goto 21, 3, 0, 0, 0), (56, .iload_n 1, 1, 0, 0, 0), (57, .iconst 4, 1, 0, 0, 0), (58, .if_icmp .gt 11, 3, 0, 0, 0), (61, .aload_n 0, 1, 0, 0, 0), (62, .getfield 50, 3, 9, 6, 0), (65, .iconst 4, 1, 0, 0, 0), (66, .if_icmp .ge 7, 3, 0, 0, 0), (69, .iconst 1, 1, 0, 0, 0), (70, .goto 4, 3, 0, 0, 0), (73, .iconst 0, 1, 0, 0, 0), (74, .iconst 5, 1, 0, 0, 0), (75, .invokevirtual 120, 3, 153, 3, 9), (78, .aload_n 0, 1, 0, 0, 0), (79, .iload_n 1, 1, 0, 0, 0), (80, .bipush 6, 2, 0, 0, 0), (82, .if_icmp .ne 10, 3, 0, 0, 0), (85, .aload_n 0, 1, 0, 0, 0), (86, .getfield 57, 3, 9, 8, 0), (89, .ifCond .ne 7, 3, 0, 0, 0), (92, .iconst 1, 1, 0, 0, 0)]
def cL154_1 : List MI := [(93, .goto 4, 3, 0, 0, 0), (96, .iconst 0, 1, 0, 0, 0), (97, .iconst 4, 1, 0, 0, 0), (98, .invokevirtual 120, 3, 153, 3, 9), (101, .aload_n 0, 1, 0, 0, 0), (102, .aload_n 0, 1, 0, 0, 0), (103, .getfield 57, 3, 9, 8, 0), (106, .ifCond .ne 9, 3, 0, 0, 0), (109, .iload_n 1, 1, 0, 0, 0), (110, .bipush 6, 2, 0, 0, 0), (112, .if_icmp .ne 7, 3, 0, 0, 0), (115, .iconst 1, 1, 0, 0, 0), (116, .goto 4, 3, 0, 0, 0), (119, .iconst 0, 1, 0, 0, 0), (120, .putfield 57, 3, 9, 8, 0), (123, .aload_n 0, 1, 0, 0, 0), (124, .invokevirtual 128, 3, 151, 1, 9), (127, .aload_n 0, 1, 0, 0, 0), (128, .getfield 82, 3, 9, 18, 0), (131, .ifCond .le 4, 3, 0, 0, 0), (134, .return_, 1, 0, 0, 0), (135, .aload_n 0, 1, 0, 0, 0), (136, .iload_n 1, 1, 0, 0, 0), (137, .invokevirtual 161, 3, 158, 2, 9), (140, .aload_n 0, 1, 0, 0, 0), (141, .getfield 82, 3, 9, 18, 0), (144, .ifCond .ne 21, 3, 0, 0, 0), (147, .aload_n 0, 1, 0, 0, 0), (148, .aload_n 0, 1, 0, 0, 0), (149, .getfield 106, 3, 9, 16, 0), (152, .iconst 3, 1, 0, 0, 0), (153, .if_icmp .ne 7, 3, 0, 0, 0), (156, .iconst 1, 1, 0, 0, 0), (157, .goto 4, 3, 0, 0, 0), (160, .iconst 0, 1, 0, 0, 0), (161, .iconst 2, 1, 0, 0, 0), (162, .invokevirtual 120, 3, 153, 3, 9), (165, .aload_n 0, 1, 0, 0, 0), (166, .invokevirtual 128, 3, 151, 1, 9), (169, .return_, 1, 0, 0, 0)]
def cL154 : List MI := cL154_0 ++ (cL154_1)
/-- DoorPaintsModel.lineNow()I -/
def cL155_0 : List MI := [(0, .aload_n 0, 1, 0, 0, 0), (1, .iconst 5, 1, 0, 0, 0), (2, .bipush 112, 2, 0, 0, 0), (4, .bipush 108, 2, 0, 0, 0), (6, .bipush 97, 2, 0, 0, 0), (8, .invokevirtual 98, 3, 156, 5, 9), (11, .ifCond .eq 17, 3, 0, 0, 0), (14, .aload_n 0, 1, 0, 0, 0), (15, .bipush 105, 2, 0, 0, 0), (17, .bipush 110, 2, 0, 0, 0), (19, .iconst 0, 1, 0, 0, 0), (20, .invokevirtual 102, 3, 157, 4, 9), (23, .ifCond .eq 5, 3, 0, 0, 0), (26, .iconst 0, 1, 0, 0, 0), (27, .ireturn, 1, 0, 0, 0), (28, .aload_n 0, 1, 0, 0, 0), (29, .bipush 6, 2, 0, 0, 0), (31, .bipush 112, 2, 0, 0, 0), (33, .bipush 114, 2, 0, 0, 0), (35, .bipush 105, 2, 0, 0, 0), (37, .invokevirtual 98, 3, 156, 5, 9), (40, .ifCond .eq 18, 3, 0, 0, 0), (43, .aload_n 0, 1, 0, 0, 0), (44, .bipush 101, 2, 0, 0, 0), (46, .bipush 115, 2, 0, 0, 0), (48, .bipush 116, 2, 0, 0, 0), (50, .invokevirtual 102, 3, 157, 4, 9), (53, .ifCond .eq 5, 3, 0, 0, 0), (56, .iconst 1, 1, 0, 0, 0), (57, .ireturn, 1, 0, 0, 0), (58, .aload_n 0, 1, 0, 0, 0), (59, .iconst 5, 1, 0, 0, 0), (60, .bipush 109, 2, 0, 0, 0), (62, .bipush 105, 2, 0, 0, 0), (64, .bipush 115, 2, 0, 0, 0), (66, .invokevirtual 98, 3, 156, 5, 9), (69, .ifCond .eq 17, 3, 0, 0, 0), (72, .aload_n 0, 1, 0, 0, 0), (73, .bipush 101, 2, 0, 0, 0), (75, .bipush 114, 2, 0, 0, 0), (77, .iconst 0, 1, 0, 0, 0), (78, .invokevirtual 102, 3, 157, 4, 9), (81, .ifCond .eq 5, 3, 0, 0, 0), (84, .iconst 2, 1, 0, 0, 0), (85, .ireturn, 1, 0, 0, 0), (86, .aload_n 0, 1, 0, 0, 0), (87, .iconst 3, 1, 0, 0, 0), (88, .bipush 115, 2, 0, 0, 0), (90, .bipush 112, 2, 0, 0, 0), (92, .bipush 121, 2, 0, 0, 0)]
def cL155_1 : List MI := [(94, .invokevirtual 98, 3, 156, 5, 9), (97, .ifCond .eq 5, 3, 0, 0, 0), (100, .iconst 3, 1, 0, 0, 0), (101, .ireturn, 1, 0, 0, 0), (102, .aload_n 0, 1, 0, 0, 0), (103, .iconst 4, 1, 0, 0, 0), (104, .bipush 100, 2, 0, 0, 0), (106, .bipush 111, 2, 0, 0, 0), (108, .bipush 111, 2, 0, 0, 0), (110, .invokevirtual 98, 3, 156, 5, 9), (113, .ifCond .eq 16, 3, 0, 0, 0), (116, .aload_n 0, 1, 0, 0, 0), (117, .bipush 114, 2, 0, 0, 0), (119, .iconst 0, 1, 0, 0, 0), (120, .iconst 0, 1, 0, 0, 0), (121, .invokevirtual 102, 3, 157, 4, 9), (124, .ifCond .eq 5, 3, 0, 0, 0), (127, .iconst 4, 1, 0, 0, 0), (128, .ireturn, 1, 0, 0, 0), (129, .aload_n 0, 1, 0, 0, 0), (130, .iconst 3, 1, 0, 0, 0), (131, .bipush 110, 2, 0, 0, 0), (133, .bipush 111, 2, 0, 0, 0), (135, .bipush 116, 2, 0, 0, 0), (137, .invokevirtual 98, 3, 156, 5, 9), (140, .ifCond .eq 7, 3, 0, 0, 0), (143, .iconst 5, 1, 0, 0, 0), (144, .goto 35, 3, 0, 0, 0), (147, .aload_n 0, 1, 0, 0, 0), (148, .iconst 4, 1, 0, 0, 0), (149, .bipush 112, 2, 0, 0, 0), (151, .bipush 108, 2, 0, 0, 0), (153, .bipush 97, 2, 0, 0, 0), (155, .invokevirtual 98, 3, 156, 5, 9), (158, .ifCond .eq 19, 3, 0, 0, 0), (161, .aload_n 0, 1, 0, 0, 0), (162, .bipush 110, 2, 0, 0, 0), (164, .iconst 0, 1, 0, 0, 0), (165, .iconst 0, 1, 0, 0, 0), (166, .invokevirtual 102, 3, 157, 4, 9), (169, .ifCond .eq 8, 3, 0, 0, 0), (172, .bipush 6, 2, 0, 0, 0), (174, .goto 5, 3, 0, 0, 0), (177, .bipush (-4), 2, 0, 0, 0), (179, .ireturn, 1, 0, 0, 0)]
def cL155 : List MI := cL155_0 ++ (cL155_1)
/-- DoorPaintsModel.is(IIII)Z -/
def cL156 : List MI := [(0, .aload_n 0, 1, 0, 0, 0), (1, .getfield 91, 3, 9, 14, 0), (4, .aload_n 0, 1, 0, 0, 0), (5, .getfield 85, 3, 9, 15, 0), (8, .isub, 1, 0, 0, 0), (9, .iload_n 1, 1, 0, 0, 0), (10, .if_icmp .ne 48, 3, 0, 0, 0), (13, .aload_n 0, 1, 0, 0, 0), (14, .aload_n 0, 1, 0, 0, 0), (15, .getfield 85, 3, 9, 15, 0), (18, .invokevirtual 94, 3, 152, 2, 9), (21, .iload_n 2, 1, 0, 0, 0), (22, .if_icmp .ne 36, 3, 0, 0, 0), (25, .aload_n 0, 1, 0, 0, 0), (26, .aload_n 0, 1, 0, 0, 0), (27, .getfield 85, 3, 9, 15, 0), (30, .iconst 1, 1, 0, 0, 0), (31, .iadd, 1, 0, 0, 0), (32, .invokevirtual 94, 3, 152, 2, 9), (35, .iload_n 3, 1, 0, 0, 0), (36, .if_icmp .ne 22, 3, 0, 0, 0), (39, .aload_n 0, 1, 0, 0, 0), (40, .aload_n 0, 1, 0, 0, 0), (41, .getfield 85, 3, 9, 15, 0), (44, .iconst 2, 1, 0, 0, 0), (45, .iadd, 1, 0, 0, 0), (46, .invokevirtual 94, 3, 152, 2, 9), (49, .iload 4, 2, 0, 0, 0), (51, .if_icmp .ne 7, 3, 0, 0, 0), (54, .iconst 1, 1, 0, 0, 0), (55, .goto 4, 3, 0, 0, 0), (58, .iconst 0, 1, 0, 0, 0), (59, .ireturn, 1, 0, 0, 0)]
/-- DoorPaintsModel.ends(III)Z -/
def cL157 : List MI := [(0, .aload_n 0, 1, 0, 0, 0), (1, .aload_n 0, 1, 0, 0, 0), (2, .getfield 85, 3, 9, 15, 0), (5, .iconst 3, 1, 0, 0, 0), (6, .iadd, 1, 0, 0, 0), (7, .invokevirtual 94, 3, 152, 2, 9), (10, .iload_n 1, 1, 0, 0, 0), (11, .if_icmp .ne 43, 3, 0, 0, 0), (14, .iload_n 2, 1, 0, 0, 0), (15, .ifCond .eq 17, 3, 0, 0, 0), (18, .aload_n 0, 1, 0, 0, 0), (19, .aload_n 0, 1, 0, 0, 0), (20, .getfield 85, 3, 9, 15, 0), (23, .iconst 4, 1, 0, 0, 0), (24, .iadd, 1, 0, 0, 0), (25, .invokevirtual 94, 3, 152, 2, 9), (28, .iload_n 2, 1, 0, 0, 0), (29, .if_icmp .ne 25, 3, 0, 0, 0), (32, .iload_n 3, 1, 0, 0, 0), (33, .ifCond .eq 17, 3, 0, 0, 0), (36, .aload_n 0, 1, 0, 0, 0), (37, .aload_n 0, 1, 0, 0, 0), (38, .getfield 85, 3, 9, 15, 0), (41, .iconst 5, 1, 0, 0, 0), (42, .iadd, 1, 0, 0, 0), (43, .invokevirtual 94, 3, 152, 2, 9), (46, .iload_n 3, 1, 0, 0, 0), (47, .if_icmp .ne 7, 3, 0, 0, 0), (50, .iconst 1, 1, 0, 0, 0), (51, .goto 4, 3, 0, 0, 0), (54, .iconst 0, 1, 0, 0, 0), (55, .ireturn, 1, 0, 0, 0)]
/-- DoorPaintsModel.readLineOf(I)V -/
def cL158 : List MI := [(0, .iload_n 1, 1, 0, 0, 0), (1, .tableswitch 48 4 6 #[27, 34, 41], 27, 0, 0, 0), (28, .aload_n 0, 1, 0, 0, 0), (29, .invokevirtual 144, 3, 159, 1, 9), (32, .goto 22, 3, 0, 0, 0), (35, .aload_n 0, 1, 0, 0, 0), (36, .invokevirtual 147, 3, 162, 1, 9), (39, .goto 15, 3, 0, 0, 0), (42, .aload_n 0, 1, 0, 0, 0), (43, .invokevirtual 150, 3, 163, 1, 9), (46, .goto 8, 3, 0, 0, 0), (49, .aload_n 0, 1, 0, 0, 0), (50, .iload_n 1, 1, 0, 0, 0), (51, .invokevirtual 153, 3, 165, 2, 9), (54, .return_, 1, 0, 0, 0)]
/-- DoorPaintsModel.readDoor()V -/
def cL159_0 : List MI := [(0, .bipush 16, 2, 0, 0, 0), (2, .bipush 9, 2, 0, 0, 0), (4, .aload_n 0, 1, 0, 0, 0), (5, .getfield 54, 3, 9, 7, 0), (8, .imul, 1, 0, 0, 0), (9, .iadd, 1, 0, 0, 0), (10, .istore_n 1, 1, 0, 0, 0), (11, .aload_n 0, 1, 0, 0, 0), (12, .getfield 82, 3, 9, 18, 0), (15, .ifCond .ne 81, 3, 0, 0, 0), (18, .aload_n 0, 1, 0, 0, 0), (19, .getfield 106, 3, 9, 16, 0), (22, .iconst 2, 1, 0, 0, 0), (23, .if_icmp .ne 73, 3, 0, 0, 0), (26, .aload_n 0, 1, 0, 0, 0), (27, .aload_n 0, 1, 0, 0, 0), (28, .getfield 20, 3, 9, 5, 0), (31, .iload_n 1, 1, 0, 0, 0), (32, .iconst 0, 1, 0, 0, 0), (33, .iadd, 1, 0, 0, 0), (34, .iaload, 1, 0, 0, 0), (35, .bipush 6, 2, 0, 0, 0), (37, .if_icmp .ge 7, 3, 0, 0, 0), (40, .iconst 1, 1, 0, 0, 0), (41, .goto 4, 3, 0, 0, 0), (44, .iconst 0, 1, 0, 0, 0), (45, .iconst 5, 1, 0, 0, 0), (46, .invokevirtual 120, 3, 153, 3, 9), (49, .aload_n 0, 1, 0, 0, 0), (50, .iconst 0, 1, 0, 0, 0), (51, .iconst 5, 1, 0, 0, 0), (52, .invokevirtual 131, 3, 160, 3, 9), (55, .istore_n 2, 1, 0, 0, 0), (56, .aload_n 0, 1, 0, 0, 0), (57, .getfield 82, 3, 9, 18, 0), (60, .ifCond .ne 33, 3, 0, 0, 0), (63, .aload_n 0, 1, 0, 0, 0), (64, .getfield 20, 3, 9, 5, 0), (67, .iload_n 1, 1, 0, 0, 0), (68, .iconst 3, 1, 0, 0, 0), (69, .iadd, 1, 0, 0, 0), (70, .aload_n 0, 1, 0, 0, 0), (71, .getfield 20, 3, 9, 5, 0), (74, .iload_n 1, 1, 0, 0, 0), (75, .iconst 0, 1, 0, 0, 0), (76, .iadd, 1, 0, 0, 0), (77, .iaload, 1, 0, 0, 0), (78, .iadd, 1, 0, 0, 0), (79, .iload_n 2, 1, 0, 0, 0), (80, .iastore, 1, 0, 0, 0)]
def cL159_1 : List MI := [(81, .aload_n 0, 1, 0, 0, 0), (82, .getfield 20, 3, 9, 5, 0), (85, .iload_n 1, 1, 0, 0, 0), (86, .iconst 0, 1, 0, 0, 0), (87, .iadd, 1, 0, 0, 0), (88, .dup2, 1, 0, 0, 0), (89, .iaload, 1, 0, 0, 0), (90, .iconst 1, 1, 0, 0, 0), (91, .iadd, 1, 0, 0, 0), (92, .iastore, 1, 0, 0, 0), (93, .goto (-82), 3, 0, 0, 0), (96, .aload_n 0, 1, 0, 0, 0), (97, .dup, 1, 0, 0, 0), (98, .getfield 54, 3, 9, 7, 0), (101, .iconst 1, 1, 0, 0, 0), (102, .iadd, 1, 0, 0, 0), (103, .putfield 54, 3, 9, 7, 0), (106, .return_, 1, 0, 0, 0)]
def cL159 : List MI := cL159_0 ++ (cL159_1)
/-- DoorPaintsModel.readNumber(II)I -/
def cL160 : List MI := [(0, .aload_n 0, 1, 0, 0, 0), (1, .iload_n 1, 1, 0, 0, 0), (2, .iload_n 2, 1, 0, 0, 0), (3, .invokevirtual 124, 3, 161, 3, 9), (6, .istore_n 3, 1, 0, 0, 0), (7, .aload_n 0, 1, 0, 0, 0), (8, .invokevirtual 128, 3, 151, 1, 9), (11, .iload_n 3, 1, 0, 0, 0), (12, .ireturn, 1, 0, 0, 0)]
/-- DoorPaintsModel.looked(II)I -/
def cL161 : List MI := [(0, .aload_n 0, 1, 0, 0, 0), (1, .getfield 82, 3, 9, 18, 0), (4, .ifCond .ne 21, 3, 0, 0, 0), (7, .aload_n 0, 1, 0, 0, 0), (8, .aload_n 0, 1, 0, 0, 0), (9, .getfield 106, 3, 9, 16, 0), (12, .iconst 2, 1, 0, 0, 0), (13, .if_icmp .ne 7, 3, 0, 0, 0), (16, .iconst 1, 1, 0, 0, 0), (17, .goto 4, 3, 0, 0, 0), (20, .iconst 0, 1, 0, 0, 0), (21, .iconst 2, 1, 0, 0, 0), (22, .invokevirtual 120, 3, 153, 3, 9), (25, .aload_n 0, 1, 0, 0, 0), (26, .getfield 82, 3, 9, 18, 0), (29, .ifCond .ne 20, 3, 0, 0, 0), (32, .aload_n 0, 1, 0, 0, 0), (33, .aload_n 0, 1, 0, 0, 0), (34, .getfield 117, 3, 9, 17, 0), (37, .i2l, 1, 0, 0, 0), (38, .iload_n 1, 1, 0, 0, 0), (39, .i2l, 1, 0, 0, 0), (40, .iload_n 2, 1, 0, 0, 0), (41, .i2l, 1, 0, 0, 0), (42, .invokestatic 75, 3, 148, 3, 0), (45, .iconst 3, 1, 0, 0, 0), (46, .invokevirtual 120, 3, 153, 3, 9), (49, .aload_n 0, 1, 0, 0, 0), (50, .getfield 82, 3, 9, 18, 0), (53, .ifCond .ne 10, 3, 0, 0, 0), (56, .aload_n 0, 1, 0, 0, 0), (57, .getfield 117, 3, 9, 17, 0), (60, .goto 4, 3, 0, 0, 0), (63, .iconst 0, 1, 0, 0, 0), (64, .ireturn, 1, 0, 0, 0)]
/-- DoorPaintsModel.readNot()V -/
def cL162_0 : List MI := [(0, .aload_n 0, 1, 0, 0, 0), (1, .iconst 0, 1, 0, 0, 0), (2, .iconst 3, 1, 0, 0, 0), (3, .invokevirtual 131, 3, 160, 3, 9), (6, .istore_n 1, 1, 0, 0, 0), (7, .aload_n 0, 1, 0, 0, 0), (8, .aload_n 0, 1, 0, 0, 0), (9, .getfield 82, 3, 9, 18, 0), (12, .ifCond .ne 15, 3, 0, 0, 0), (15, .iload_n 1, 1, 0, 0, 0), (16, .aload_n 0, 1, 0, 0, 0), (17, .getfield 64, 3, 9, 10, 0), (20, .if_icmp .le 7, 3, 0, 0, 0), (23, .iload_n 1, 1, 0, 0, 0), (24, .goto 7, 3, 0, 0, 0), (27, .aload_n 0, 1, 0, 0, 0), (28, .getfield 64, 3, 9, 10, 0), (31, .putfield 64, 3, 9, 10, 0), (34, .aload_n 0, 1, 0, 0, 0), (35, .iconst 0, 1, 0, 0, 0), (36, .iconst 5, 1, 0, 0, 0), (37, .invokevirtual 124, 3, 161, 3, 9), (40, .istore_n 2, 1, 0, 0, 0), (41, .aload_n 0, 1, 0, 0, 0), (42, .getfield 82, 3, 9, 18, 0), (45, .ifCond .ne 38, 3, 0, 0, 0), (48, .aload_n 0, 1, 0, 0, 0), (49, .aload_n 0, 1, 0, 0, 0), (50, .getfield 23, 3, 9, 11, 0), (53, .iload_n 1, 1, 0, 0, 0), (54, .iaload, 1, 0, 0, 0), (55, .iload_n 2, 1, 0, 0, 0), (56, .ishr, 1, 0, 0, 0), (57, .iconst 1, 1, 0, 0, 0), (58, .iand, 1, 0, 0, 0), (59, .ifCond .ne 7, 3, 0, 0, 0), (62, .iconst 1, 1, 0, 0, 0), (63, .goto 4, 3, 0, 0, 0), (66, .iconst 0, 1, 0, 0, 0), (67, .iconst 4, 1, 0, 0, 0), (68, .invokevirtual 120, 3, 153, 3, 9), (71, .aload_n 0, 1, 0, 0, 0), (72, .getfield 23, 3, 9, 11, 0), (75, .iload_n 1, 1, 0, 0, 0), (76, .dup2, 1, 0, 0, 0), (77, .iaload, 1, 0, 0, 0), (78, .iconst 1, 1, 0, 0, 0), (79, .iload_n 2, 1, 0, 0, 0), (80, .ishl, 1, 0, 0, 0), (81, .ior, 1, 0, 0, 0)]
def cL162_1 : List MI := [(82, .iastore, 1, 0, 0, 0), (83, .aload_n 0, 1, 0, 0, 0), (84, .invokevirtual 128, 3, 151, 1, 9), (87, .return_, 1, 0, 0, 0)]
def cL162 : List MI := cL162_0 ++ (cL162_1)
/-- DoorPaintsModel.readPlan()V -/
def cL163_0 : List MI := [(0, .aload_n 0, 1, 0, 0, 0), (1, .getfield 82, 3, 9, 18, 0), (4, .ifCond .ne 178, 3, 0, 0, 0), (7, .aload_n 0, 1, 0, 0, 0), (8, .getfield 106, 3, 9, 16, 0), (11, .iconst 2, 1, 0, 0, 0), (12, .if_icmp .ne 170, 3, 0, 0, 0), (15, .aload_n 0, 1, 0, 0, 0), (16, .aload_n 0, 1, 0, 0, 0), (17, .getfield 20, 3, 9, 5, 0), (20, .bipush 52, 2, 0, 0, 0), (22, .iaload, 1, 0, 0, 0), (23, .bipush 8, 2, 0, 0, 0), (25, .if_icmp .ge 7, 3, 0, 0, 0), (28, .iconst 1, 1, 0, 0, 0), (29, .goto 4, 3, 0, 0, 0), (32, .iconst 0, 1, 0, 0, 0), (33, .iconst 5, 1, 0, 0, 0), (34, .invokevirtual 120, 3, 153, 3, 9), (37, .aload_n 0, 1, 0, 0, 0), (38, .getfield 82, 3, 9, 18, 0), (41, .ifCond .ne 15, 3, 0, 0, 0), (44, .aload_n 0, 1, 0, 0, 0), (45, .aload_n 0, 1, 0, 0, 0), (46, .getfield 117, 3, 9, 17, 0), (49, .invokestatic 140, 3, 164, 1, 0), (52, .iconst 3, 1, 0, 0, 0), (53, .invokevirtual 120, 3, 153, 3, 9), (56, .aload_n 0, 1, 0, 0, 0), (57, .getfield 82, 3, 9, 18, 0), (60, .ifCond .ne 115, 3, 0, 0, 0), (63, .aload_n 0, 1, 0, 0, 0), (64, .getfield 20, 3, 9, 5, 0), (67, .bipush 53, 2, 0, 0, 0), (69, .aload_n 0, 1, 0, 0, 0), (70, .getfield 20, 3, 9, 5, 0), (73, .bipush 52, 2, 0, 0, 0), (75, .iaload, 1, 0, 0, 0), (76, .iadd, 1, 0, 0, 0), (77, .aload_n 0, 1, 0, 0, 0), (78, .getfield 117, 3, 9, 17, 0), (81, .iastore, 1, 0, 0, 0), (82, .aload_n 0, 1, 0, 0, 0), (83, .getfield 20, 3, 9, 5, 0), (86, .bipush 52, 2, 0, 0, 0), (88, .dup2, 1, 0, 0, 0), (89, .iaload, 1, 0, 0, 0), (90, .iconst 1, 1, 0, 0, 0), (91, .iadd, 1, 0, 0, 0), (92, .iastore, 1, 0, 0, 0)]
def cL163_1 : List MI := [(93, .aload_n 0, 1, 0, 0, 0), (94, .aload_n 0, 1, 0, 0, 0), (95, .getfield 117, 3, 9, 17, 0), (98, .bipush 90, 2, 0, 0, 0), (100, .if_icmp .ge 27, 3, 0, 0, 0), (103, .aload_n 0, 1, 0, 0, 0), (104, .getfield 117, 3, 9, 17, 0), (107, .bipush 10, 2, 0, 0, 0), (109, .idiv, 1, 0, 0, 0), (110, .aload_n 0, 1, 0, 0, 0), (111, .getfield 61, 3, 9, 9, 0), (114, .if_icmp .le 13, 3, 0, 0, 0), (117, .aload_n 0, 1, 0, 0, 0), (118, .getfield 117, 3, 9, 17, 0), (121, .bipush 10, 2, 0, 0, 0), (123, .idiv, 1, 0, 0, 0), (124, .goto 7, 3, 0, 0, 0), (127, .aload_n 0, 1, 0, 0, 0), (128, .getfield 61, 3, 9, 9, 0), (131, .putfield 61, 3, 9, 9, 0), (134, .aload_n 0, 1, 0, 0, 0), (135, .aload_n 0, 1, 0, 0, 0), (136, .getfield 117, 3, 9, 17, 0), (139, .bipush 90, 2, 0, 0, 0), (141, .if_icmp .ge 27, 3, 0, 0, 0), (144, .aload_n 0, 1, 0, 0, 0), (145, .getfield 117, 3, 9, 17, 0), (148, .bipush 10, 2, 0, 0, 0), (150, .irem, 1, 0, 0, 0), (151, .aload_n 0, 1, 0, 0, 0), (152, .getfield 64, 3, 9, 10, 0), (155, .if_icmp .le 13, 3, 0, 0, 0), (158, .aload_n 0, 1, 0, 0, 0), (159, .getfield 117, 3, 9, 17, 0), (162, .bipush 10, 2, 0, 0, 0), (164, .irem, 1, 0, 0, 0), (165, .goto 7, 3, 0, 0, 0), (168, .aload_n 0, 1, 0, 0, 0), (169, .getfield 64, 3, 9, 10, 0), (172, .putfield 64, 3, 9, 10, 0), (175, .aload_n 0, 1, 0, 0, 0), (176, .invokevirtual 128, 3, 151, 1, 9), (179, .goto (-179), 3, 0, 0, 0), (182, .return_, 1, 0, 0, 0)]
def cL163 : List MI := cL163_0 ++ (cL163_1)
/-- DoorPaintsModel.isActLike(I)Z -/
def cL164 : List MI := [(0, .iload_n 0, 1, 0, 0, 0), (1, .i2l, 1, 0, 0, 0), (2, .ldc2_w 134, 3, 0, 0, 90), (5, .ldc2_w 136, 3, 0, 0, 92), (8, .invokestatic 75, 3, 148, 3, 0), (11, .ifCond .ne 26, 3, 0, 0, 0), (14, .iload_n 0, 1, 0, 0, 0), (15, .bipush 10, 2, 0, 0, 0), (17, .idiv, 1, 0, 0, 0), (18, .i2l, 1, 0, 0, 0), (19, .lconst 0, 1, 0, 0, 0), (20, .ldc2_w 138, 3, 0, 0, 3), (23, .invokestatic 75, 3, 148, 3, 0), (26, .ifCond .eq 15, 3, 0, 0, 0), (29, .iload_n 0, 1, 0, 0, 0), (30, .bipush 10, 2, 0, 0, 0), (32, .irem, 1, 0, 0, 0), (33, .iconst 4, 1, 0, 0, 0), (34, .if_icmp .ge 7, 3, 0, 0, 0), (37, .iconst 1, 1, 0, 0, 0), (38, .goto 4, 3, 0, 0, 0), (41, .iconst 0, 1, 0, 0, 0), (42, .ireturn, 1, 0, 0, 0)]
/-- DoorPaintsModel.readVisitor(I)V -/
def cL165 : List MI := [(0, .iconst 4, 1, 0, 0, 0), (1, .aload_n 0, 1, 0, 0, 0), (2, .getfield 50, 3, 9, 6, 0), (5, .imul, 1, 0, 0, 0), (6, .istore_n 2, 1, 0, 0, 0), (7, .aload_n 0, 1, 0, 0, 0), (8, .getfield 20, 3, 9, 5, 0), (11, .iload_n 2, 1, 0, 0, 0), (12, .iconst 0, 1, 0, 0, 0), (13, .iadd, 1, 0, 0, 0), (14, .iload_n 1, 1, 0, 0, 0), (15, .iastore, 1, 0, 0, 0), (16, .aload_n 0, 1, 0, 0, 0), (17, .getfield 20, 3, 9, 5, 0), (20, .iload_n 2, 1, 0, 0, 0), (21, .iconst 1, 1, 0, 0, 0), (22, .iadd, 1, 0, 0, 0), (23, .aload_n 0, 1, 0, 0, 0), (24, .iconst 0, 1, 0, 0, 0), (25, .iconst 5, 1, 0, 0, 0), (26, .invokevirtual 131, 3, 160, 3, 9), (29, .iastore, 1, 0, 0, 0), (30, .aload_n 0, 1, 0, 0, 0), (31, .getfield 20, 3, 9, 5, 0), (34, .iload_n 2, 1, 0, 0, 0), (35, .iconst 2, 1, 0, 0, 0), (36, .iadd, 1, 0, 0, 0), (37, .aload_n 0, 1, 0, 0, 0), (38, .iconst 0, 1, 0, 0, 0), (39, .bipush 99, 2, 0, 0, 0), (41, .invokevirtual 131, 3, 160, 3, 9), (44, .iastore, 1, 0, 0, 0), (45, .aload_n 0, 1, 0, 0, 0), (46, .dup, 1, 0, 0, 0), (47, .getfield 50, 3, 9, 6, 0), (50, .iconst 1, 1, 0, 0, 0), (51, .iadd, 1, 0, 0, 0), (52, .putfield 50, 3, 9, 6, 0), (55, .return_, 1, 0, 0, 0)]
/-- DoorPaintsModel.fault()I -/
def cL166 : List MI := [(0, .aload_n 0, 1, 0, 0, 0), (1, .getfield 82, 3, 9, 18, 0), (4, .ireturn, 1, 0, 0, 0)]
/-- DoorPaintsModel.rule(I)I -/
def cL167_0 : List MI := [(0, .aload_n 0, 1, 0, 0, 0), (1, .invokevirtual 232, 3, 168, 1, 9), (4, .iconst 0, 1, 0, 0, 0), (5, .istore_n 2, 1, 0, 0, 0), (6, .iconst 0, 1, 0, 0, 0), (7, .istore_n 3, 1, 0, 0, 0), (8, .iconst 0, 1, 0, 0, 0), (9, .istore 4, 2, 0, 0, 0), (11, .iload 4, 2, 0, 0, 0), (13, .aload_n 0, 1, 0, 0, 0), (14, .getfield 70, 3, 9, 4, 0), (17, .if_icmp .ge 22, 3, 0, 0, 0), (20, .iload_n 2, 1, 0, 0, 0), (21, .aload_n 0, 1, 0, 0, 0), (22, .iload 4, 2, 0, 0, 0), (24, .iconst 1, 1, 0, 0, 0), (25, .invokevirtual 176, 3, 169, 3, 9), (28, .iload 4, 2, 0, 0, 0), (30, .ishl, 1, 0, 0, 0), (31, .ior, 1, 0, 0, 0), (32, .istore_n 2, 1, 0, 0, 0), (33, .iinc 4 1, 3, 0, 0, 0), (36, .goto (-25), 3, 0, 0, 0), (39, .iconst 0, 1, 0, 0, 0), (40, .istore 4, 2, 0, 0, 0), (42, .iload 4, 2, 0, 0, 0), (44, .aload_n 0, 1, 0, 0, 0), (45, .getfield 67, 3, 9, 3, 0), (48, .if_icmp .ge 19, 3, 0, 0, 0), (51, .iload_n 3, 1, 0, 0, 0), (52, .aload_n 0, 1, 0, 0, 0), (53, .iload 4, 2, 0, 0, 0), (55, .iconst 2, 1, 0, 0, 0), (56, .invokevirtual 182, 3, 170, 3, 9), (59, .iadd, 1, 0, 0, 0), (60, .istore_n 3, 1, 0, 0, 0), (61, .iinc 4 1, 3, 0, 0, 0), (64, .goto (-22), 3, 0, 0, 0), (67, .iload_n 1, 1, 0, 0, 0), (68, .tableswitch 67 0 5 #[40, 45, 50, 58, 60, 65], 40, 0, 0, 0), (108, .aload_n 0, 1, 0, 0, 0), (109, .getfield 67, 3, 9, 3, 0), (112, .ireturn, 1, 0, 0, 0), (113, .aload_n 0, 1, 0, 0, 0), (114, .getfield 70, 3, 9, 4, 0), (117, .ireturn, 1, 0, 0, 0), (118, .aload_n 0, 1, 0, 0, 0), (119, .getfield 7, 3, 9, 0, 0), (122, .bipush 52, 2, 0, 0, 0), (124, .iaload, 1, 0, 0, 0)]
def cL167_1 : List MI := [(125, .ireturn, 1, 0, 0, 0), (126, .iload_n 2, 1, 0, 0, 0), (127, .ireturn, 1, 0, 0, 0), (128, .aload_n 0, 1, 0, 0, 0), (129, .invokevirtual 235, 3, 171, 1, 9), (132, .ireturn, 1, 0, 0, 0), (133, .iload_n 3, 1, 0, 0, 0), (134, .ireturn, 1, 0, 0, 0), (135, .iconst (-1), 1, 0, 0, 0), (136, .ireturn, 1, 0, 0, 0)]
def cL167 : List MI := cL167_0 ++ (cL167_1)
/-- DoorPaintsModel.starts()V -/
def cL168 : List MI := [(0, .iconst 0, 1, 0, 0, 0), (1, .istore_n 1, 1, 0, 0, 0), (2, .iload_n 1, 1, 0, 0, 0), (3, .bipush 80, 2, 0, 0, 0), (5, .if_icmp .ge 21, 3, 0, 0, 0), (8, .aload_n 0, 1, 0, 0, 0), (9, .getfield 13, 3, 9, 1, 0), (12, .iload_n 1, 1, 0, 0, 0), (13, .aload_n 0, 1, 0, 0, 0), (14, .getfield 7, 3, 9, 0, 0), (17, .iload_n 1, 1, 0, 0, 0), (18, .iaload, 1, 0, 0, 0), (19, .iastore, 1, 0, 0, 0), (20, .iinc 1 1, 3, 0, 0, 0), (23, .goto (-21), 3, 0, 0, 0), (26, .aload_n 0, 1, 0, 0, 0), (27, .bipush (-4), 2, 0, 0, 0), (29, .putfield 173, 3, 9, 20, 0), (32, .return_, 1, 0, 0, 0)]
/-- DoorPaintsModel.ofDoor(II)I -/
def cL169 : List MI := [(0, .aload_n 0, 1, 0, 0, 0), (1, .getfield 13, 3, 9, 1, 0), (4, .bipush 16, 2, 0, 0, 0), (6, .bipush 9, 2, 0, 0, 0), (8, .iload_n 1, 1, 0, 0, 0), (9, .imul, 1, 0, 0, 0), (10, .iadd, 1, 0, 0, 0), (11, .iload_n 2, 1, 0, 0, 0), (12, .iadd, 1, 0, 0, 0), (13, .iaload, 1, 0, 0, 0), (14, .ireturn, 1, 0, 0, 0)]
/-- DoorPaintsModel.of(II)I -/
def cL170 : List MI := [(0, .aload_n 0, 1, 0, 0, 0), (1, .getfield 13, 3, 9, 1, 0), (4, .iconst 4, 1, 0, 0, 0), (5, .iload_n 1, 1, 0, 0, 0), (6, .imul, 1, 0, 0, 0), (7, .iload_n 2, 1, 0, 0, 0), (8, .iadd, 1, 0, 0, 0), (9, .iaload, 1, 0, 0, 0), (10, .ireturn, 1, 0, 0, 0)]
/-- DoorPaintsModel.wrong()I -/
def cL171 : List MI := [(0, .iconst 0, 1, 0, 0, 0), (1, .istore_n 1, 1, 0, 0, 0), (2, .iconst 0, 1, 0, 0, 0), (3, .istore_n 2, 1, 0, 0, 0), (4, .iload_n 2, 1, 0, 0, 0), (5, .aload_n 0, 1, 0, 0, 0), (6, .getfield 70, 3, 9, 4, 0), (9, .if_icmp .ge 22, 3, 0, 0, 0), (12, .iload_n 1, 1, 0, 0, 0), (13, .aload_n 0, 1, 0, 0, 0), (14, .iload_n 2, 1, 0, 0, 0), (15, .invokevirtual 225, 3, 172, 2, 9), (18, .invokestatic 228, 3, 175, 1, 0), (21, .iload_n 2, 1, 0, 0, 0), (22, .ishl, 1, 0, 0, 0), (23, .ior, 1, 0, 0, 0), (24, .istore_n 1, 1, 0, 0, 0), (25, .iinc 2 1, 3, 0, 0, 0), (28, .goto (-24), 3, 0, 0, 0), (31, .iload_n 1, 1, 0, 0, 0), (32, .ireturn, 1, 0, 0, 0)]
/-- DoorPaintsModel.isWrong(I)Z -/
def cL172 : List MI := [(0, .aload_n 0, 1, 0, 0, 0), (1, .iload_n 1, 1, 0, 0, 0), (2, .invokevirtual 194, 3, 173, 2, 9), (5, .bipush (-4), 2, 0, 0, 0), (7, .if_icmp .eq 25, 3, 0, 0, 0), (10, .aload_n 0, 1, 0, 0, 0), (11, .iload_n 1, 1, 0, 0, 0), (12, .iconst 2, 1, 0, 0, 0), (13, .invokevirtual 176, 3, 169, 3, 9), (16, .aload_n 0, 1, 0, 0, 0), (17, .iload_n 1, 1, 0, 0, 0), (18, .invokevirtual 194, 3, 173, 2, 9), (21, .ishr, 1, 0, 0, 0), (22, .iconst 1, 1, 0, 0, 0), (23, .iand, 1, 0, 0, 0), (24, .iconst 1, 1, 0, 0, 0), (25, .if_icmp .ne 7, 3, 0, 0, 0), (28, .iconst 1, 1, 0, 0, 0), (29, .goto 4, 3, 0, 0, 0), (32, .iconst 0, 1, 0, 0, 0), (33, .ireturn, 1, 0, 0, 0)]
/-- DoorPaintsModel.showsOf(I)I -/
def cL173 : List MI := [(0, .aload_n 0, 1, 0, 0, 0), (1, .iload_n 1, 1, 0, 0, 0), (2, .iconst 0, 1, 0, 0, 0), (3, .invokevirtual 176, 3, 169, 3, 9), (6, .ifCond .ne 8, 3, 0, 0, 0), (9, .bipush (-4), 2, 0, 0, 0), (11, .goto 16, 3, 0, 0, 0), (14, .aload_n 0, 1, 0, 0, 0), (15, .iload_n 1, 1, 0, 0, 0), (16, .aload_n 0, 1, 0, 0, 0), (17, .iload_n 1, 1, 0, 0, 0), (18, .iconst 0, 1, 0, 0, 0), (19, .invokevirtual 176, 3, 169, 3, 9), (22, .iconst 1, 1, 0, 0, 0), (23, .isub, 1, 0, 0, 0), (24, .invokevirtual 179, 3, 174, 3, 9), (27, .ireturn, 1, 0, 0, 0)]
/-- DoorPaintsModel.layerOf(II)I -/
def cL174 : List MI := [(0, .aload_n 0, 1, 0, 0, 0), (1, .iload_n 1, 1, 0, 0, 0), (2, .iconst 3, 1, 0, 0, 0), (3, .iload_n 2, 1, 0, 0, 0), (4, .iadd, 1, 0, 0, 0), (5, .invokevirtual 176, 3, 169, 3, 9), (8, .ireturn, 1, 0, 0, 0)]
/-- DoorPaintsModel.flag(Z)I -/
def cL175 : List MI := [(0, .iload_n 0, 1, 0, 0, 0), (1, .ifCond .eq 7, 3, 0, 0, 0), (4, .iconst 1, 1, 0, 0, 0), (5, .goto 4, 3, 0, 0, 0), (8, .iconst 0, 1, 0, 0, 0), (9, .ireturn, 1, 0, 0, 0)]
/-- DoorPaintsModel.visitor(II)I -/
def cL176 : List MI := [(0, .aload_n 0, 1, 0, 0, 0), (1, .iload_n 1, 1, 0, 0, 0), (2, .invokevirtual 167, 3, 177, 2, 9), (5, .ifCond .eq 15, 3, 0, 0, 0), (8, .iload_n 2, 1, 0, 0, 0), (9, .i2l, 1, 0, 0, 0), (10, .lconst 0, 1, 0, 0, 0), (11, .ldc2_w 238, 3, 0, 0, 4), (14, .invokestatic 75, 3, 148, 3, 0), (17, .ifCond .ne 5, 3, 0, 0, 0), (20, .iconst (-1), 1, 0, 0, 0), (21, .ireturn, 1, 0, 0, 0), (22, .aload_n 0, 1, 0, 0, 0), (23, .invokevirtual 232, 3, 168, 1, 9), (26, .iload_n 2, 1, 0, 0, 0), (27, .iconst 4, 1, 0, 0, 0), (28, .if_icmp .ge 12, 3, 0, 0, 0), (31, .aload_n 0, 1, 0, 0, 0), (32, .iload_n 1, 1, 0, 0, 0), (33, .iload_n 2, 1, 0, 0, 0), (34, .invokevirtual 182, 3, 170, 3, 9), (37, .goto 8, 3, 0, 0, 0), (40, .aload_n 0, 1, 0, 0, 0), (41, .iload_n 1, 1, 0, 0, 0), (42, .invokevirtual 197, 3, 178, 2, 9), (45, .ireturn, 1, 0, 0, 0)]
/-- DoorPaintsModel.isVisitor(I)Z -/
def cL177 : List MI := [(0, .iload_n 1, 1, 0, 0, 0), (1, .i2l, 1, 0, 0, 0), (2, .lconst 0, 1, 0, 0, 0), (3, .aload_n 0, 1, 0, 0, 0), (4, .getfield 67, 3, 9, 3, 0), (7, .iconst 1, 1, 0, 0, 0), (8, .isub, 1, 0, 0, 0), (9, .i2l, 1, 0, 0, 0), (10, .invokestatic 75, 3, 148, 3, 0), (13, .ireturn, 1, 0, 0, 0)]
/-- DoorPaintsModel.brushOf(I)I -/
def cL178 : List MI := [(0, .iload_n 1, 1, 0, 0, 0), (1, .aload_n 0, 1, 0, 0, 0), (2, .getfield 173, 3, 9, 20, 0), (5, .if_icmp .ne 14, 3, 0, 0, 0), (8, .aload_n 0, 1, 0, 0, 0), (9, .aload_n 0, 1, 0, 0, 0), (10, .getfield 185, 3, 9, 21, 0), (13, .invokevirtual 188, 3, 179, 2, 9), (16, .goto 8, 3, 0, 0, 0), (19, .aload_n 0, 1, 0, 0, 0), (20, .iload_n 1, 1, 0, 0, 0), (21, .invokevirtual 188, 3, 179, 2, 9), (24, .ireturn, 1, 0, 0, 0)]
/-- DoorPaintsModel.ownBrush(I)I -/
def cL179 : List MI := [(0, .aload_n 0, 1, 0, 0, 0), (1, .iload_n 1, 1, 0, 0, 0), (2, .iconst 0, 1, 0, 0, 0), (3, .invokevirtual 182, 3, 170, 3, 9), (6, .iconst 3, 1, 0, 0, 0), (7, .if_icmp .ne 12, 3, 0, 0, 0), (10, .aload_n 0, 1, 0, 0, 0), (11, .iconst 0, 1, 0, 0, 0), (12, .iconst 1, 1, 0, 0, 0), (13, .invokevirtual 182, 3, 170, 3, 9), (16, .goto 9, 3, 0, 0, 0), (19, .aload_n 0, 1, 0, 0, 0), (20, .iload_n 1, 1, 0, 0, 0), (21, .iconst 1, 1, 0, 0, 0), (22, .invokevirtual 182, 3, 170, 3, 9), (25, .ireturn, 1, 0, 0, 0)]
/-- DoorPaintsModel.door(II)I -/
def cL180_0 : List MI := [(0, .aload_n 0, 1, 0, 0, 0), (1, .iload_n 1, 1, 0, 0, 0), (2, .invokevirtual 170, 3, 181, 2, 9), (5, .ifCond .ne 5, 3, 0, 0, 0), (8, .iconst (-1), 1, 0, 0, 0), (9, .ireturn, 1, 0, 0, 0), (10, .aload_n 0, 1, 0, 0, 0), (11, .invokevirtual 232, 3, 168, 1, 9), (14, .iload_n 2, 1, 0, 0, 0), (15, .tableswitch 56 0 3 #[29, 36, 42, 49], 29, 0, 0, 0), (44, .aload_n 0, 1, 0, 0, 0), (45, .iload_n 1, 1, 0, 0, 0), (46, .iconst 0, 1, 0, 0, 0), (47, .invokevirtual 176, 3, 169, 3, 9), (50, .ireturn, 1, 0, 0, 0), (51, .aload_n 0, 1, 0, 0, 0), (52, .iload_n 1, 1, 0, 0, 0), (53, .invokevirtual 194, 3, 173, 2, 9), (56, .ireturn, 1, 0, 0, 0), (57, .aload_n 0, 1, 0, 0, 0), (58, .iload_n 1, 1, 0, 0, 0), (59, .iconst 2, 1, 0, 0, 0), (60, .invokevirtual 176, 3, 169, 3, 9), (63, .ireturn, 1, 0, 0, 0), (64, .aload_n 0, 1, 0, 0, 0), (65, .iload_n 1, 1, 0, 0, 0), (66, .iconst 1, 1, 0, 0, 0), (67, .invokevirtual 176, 3, 169, 3, 9), (70, .ireturn, 1, 0, 0, 0), (71, .iload_n 2, 1, 0, 0, 0), (72, .bipush 10, 2, 0, 0, 0), (74, .isub, 1, 0, 0, 0), (75, .i2l, 1, 0, 0, 0), (76, .lconst 0, 1, 0, 0, 0), (77, .ldc2_w 240, 3, 0, 0, 5), (80, .invokestatic 75, 3, 148, 3, 0), (83, .ifCond .ne 7, 3, 0, 0, 0), (86, .iconst (-1), 1, 0, 0, 0), (87, .goto 30, 3, 0, 0, 0), (90, .iload_n 2, 1, 0, 0, 0), (91, .bipush 10, 2, 0, 0, 0), (93, .isub, 1, 0, 0, 0), (94, .aload_n 0, 1, 0, 0, 0), (95, .iload_n 1, 1, 0, 0, 0), (96, .iconst 0, 1, 0, 0, 0), (97, .invokevirtual 176, 3, 169, 3, 9), (100, .if_icmp .ge 15, 3, 0, 0, 0), (103, .aload_n 0, 1, 0, 0, 0), (104, .iload_n 1, 1, 0, 0, 0), (105, .iload_n 2, 1, 0, 0, 0)]
def cL180_1 : List MI := [(106, .bipush 10, 2, 0, 0, 0), (108, .isub, 1, 0, 0, 0), (109, .invokevirtual 179, 3, 174, 3, 9), (112, .goto 5, 3, 0, 0, 0), (115, .bipush (-4), 2, 0, 0, 0), (117, .ireturn, 1, 0, 0, 0)]
def cL180 : List MI := cL180_0 ++ (cL180_1)
/-- DoorPaintsModel.isDoor(I)Z -/
def cL181 : List MI := [(0, .iload_n 1, 1, 0, 0, 0), (1, .i2l, 1, 0, 0, 0), (2, .lconst 0, 1, 0, 0, 0), (3, .aload_n 0, 1, 0, 0, 0), (4, .getfield 70, 3, 9, 4, 0), (7, .iconst 1, 1, 0, 0, 0), (8, .isub, 1, 0, 0, 0), (9, .i2l, 1, 0, 0, 0), (10, .invokestatic 75, 3, 148, 3, 0), (13, .ireturn, 1, 0, 0, 0)]
/-- DoorPaintsModel.plan(I)I -/
def cL182 : List MI := [(0, .iload_n 1, 1, 0, 0, 0), (1, .i2l, 1, 0, 0, 0), (2, .lconst 0, 1, 0, 0, 0), (3, .aload_n 0, 1, 0, 0, 0), (4, .getfield 7, 3, 9, 0, 0), (7, .bipush 52, 2, 0, 0, 0), (9, .iaload, 1, 0, 0, 0), (10, .iconst 1, 1, 0, 0, 0), (11, .isub, 1, 0, 0, 0), (12, .i2l, 1, 0, 0, 0), (13, .invokestatic 75, 3, 148, 3, 0), (16, .ifCond .eq 15, 3, 0, 0, 0), (19, .aload_n 0, 1, 0, 0, 0), (20, .getfield 7, 3, 9, 0, 0), (23, .bipush 53, 2, 0, 0, 0), (25, .iload_n 1, 1, 0, 0, 0), (26, .iadd, 1, 0, 0, 0), (27, .iaload, 1, 0, 0, 0), (28, .goto 4, 3, 0, 0, 0), (31, .iconst (-1), 1, 0, 0, 0), (32, .ireturn, 1, 0, 0, 0)]
/-- DoorPaintsModel.uses(II)I -/
def cL183 : List MI := [(0, .aload_n 0, 1, 0, 0, 0), (1, .iload_n 1, 1, 0, 0, 0), (2, .invokevirtual 167, 3, 177, 2, 9), (5, .ifCond .eq 11, 3, 0, 0, 0), (8, .aload_n 0, 1, 0, 0, 0), (9, .iload_n 2, 1, 0, 0, 0), (10, .invokevirtual 170, 3, 181, 2, 9), (13, .ifCond .ne 5, 3, 0, 0, 0), (16, .iconst (-1), 1, 0, 0, 0), (17, .ireturn, 1, 0, 0, 0), (18, .aload_n 0, 1, 0, 0, 0), (19, .invokevirtual 232, 3, 168, 1, 9), (22, .aload_n 0, 1, 0, 0, 0), (23, .iload_n 1, 1, 0, 0, 0), (24, .iload_n 2, 1, 0, 0, 0), (25, .invokevirtual 191, 3, 184, 3, 9), (28, .ireturn, 1, 0, 0, 0)]
/-- DoorPaintsModel.usesOf(II)I -/
def cL184 : List MI := [(0, .iconst 1, 1, 0, 0, 0), (1, .aload_n 0, 1, 0, 0, 0), (2, .iload_n 2, 1, 0, 0, 0), (3, .iconst 0, 1, 0, 0, 0), (4, .invokevirtual 176, 3, 169, 3, 9), (7, .iconst 3, 1, 0, 0, 0), (8, .idiv, 1, 0, 0, 0), (9, .iadd, 1, 0, 0, 0), (10, .istore_n 3, 1, 0, 0, 0), (11, .aload_n 0, 1, 0, 0, 0), (12, .iload_n 1, 1, 0, 0, 0), (13, .iconst 0, 1, 0, 0, 0), (14, .invokevirtual 182, 3, 170, 3, 9), (17, .istore 4, 2, 0, 0, 0), (19, .iload 4, 2, 0, 0, 0), (21, .iconst 2, 1, 0, 0, 0), (22, .if_icmp .ne 7, 3, 0, 0, 0), (25, .iconst 0, 1, 0, 0, 0), (26, .goto 16, 3, 0, 0, 0), (29, .iload 4, 2, 0, 0, 0), (31, .iconst 1, 1, 0, 0, 0), (32, .if_icmp .ne 9, 3, 0, 0, 0), (35, .iconst 2, 1, 0, 0, 0), (36, .iload_n 3, 1, 0, 0, 0), (37, .imul, 1, 0, 0, 0), (38, .goto 4, 3, 0, 0, 0), (41, .iload_n 3, 1, 0, 0, 0), (42, .ireturn, 1, 0, 0, 0)]
/-- DoorPaintsModel.visit(II)I -/
def cL185 : List MI := [(0, .aload_n 0, 1, 0, 0, 0), (1, .iload_n 1, 1, 0, 0, 0), (2, .invokevirtual 167, 3, 177, 2, 9), (5, .ifCond .eq 11, 3, 0, 0, 0), (8, .aload_n 0, 1, 0, 0, 0), (9, .iload_n 2, 1, 0, 0, 0), (10, .invokevirtual 170, 3, 181, 2, 9), (13, .ifCond .ne 5, 3, 0, 0, 0), (16, .iconst (-1), 1, 0, 0, 0), (17, .ireturn, 1, 0, 0, 0), (18, .aload_n 0, 1, 0, 0, 0), (19, .invokevirtual 232, 3, 168, 1, 9), (22, .aload_n 0, 1, 0, 0, 0), (23, .iload_n 1, 1, 0, 0, 0), (24, .iload_n 2, 1, 0, 0, 0), (25, .invokevirtual 213, 3, 186, 3, 9), (28, .istore_n 3, 1, 0, 0, 0), (29, .iload_n 3, 1, 0, 0, 0), (30, .ifCond .eq 5, 3, 0, 0, 0), (33, .iload_n 3, 1, 0, 0, 0), (34, .ireturn, 1, 0, 0, 0), (35, .aload_n 0, 1, 0, 0, 0), (36, .iload_n 1, 1, 0, 0, 0), (37, .iload_n 2, 1, 0, 0, 0), (38, .invokevirtual 219, 3, 187, 3, 9), (41, .pop, 1, 0, 0, 0), (42, .aload_n 0, 1, 0, 0, 0), (43, .invokevirtual 242, 3, 189, 1, 9), (46, .aload_n 0, 1, 0, 0, 0), (47, .iload_n 2, 1, 0, 0, 0), (48, .invokevirtual 194, 3, 173, 2, 9), (51, .ireturn, 1, 0, 0, 0)]
end
section
/-! TABLES: the methods' listings (written by a program) -/
/-- DoorPaintsModel.keepsOut(II)I -/
def cL186 : List MI := [(0, .aload_n 0, 1, 0, 0, 0), (1, .iload_n 1, 1, 0, 0, 0), (2, .iconst 0, 1, 0, 0, 0), (3, .invokevirtual 182, 3, 170, 3, 9), (6, .iconst 2, 1, 0, 0, 0), (7, .if_icmp .eq 27, 3, 0, 0, 0), (10, .aload_n 0, 1, 0, 0, 0), (11, .iload_n 2, 1, 0, 0, 0), (12, .iconst 0, 1, 0, 0, 0), (13, .invokevirtual 176, 3, 169, 3, 9), (16, .bipush 6, 2, 0, 0, 0), (18, .if_icmp .ne 16, 3, 0, 0, 0), (21, .aload_n 0, 1, 0, 0, 0), (22, .iload_n 2, 1, 0, 0, 0), (23, .iconst 1, 1, 0, 0, 0), (24, .invokevirtual 176, 3, 169, 3, 9), (27, .ifCond .ne 7, 3, 0, 0, 0), (30, .iconst 1, 1, 0, 0, 0), (31, .goto 4, 3, 0, 0, 0), (34, .iconst 0, 1, 0, 0, 0), (35, .istore_n 3, 1, 0, 0, 0), (36, .aload_n 0, 1, 0, 0, 0), (37, .iload_n 1, 1, 0, 0, 0), (38, .iconst 2, 1, 0, 0, 0), (39, .invokevirtual 182, 3, 170, 3, 9), (42, .aload_n 0, 1, 0, 0, 0), (43, .iload_n 1, 1, 0, 0, 0), (44, .iload_n 2, 1, 0, 0, 0), (45, .invokevirtual 191, 3, 184, 3, 9), (48, .if_icmp .ge 8, 3, 0, 0, 0), (51, .bipush (-2), 2, 0, 0, 0), (53, .goto 13, 3, 0, 0, 0), (56, .iload_n 3, 1, 0, 0, 0), (57, .ifCond .eq 8, 3, 0, 0, 0), (60, .bipush (-3), 2, 0, 0, 0), (62, .goto 4, 3, 0, 0, 0), (65, .iconst 0, 1, 0, 0, 0), (66, .ireturn, 1, 0, 0, 0)]
/-- DoorPaintsModel.visits(II)I -/
def cL187_0 : List MI := [(0, .aload_n 0, 1, 0, 0, 0), (1, .iload_n 1, 1, 0, 0, 0), (2, .iload_n 2, 1, 0, 0, 0), (3, .invokevirtual 191, 3, 184, 3, 9), (6, .istore_n 3, 1, 0, 0, 0), (7, .aload_n 0, 1, 0, 0, 0), (8, .iload_n 2, 1, 0, 0, 0), (9, .invokevirtual 194, 3, 173, 2, 9), (12, .istore 4, 2, 0, 0, 0), (14, .aload_n 0, 1, 0, 0, 0), (15, .iload_n 2, 1, 0, 0, 0), (16, .iconst 1, 1, 0, 0, 0), (17, .invokevirtual 176, 3, 169, 3, 9), (20, .iconst 1, 1, 0, 0, 0), (21, .if_icmp .ne 14, 3, 0, 0, 0), (24, .iload 4, 2, 0, 0, 0), (26, .bipush (-4), 2, 0, 0, 0), (28, .if_icmp .eq 7, 3, 0, 0, 0), (31, .iconst 1, 1, 0, 0, 0), (32, .goto 4, 3, 0, 0, 0), (35, .iconst 0, 1, 0, 0, 0), (36, .istore 5, 2, 0, 0, 0), (38, .aload_n 0, 1, 0, 0, 0), (39, .getfield 13, 3, 9, 1, 0), (42, .iconst 4, 1, 0, 0, 0), (43, .iload_n 1, 1, 0, 0, 0), (44, .imul, 1, 0, 0, 0), (45, .iconst 2, 1, 0, 0, 0), (46, .iadd, 1, 0, 0, 0), (47, .dup2, 1, 0, 0, 0), (48, .iaload, 1, 0, 0, 0), (49, .iload_n 3, 1, 0, 0, 0), (50, .isub, 1, 0, 0, 0), (51, .iastore, 1, 0, 0, 0), (52, .iload 5, 2, 0, 0, 0), (54, .ifCond .eq 20, 3, 0, 0, 0), (57, .aload_n 0, 1, 0, 0, 0), (58, .getfield 13, 3, 9, 1, 0), (61, .iconst 4, 1, 0, 0, 0), (62, .iload_n 1, 1, 0, 0, 0), (63, .imul, 1, 0, 0, 0), (64, .iconst 3, 1, 0, 0, 0), (65, .iadd, 1, 0, 0, 0), (66, .dup2, 1, 0, 0, 0), (67, .iaload, 1, 0, 0, 0), (68, .iconst 1, 1, 0, 0, 0), (69, .iload 4, 2, 0, 0, 0), (71, .ishl, 1, 0, 0, 0), (72, .ior, 1, 0, 0, 0), (73, .iastore, 1, 0, 0, 0)]
def cL187_1 : List MI := [(74, .aload_n 0, 1, 0, 0, 0), (75, .iload_n 1, 1, 0, 0, 0), (76, .iconst 0, 1, 0, 0, 0), (77, .invokevirtual 182, 3, 170, 3, 9), (80, .iconst 2, 1, 0, 0, 0), (81, .if_icmp .eq 83, 3, 0, 0, 0), (84, .aload_n 0, 1, 0, 0, 0), (85, .iload_n 2, 1, 0, 0, 0), (86, .iconst 0, 1, 0, 0, 0), (87, .invokevirtual 176, 3, 169, 3, 9), (90, .istore 6, 2, 0, 0, 0), (92, .aload_n 0, 1, 0, 0, 0), (93, .iload_n 2, 1, 0, 0, 0), (94, .iconst 3, 1, 0, 0, 0), (95, .iload 5, 2, 0, 0, 0), (97, .ifCond .eq 10, 3, 0, 0, 0), (100, .iload 6, 2, 0, 0, 0), (102, .iconst 1, 1, 0, 0, 0), (103, .isub, 1, 0, 0, 0), (104, .goto 5, 3, 0, 0, 0), (107, .iload 6, 2, 0, 0, 0), (109, .iadd, 1, 0, 0, 0), (110, .iload 5, 2, 0, 0, 0), (112, .ifCond .eq 17, 3, 0, 0, 0), (115, .iload 4, 2, 0, 0, 0), (117, .aload_n 0, 1, 0, 0, 0), (118, .iload_n 1, 1, 0, 0, 0), (119, .invokevirtual 197, 3, 178, 2, 9), (122, .iadd, 1, 0, 0, 0), (123, .bipush 6, 2, 0, 0, 0), (125, .irem, 1, 0, 0, 0), (126, .goto 8, 3, 0, 0, 0), (129, .aload_n 0, 1, 0, 0, 0), (130, .iload_n 1, 1, 0, 0, 0), (131, .invokevirtual 197, 3, 178, 2, 9), (134, .invokevirtual 200, 3, 188, 4, 9), (137, .aload_n 0, 1, 0, 0, 0), (138, .iload_n 2, 1, 0, 0, 0), (139, .iconst 0, 1, 0, 0, 0), (140, .iload 5, 2, 0, 0, 0), (142, .ifCond .eq 8, 3, 0, 0, 0), (145, .iload 6, 2, 0, 0, 0), (147, .goto 7, 3, 0, 0, 0), (150, .iload 6, 2, 0, 0, 0), (152, .iconst 1, 1, 0, 0, 0), (153, .iadd, 1, 0, 0, 0), (154, .invokevirtual 200, 3, 188, 4, 9), (157, .aload_n 0, 1, 0, 0, 0), (158, .iload_n 2, 1, 0, 0, 0), (159, .iconst 1, 1, 0, 0, 0)]
def cL187_2 : List MI := [(160, .iconst 1, 1, 0, 0, 0), (161, .invokevirtual 200, 3, 188, 4, 9), (164, .iload_n 3, 1, 0, 0, 0), (165, .ireturn, 1, 0, 0, 0)]
def cL187 : List MI := cL187_0 ++ (cL187_1 ++ (cL187_2))
/-- DoorPaintsModel.becomesDoor(III)V -/
def cL188 : List MI := [(0, .aload_n 0, 1, 0, 0, 0), (1, .getfield 13, 3, 9, 1, 0), (4, .bipush 16, 2, 0, 0, 0), (6, .bipush 9, 2, 0, 0, 0), (8, .iload_n 1, 1, 0, 0, 0), (9, .imul, 1, 0, 0, 0), (10, .iadd, 1, 0, 0, 0), (11, .iload_n 2, 1, 0, 0, 0), (12, .iadd, 1, 0, 0, 0), (13, .iload_n 3, 1, 0, 0, 0), (14, .iastore, 1, 0, 0, 0), (15, .return_, 1, 0, 0, 0)]
/-- DoorPaintsModel.settles()V -/
def cL189 : List MI := [(0, .iconst 0, 1, 0, 0, 0), (1, .istore_n 1, 1, 0, 0, 0), (2, .iload_n 1, 1, 0, 0, 0), (3, .bipush 80, 2, 0, 0, 0), (5, .if_icmp .ge 21, 3, 0, 0, 0), (8, .aload_n 0, 1, 0, 0, 0), (9, .getfield 7, 3, 9, 0, 0), (12, .iload_n 1, 1, 0, 0, 0), (13, .aload_n 0, 1, 0, 0, 0), (14, .getfield 13, 3, 9, 1, 0), (17, .iload_n 1, 1, 0, 0, 0), (18, .iaload, 1, 0, 0, 0), (19, .iastore, 1, 0, 0, 0), (20, .iinc 1 1, 3, 0, 0, 0), (23, .goto (-21), 3, 0, 0, 0), (26, .return_, 1, 0, 0, 0)]
/-- DoorPaintsModel.sky(I)I -/
def cL190 : List MI := [(0, .iload_n 1, 1, 0, 0, 0), (1, .i2l, 1, 0, 0, 0), (2, .lconst 0, 1, 0, 0, 0), (3, .ldc2_w 245, 3, 0, 0, 2), (6, .invokestatic 75, 3, 148, 3, 0), (9, .ifCond .ne 5, 3, 0, 0, 0), (12, .iconst (-1), 1, 0, 0, 0), (13, .ireturn, 1, 0, 0, 0), (14, .aload_n 0, 1, 0, 0, 0), (15, .invokevirtual 232, 3, 168, 1, 9), (18, .aload_n 0, 1, 0, 0, 0), (19, .bipush 90, 2, 0, 0, 0), (21, .iload_n 1, 1, 0, 0, 0), (22, .iadd, 1, 0, 0, 0), (23, .invokevirtual 210, 3, 191, 2, 9), (26, .aload_n 0, 1, 0, 0, 0), (27, .invokevirtual 242, 3, 189, 1, 9), (30, .aload_n 0, 1, 0, 0, 0), (31, .invokevirtual 247, 3, 193, 1, 9), (34, .ireturn, 1, 0, 0, 0)]
/-- DoorPaintsModel.goesBy(I)V -/
def cL191 : List MI := [(0, .iconst 0, 1, 0, 0, 0), (1, .istore_n 2, 1, 0, 0, 0), (2, .iload_n 2, 1, 0, 0, 0), (3, .aload_n 0, 1, 0, 0, 0), (4, .getfield 70, 3, 9, 4, 0), (7, .if_icmp .ge 61, 3, 0, 0, 0), (10, .iload_n 1, 1, 0, 0, 0), (11, .bipush 91, 2, 0, 0, 0), (13, .if_icmp .ne 11, 3, 0, 0, 0), (16, .aload_n 0, 1, 0, 0, 0), (17, .iload_n 2, 1, 0, 0, 0), (18, .invokevirtual 204, 3, 192, 2, 9), (21, .goto 10, 3, 0, 0, 0), (24, .aload_n 0, 1, 0, 0, 0), (25, .iload_n 2, 1, 0, 0, 0), (26, .iconst 1, 1, 0, 0, 0), (27, .iconst 0, 1, 0, 0, 0), (28, .invokevirtual 200, 3, 188, 4, 9), (31, .iload_n 1, 1, 0, 0, 0), (32, .bipush 92, 2, 0, 0, 0), (34, .if_icmp .ne 28, 3, 0, 0, 0), (37, .aload_n 0, 1, 0, 0, 0), (38, .iload_n 2, 1, 0, 0, 0), (39, .invokevirtual 194, 3, 173, 2, 9), (42, .ifCond .ne 20, 3, 0, 0, 0), (45, .aload_n 0, 1, 0, 0, 0), (46, .iload_n 2, 1, 0, 0, 0), (47, .iconst 0, 1, 0, 0, 0), (48, .aload_n 0, 1, 0, 0, 0), (49, .iload_n 2, 1, 0, 0, 0), (50, .iconst 0, 1, 0, 0, 0), (51, .invokevirtual 176, 3, 169, 3, 9), (54, .iconst 1, 1, 0, 0, 0), (55, .isub, 1, 0, 0, 0), (56, .invokevirtual 200, 3, 188, 4, 9), (59, .goto (-28), 3, 0, 0, 0), (62, .iinc 2 1, 3, 0, 0, 0), (65, .goto (-63), 3, 0, 0, 0), (68, .return_, 1, 0, 0, 0)]
/-- DoorPaintsModel.rains(I)V -/
def cL192_0 : List MI := [(0, .aload_n 0, 1, 0, 0, 0), (1, .iload_n 1, 1, 0, 0, 0), (2, .iconst 0, 1, 0, 0, 0), (3, .invokevirtual 176, 3, 169, 3, 9), (6, .istore_n 2, 1, 0, 0, 0), (7, .iload_n 2, 1, 0, 0, 0), (8, .ifCond .le 75, 3, 0, 0, 0), (11, .iload_n 2, 1, 0, 0, 0), (12, .iconst 3, 1, 0, 0, 0), (13, .if_icmp .le 9, 3, 0, 0, 0), (16, .iload_n 2, 1, 0, 0, 0), (17, .iconst 3, 1, 0, 0, 0), (18, .isub, 1, 0, 0, 0), (19, .goto 4, 3, 0, 0, 0), (22, .iconst 0, 1, 0, 0, 0), (23, .istore_n 3, 1, 0, 0, 0), (24, .iconst 0, 1, 0, 0, 0), (25, .istore 4, 2, 0, 0, 0), (27, .iload_n 3, 1, 0, 0, 0), (28, .istore 5, 2, 0, 0, 0), (30, .iload 5, 2, 0, 0, 0), (32, .iload_n 2, 1, 0, 0, 0), (33, .if_icmp .ge 21, 3, 0, 0, 0), (36, .iload 4, 2, 0, 0, 0), (38, .aload_n 0, 1, 0, 0, 0), (39, .iload_n 1, 1, 0, 0, 0), (40, .iload 5, 2, 0, 0, 0), (42, .invokevirtual 179, 3, 174, 3, 9), (45, .iadd, 1, 0, 0, 0), (46, .istore 4, 2, 0, 0, 0), (48, .iinc 5 1, 3, 0, 0, 0), (51, .goto (-21), 3, 0, 0, 0), (54, .aload_n 0, 1, 0, 0, 0), (55, .iload_n 1, 1, 0, 0, 0), (56, .iconst 3, 1, 0, 0, 0), (57, .iload_n 3, 1, 0, 0, 0), (58, .iadd, 1, 0, 0, 0), (59, .iload 4, 2, 0, 0, 0), (61, .bipush 6, 2, 0, 0, 0), (63, .irem, 1, 0, 0, 0), (64, .invokevirtual 200, 3, 188, 4, 9), (67, .aload_n 0, 1, 0, 0, 0), (68, .iload_n 1, 1, 0, 0, 0), (69, .iconst 0, 1, 0, 0, 0), (70, .iload_n 3, 1, 0, 0, 0), (71, .iconst 1, 1, 0, 0, 0), (72, .iadd, 1, 0, 0, 0), (73, .invokevirtual 200, 3, 188, 4, 9), (76, .aload_n 0, 1, 0, 0, 0), (77, .iload_n 1, 1, 0, 0, 0)]
def cL192_1 : List MI := [(78, .iconst 1, 1, 0, 0, 0), (79, .iconst 1, 1, 0, 0, 0), (80, .invokevirtual 200, 3, 188, 4, 9), (83, .return_, 1, 0, 0, 0)]
def cL192 : List MI := cL192_0 ++ (cL192_1)
/-- DoorPaintsModel.layers()I -/
def cL193 : List MI := [(0, .iconst 0, 1, 0, 0, 0), (1, .istore_n 1, 1, 0, 0, 0), (2, .iconst 0, 1, 0, 0, 0), (3, .istore_n 2, 1, 0, 0, 0), (4, .iload_n 2, 1, 0, 0, 0), (5, .aload_n 0, 1, 0, 0, 0), (6, .getfield 70, 3, 9, 4, 0), (9, .if_icmp .ge 18, 3, 0, 0, 0), (12, .iload_n 1, 1, 0, 0, 0), (13, .aload_n 0, 1, 0, 0, 0), (14, .iload_n 2, 1, 0, 0, 0), (15, .iconst 0, 1, 0, 0, 0), (16, .invokevirtual 176, 3, 169, 3, 9), (19, .iadd, 1, 0, 0, 0), (20, .istore_n 1, 1, 0, 0, 0), (21, .iinc 2 1, 3, 0, 0, 0), (24, .goto (-20), 3, 0, 0, 0), (27, .iload_n 1, 1, 0, 0, 0), (28, .ireturn, 1, 0, 0, 0)]
/-- DoorPaintsModel.scrape(I)I -/
def cL194 : List MI := [(0, .aload_n 0, 1, 0, 0, 0), (1, .iload_n 1, 1, 0, 0, 0), (2, .invokevirtual 170, 3, 181, 2, 9), (5, .ifCond .ne 5, 3, 0, 0, 0), (8, .iconst (-1), 1, 0, 0, 0), (9, .ireturn, 1, 0, 0, 0), (10, .aload_n 0, 1, 0, 0, 0), (11, .invokevirtual 232, 3, 168, 1, 9), (14, .aload_n 0, 1, 0, 0, 0), (15, .iload_n 1, 1, 0, 0, 0), (16, .invokevirtual 194, 3, 173, 2, 9), (19, .bipush (-4), 2, 0, 0, 0), (21, .if_icmp .ne 6, 3, 0, 0, 0), (24, .bipush (-2), 2, 0, 0, 0), (26, .ireturn, 1, 0, 0, 0), (27, .aload_n 0, 1, 0, 0, 0), (28, .iload_n 1, 1, 0, 0, 0), (29, .iconst 0, 1, 0, 0, 0), (30, .aload_n 0, 1, 0, 0, 0), (31, .iload_n 1, 1, 0, 0, 0), (32, .iconst 0, 1, 0, 0, 0), (33, .invokevirtual 176, 3, 169, 3, 9), (36, .iconst 1, 1, 0, 0, 0), (37, .isub, 1, 0, 0, 0), (38, .invokevirtual 200, 3, 188, 4, 9), (41, .aload_n 0, 1, 0, 0, 0), (42, .iload_n 1, 1, 0, 0, 0), (43, .iconst 1, 1, 0, 0, 0), (44, .iconst 0, 1, 0, 0, 0), (45, .invokevirtual 200, 3, 188, 4, 9), (48, .aload_n 0, 1, 0, 0, 0), (49, .invokevirtual 242, 3, 189, 1, 9), (52, .aload_n 0, 1, 0, 0, 0), (53, .iload_n 1, 1, 0, 0, 0), (54, .invokevirtual 194, 3, 173, 2, 9), (57, .ireturn, 1, 0, 0, 0)]
/-- DoorPaintsModel.alter(III)I -/
def cL195 : List MI := [(0, .aload_n 0, 1, 0, 0, 0), (1, .iload_n 1, 1, 0, 0, 0), (2, .invokevirtual 167, 3, 177, 2, 9), (5, .ifCond .eq 42, 3, 0, 0, 0), (8, .iload_n 2, 1, 0, 0, 0), (9, .i2l, 1, 0, 0, 0), (10, .lconst 0, 1, 0, 0, 0), (11, .ldc2_w 138, 3, 0, 0, 3), (14, .invokestatic 75, 3, 148, 3, 0), (17, .ifCond .eq 30, 3, 0, 0, 0), (20, .iload_n 3, 1, 0, 0, 0), (21, .i2l, 1, 0, 0, 0), (22, .lconst 0, 1, 0, 0, 0), (23, .iload_n 2, 1, 0, 0, 0), (24, .invokestatic 250, 3, 196, 1, 0), (27, .i2l, 1, 0, 0, 0), (28, .invokestatic 75, 3, 148, 3, 0), (31, .ifCond .eq 16, 3, 0, 0, 0), (34, .aload_n 0, 1, 0, 0, 0), (35, .iconst 4, 1, 0, 0, 0), (36, .iload_n 1, 1, 0, 0, 0), (37, .imul, 1, 0, 0, 0), (38, .iload_n 2, 1, 0, 0, 0), (39, .iadd, 1, 0, 0, 0), (40, .iload_n 3, 1, 0, 0, 0), (41, .invokevirtual 253, 3, 197, 3, 9), (44, .goto 4, 3, 0, 0, 0), (47, .iconst (-1), 1, 0, 0, 0), (48, .ireturn, 1, 0, 0, 0)]
/-- DoorPaintsModel.mostOf(I)I -/
def cL196 : List MI := [(0, .iload_n 0, 1, 0, 0, 0), (1, .ifCond .ne 7, 3, 0, 0, 0), (4, .iconst 3, 1, 0, 0, 0), (5, .goto 23, 3, 0, 0, 0), (8, .iload_n 0, 1, 0, 0, 0), (9, .iconst 1, 1, 0, 0, 0), (10, .if_icmp .ne 7, 3, 0, 0, 0), (13, .iconst 5, 1, 0, 0, 0), (14, .goto 14, 3, 0, 0, 0), (17, .iload_n 0, 1, 0, 0, 0), (18, .iconst 2, 1, 0, 0, 0), (19, .if_icmp .ne 8, 3, 0, 0, 0), (22, .bipush 99, 2, 0, 0, 0), (24, .goto 4, 3, 0, 0, 0), (27, .iconst 0, 1, 0, 0, 0), (28, .ireturn, 1, 0, 0, 0)]
/-- DoorPaintsModel.becomes(II)I -/
def cL197 : List MI := [(0, .aload_n 0, 1, 0, 0, 0), (1, .getfield 7, 3, 9, 0, 0), (4, .iload_n 1, 1, 0, 0, 0), (5, .iaload, 1, 0, 0, 0), (6, .istore_n 3, 1, 0, 0, 0), (7, .aload_n 0, 1, 0, 0, 0), (8, .getfield 7, 3, 9, 0, 0), (11, .iload_n 1, 1, 0, 0, 0), (12, .iload_n 2, 1, 0, 0, 0), (13, .iastore, 1, 0, 0, 0), (14, .iload_n 3, 1, 0, 0, 0), (15, .ireturn, 1, 0, 0, 0)]
/-- DoorPaintsModel.ought(IIZ)I -/
def cL198 : List MI := [(0, .aload_n 0, 1, 0, 0, 0), (1, .iload_n 1, 1, 0, 0, 0), (2, .invokevirtual 170, 3, 181, 2, 9), (5, .ifCond .eq 15, 3, 0, 0, 0), (8, .iload_n 2, 1, 0, 0, 0), (9, .i2l, 1, 0, 0, 0), (10, .lconst 0, 1, 0, 0, 0), (11, .ldc2_w 240, 3, 0, 0, 5), (14, .invokestatic 75, 3, 148, 3, 0), (17, .ifCond .ne 5, 3, 0, 0, 0), (20, .iconst (-1), 1, 0, 0, 0), (21, .ireturn, 1, 0, 0, 0), (22, .bipush 16, 2, 0, 0, 0), (24, .bipush 9, 2, 0, 0, 0), (26, .iload_n 1, 1, 0, 0, 0), (27, .imul, 1, 0, 0, 0), (28, .iadd, 1, 0, 0, 0), (29, .iconst 2, 1, 0, 0, 0), (30, .iadd, 1, 0, 0, 0), (31, .istore 4, 2, 0, 0, 0), (33, .aload_n 0, 1, 0, 0, 0), (34, .getfield 7, 3, 9, 0, 0), (37, .iload 4, 2, 0, 0, 0), (39, .iaload, 1, 0, 0, 0), (40, .istore 5, 2, 0, 0, 0), (42, .aload_n 0, 1, 0, 0, 0), (43, .getfield 7, 3, 9, 0, 0), (46, .iload 4, 2, 0, 0, 0), (48, .iload_n 3, 1, 0, 0, 0), (49, .ifCond .eq 12, 3, 0, 0, 0), (52, .iload 5, 2, 0, 0, 0), (54, .iconst 1, 1, 0, 0, 0), (55, .iload_n 2, 1, 0, 0, 0), (56, .ishl, 1, 0, 0, 0), (57, .ior, 1, 0, 0, 0), (58, .goto 11, 3, 0, 0, 0), (61, .iload 5, 2, 0, 0, 0), (63, .iconst 1, 1, 0, 0, 0), (64, .iload_n 2, 1, 0, 0, 0), (65, .ishl, 1, 0, 0, 0), (66, .iconst (-1), 1, 0, 0, 0), (67, .ixor, 1, 0, 0, 0), (68, .iand, 1, 0, 0, 0), (69, .iastore, 1, 0, 0, 0), (70, .iload 5, 2, 0, 0, 0), (72, .iload_n 2, 1, 0, 0, 0), (73, .ishr, 1, 0, 0, 0), (74, .iconst 1, 1, 0, 0, 0), (75, .iand, 1, 0, 0, 0), (76, .ireturn, 1, 0, 0, 0)]
/-- DoorPaintsModel.plans(I)I -/
def cL199 : List MI := [(0, .aload_n 0, 1, 0, 0, 0), (1, .iload_n 1, 1, 0, 0, 0), (2, .invokevirtual 256, 3, 200, 2, 9), (5, .ifCond .ne 5, 3, 0, 0, 0), (8, .iconst (-1), 1, 0, 0, 0), (9, .ireturn, 1, 0, 0, 0), (10, .aload_n 0, 1, 0, 0, 0), (11, .getfield 7, 3, 9, 0, 0), (14, .bipush 52, 2, 0, 0, 0), (16, .iaload, 1, 0, 0, 0), (17, .bipush 8, 2, 0, 0, 0), (19, .if_icmp .ne 6, 3, 0, 0, 0), (22, .bipush (-3), 2, 0, 0, 0), (24, .ireturn, 1, 0, 0, 0), (25, .aload_n 0, 1, 0, 0, 0), (26, .getfield 7, 3, 9, 0, 0), (29, .bipush 53, 2, 0, 0, 0), (31, .aload_n 0, 1, 0, 0, 0), (32, .getfield 7, 3, 9, 0, 0), (35, .bipush 52, 2, 0, 0, 0), (37, .iaload, 1, 0, 0, 0), (38, .iadd, 1, 0, 0, 0), (39, .iload_n 1, 1, 0, 0, 0), (40, .iastore, 1, 0, 0, 0), (41, .aload_n 0, 1, 0, 0, 0), (42, .getfield 7, 3, 9, 0, 0), (45, .bipush 52, 2, 0, 0, 0), (47, .dup2, 1, 0, 0, 0), (48, .iaload, 1, 0, 0, 0), (49, .iconst 1, 1, 0, 0, 0), (50, .iadd, 1, 0, 0, 0), (51, .iastore, 1, 0, 0, 0), (52, .aload_n 0, 1, 0, 0, 0), (53, .getfield 7, 3, 9, 0, 0), (56, .bipush 52, 2, 0, 0, 0), (58, .iaload, 1, 0, 0, 0), (59, .ireturn, 1, 0, 0, 0)]
/-- DoorPaintsModel.isAct(I)Z -/
def cL200 : List MI := [(0, .iload_n 1, 1, 0, 0, 0), (1, .i2l, 1, 0, 0, 0), (2, .ldc2_w 134, 3, 0, 0, 90), (5, .ldc2_w 136, 3, 0, 0, 92), (8, .invokestatic 75, 3, 148, 3, 0), (11, .ifCond .ne 29, 3, 0, 0, 0), (14, .iload_n 1, 1, 0, 0, 0), (15, .ifCond .lt 29, 3, 0, 0, 0), (18, .aload_n 0, 1, 0, 0, 0), (19, .iload_n 1, 1, 0, 0, 0), (20, .bipush 10, 2, 0, 0, 0), (22, .idiv, 1, 0, 0, 0), (23, .invokevirtual 167, 3, 177, 2, 9), (26, .ifCond .eq 18, 3, 0, 0, 0), (29, .aload_n 0, 1, 0, 0, 0), (30, .iload_n 1, 1, 0, 0, 0), (31, .bipush 10, 2, 0, 0, 0), (33, .irem, 1, 0, 0, 0), (34, .invokevirtual 170, 3, 181, 2, 9), (37, .ifCond .eq 7, 3, 0, 0, 0), (40, .iconst 1, 1, 0, 0, 0), (41, .goto 4, 3, 0, 0, 0), (44, .iconst 0, 1, 0, 0, 0), (45, .ireturn, 1, 0, 0, 0)]
/-- DoorPaintsModel.cut(I)I -/
def cL201 : List MI := [(0, .iload_n 1, 1, 0, 0, 0), (1, .i2l, 1, 0, 0, 0), (2, .lconst 0, 1, 0, 0, 0), (3, .aload_n 0, 1, 0, 0, 0), (4, .getfield 7, 3, 9, 0, 0), (7, .bipush 52, 2, 0, 0, 0), (9, .iaload, 1, 0, 0, 0), (10, .i2l, 1, 0, 0, 0), (11, .invokestatic 75, 3, 148, 3, 0), (14, .ifCond .eq 13, 3, 0, 0, 0), (17, .aload_n 0, 1, 0, 0, 0), (18, .bipush 52, 2, 0, 0, 0), (20, .iload_n 1, 1, 0, 0, 0), (21, .invokevirtual 253, 3, 197, 3, 9), (24, .goto 4, 3, 0, 0, 0), (27, .iconst (-1), 1, 0, 0, 0), (28, .ireturn, 1, 0, 0, 0)]
/-- DoorPaintsModel.runs(I)I -/
def cL202_0 : List MI := [(0, .iload_n 1, 1, 0, 0, 0), (1, .i2l, 1, 0, 0, 0), (2, .lconst 0, 1, 0, 0, 0), (3, .ldc2_w 238, 3, 0, 0, 4), (6, .invokestatic 75, 3, 148, 3, 0), (9, .ifCond .ne 5, 3, 0, 0, 0), (12, .iconst (-1), 1, 0, 0, 0), (13, .ireturn, 1, 0, 0, 0), (14, .aload_n 0, 1, 0, 0, 0), (15, .invokevirtual 232, 3, 168, 1, 9), (18, .aload_n 0, 1, 0, 0, 0), (19, .iconst 0, 1, 0, 0, 0), (20, .putfield 216, 3, 9, 22, 0), (23, .bipush (-4), 2, 0, 0, 0), (25, .istore_n 2, 1, 0, 0, 0), (26, .iconst 0, 1, 0, 0, 0), (27, .istore_n 3, 1, 0, 0, 0), (28, .iload_n 3, 1, 0, 0, 0), (29, .aload_n 0, 1, 0, 0, 0), (30, .getfield 7, 3, 9, 0, 0), (33, .bipush 52, 2, 0, 0, 0), (35, .iaload, 1, 0, 0, 0), (36, .if_icmp .ge 41, 3, 0, 0, 0), (39, .aload_n 0, 1, 0, 0, 0), (40, .aload_n 0, 1, 0, 0, 0), (41, .getfield 7, 3, 9, 0, 0), (44, .bipush 53, 2, 0, 0, 0), (46, .iload_n 3, 1, 0, 0, 0), (47, .iadd, 1, 0, 0, 0), (48, .iaload, 1, 0, 0, 0), (49, .invokevirtual 222, 3, 203, 2, 9), (52, .aload_n 0, 1, 0, 0, 0), (53, .getfield 207, 3, 9, 23, 0), (56, .ifCond .ne 13, 3, 0, 0, 0), (59, .iload_n 2, 1, 0, 0, 0), (60, .bipush (-4), 2, 0, 0, 0), (62, .if_icmp .ne 7, 3, 0, 0, 0), (65, .iload_n 3, 1, 0, 0, 0), (66, .goto 4, 3, 0, 0, 0), (69, .iload_n 2, 1, 0, 0, 0), (70, .istore_n 2, 1, 0, 0, 0), (71, .iinc 3 1, 3, 0, 0, 0), (74, .goto (-46), 3, 0, 0, 0), (77, .iconst 0, 1, 0, 0, 0), (78, .istore_n 3, 1, 0, 0, 0), (79, .iconst 0, 1, 0, 0, 0), (80, .istore 4, 2, 0, 0, 0), (82, .iload 4, 2, 0, 0, 0), (84, .aload_n 0, 1, 0, 0, 0), (85, .getfield 67, 3, 9, 3, 0)]
def cL202_1 : List MI := [(88, .if_icmp .ge 33, 3, 0, 0, 0), (91, .iload_n 3, 1, 0, 0, 0), (92, .aload_n 0, 1, 0, 0, 0), (93, .iload 4, 2, 0, 0, 0), (95, .iconst 3, 1, 0, 0, 0), (96, .invokevirtual 182, 3, 170, 3, 9), (99, .ifCond .eq 7, 3, 0, 0, 0), (102, .iconst 1, 1, 0, 0, 0), (103, .goto 4, 3, 0, 0, 0), (106, .iconst 0, 1, 0, 0, 0), (107, .invokestatic 228, 3, 175, 1, 0), (110, .iload 4, 2, 0, 0, 0), (112, .ishl, 1, 0, 0, 0), (113, .ior, 1, 0, 0, 0), (114, .istore_n 3, 1, 0, 0, 0), (115, .iinc 4 1, 3, 0, 0, 0), (118, .goto (-36), 3, 0, 0, 0), (121, .iload_n 1, 1, 0, 0, 0), (122, .ifCond .ne 10, 3, 0, 0, 0), (125, .aload_n 0, 1, 0, 0, 0), (126, .getfield 216, 3, 9, 22, 0), (129, .goto 37, 3, 0, 0, 0), (132, .iload_n 1, 1, 0, 0, 0), (133, .iconst 1, 1, 0, 0, 0), (134, .if_icmp .ne 10, 3, 0, 0, 0), (137, .aload_n 0, 1, 0, 0, 0), (138, .invokevirtual 235, 3, 171, 1, 9), (141, .goto 25, 3, 0, 0, 0), (144, .iload_n 1, 1, 0, 0, 0), (145, .iconst 2, 1, 0, 0, 0), (146, .if_icmp .ne 7, 3, 0, 0, 0), (149, .iload_n 2, 1, 0, 0, 0), (150, .goto 16, 3, 0, 0, 0), (153, .iload_n 1, 1, 0, 0, 0), (154, .iconst 3, 1, 0, 0, 0), (155, .if_icmp .ne 10, 3, 0, 0, 0), (158, .aload_n 0, 1, 0, 0, 0), (159, .invokevirtual 247, 3, 193, 1, 9), (162, .goto 4, 3, 0, 0, 0), (165, .iload_n 3, 1, 0, 0, 0), (166, .ireturn, 1, 0, 0, 0)]
def cL202 : List MI := cL202_0 ++ (cL202_1)
/-- DoorPaintsModel.acts(I)V -/
def cL203 : List MI := [(0, .aload_n 0, 1, 0, 0, 0), (1, .iconst 1, 1, 0, 0, 0), (2, .putfield 207, 3, 9, 23, 0), (5, .iload_n 1, 1, 0, 0, 0), (6, .bipush 90, 2, 0, 0, 0), (8, .if_icmp .lt 11, 3, 0, 0, 0), (11, .aload_n 0, 1, 0, 0, 0), (12, .iload_n 1, 1, 0, 0, 0), (13, .invokevirtual 210, 3, 191, 2, 9), (16, .goto 47, 3, 0, 0, 0), (19, .aload_n 0, 1, 0, 0, 0), (20, .iload_n 1, 1, 0, 0, 0), (21, .bipush 10, 2, 0, 0, 0), (23, .idiv, 1, 0, 0, 0), (24, .iload_n 1, 1, 0, 0, 0), (25, .bipush 10, 2, 0, 0, 0), (27, .irem, 1, 0, 0, 0), (28, .invokevirtual 213, 3, 186, 3, 9), (31, .ifCond .ne 27, 3, 0, 0, 0), (34, .aload_n 0, 1, 0, 0, 0), (35, .dup, 1, 0, 0, 0), (36, .getfield 216, 3, 9, 22, 0), (39, .aload_n 0, 1, 0, 0, 0), (40, .iload_n 1, 1, 0, 0, 0), (41, .bipush 10, 2, 0, 0, 0), (43, .idiv, 1, 0, 0, 0), (44, .iload_n 1, 1, 0, 0, 0), (45, .bipush 10, 2, 0, 0, 0), (47, .irem, 1, 0, 0, 0), (48, .invokevirtual 219, 3, 187, 3, 9), (51, .iadd, 1, 0, 0, 0), (52, .putfield 216, 3, 9, 22, 0), (55, .goto 8, 3, 0, 0, 0), (58, .aload_n 0, 1, 0, 0, 0), (59, .iconst 0, 1, 0, 0, 0), (60, .putfield 207, 3, 9, 23, 0), (63, .return_, 1, 0, 0, 0)]
/-- DoorPaintsModel.ahead(I)I -/
def cL204 : List MI := [(0, .aload_n 0, 1, 0, 0, 0), (1, .iload_n 1, 1, 0, 0, 0), (2, .invokevirtual 170, 3, 181, 2, 9), (5, .ifCond .ne 5, 3, 0, 0, 0), (8, .iconst (-1), 1, 0, 0, 0), (9, .ireturn, 1, 0, 0, 0), (10, .aload_n 0, 1, 0, 0, 0), (11, .invokevirtual 232, 3, 168, 1, 9), (14, .aload_n 0, 1, 0, 0, 0), (15, .invokevirtual 259, 3, 205, 1, 9), (18, .aload_n 0, 1, 0, 0, 0), (19, .iload_n 1, 1, 0, 0, 0), (20, .invokevirtual 194, 3, 173, 2, 9), (23, .ireturn, 1, 0, 0, 0)]
/-- DoorPaintsModel.plansGo()V -/
def cL205 : List MI := [(0, .aload_n 0, 1, 0, 0, 0), (1, .iconst 0, 1, 0, 0, 0), (2, .putfield 216, 3, 9, 22, 0), (5, .iconst 0, 1, 0, 0, 0), (6, .istore_n 1, 1, 0, 0, 0), (7, .iload_n 1, 1, 0, 0, 0), (8, .aload_n 0, 1, 0, 0, 0), (9, .getfield 7, 3, 9, 0, 0), (12, .bipush 52, 2, 0, 0, 0), (14, .iaload, 1, 0, 0, 0), (15, .if_icmp .ge 22, 3, 0, 0, 0), (18, .aload_n 0, 1, 0, 0, 0), (19, .aload_n 0, 1, 0, 0, 0), (20, .getfield 7, 3, 9, 0, 0), (23, .bipush 53, 2, 0, 0, 0), (25, .iload_n 1, 1, 0, 0, 0), (26, .iadd, 1, 0, 0, 0), (27, .iaload, 1, 0, 0, 0), (28, .invokevirtual 222, 3, 203, 2, 9), (31, .iinc 1 1, 3, 0, 0, 0), (34, .goto (-27), 3, 0, 0, 0), (37, .return_, 1, 0, 0, 0)]
/-- DoorPaintsModel.clears(I)I -/
def cL206 : List MI := [(0, .aload_n 0, 1, 0, 0, 0), (1, .iload_n 1, 1, 0, 0, 0), (2, .invokevirtual 170, 3, 181, 2, 9), (5, .ifCond .ne 5, 3, 0, 0, 0), (8, .iconst (-1), 1, 0, 0, 0), (9, .ireturn, 1, 0, 0, 0), (10, .iconst 0, 1, 0, 0, 0), (11, .istore_n 2, 1, 0, 0, 0), (12, .iconst 0, 1, 0, 0, 0), (13, .istore_n 3, 1, 0, 0, 0), (14, .iload_n 3, 1, 0, 0, 0), (15, .aload_n 0, 1, 0, 0, 0), (16, .getfield 67, 3, 9, 3, 0), (19, .if_icmp .ge 50, 3, 0, 0, 0), (22, .aload_n 0, 1, 0, 0, 0), (23, .invokevirtual 232, 3, 168, 1, 9), (26, .aload_n 0, 1, 0, 0, 0), (27, .iload_n 3, 1, 0, 0, 0), (28, .iload_n 1, 1, 0, 0, 0), (29, .invokevirtual 213, 3, 186, 3, 9), (32, .ifCond .ne 31, 3, 0, 0, 0), (35, .aload_n 0, 1, 0, 0, 0), (36, .iload_n 3, 1, 0, 0, 0), (37, .iload_n 1, 1, 0, 0, 0), (38, .invokevirtual 219, 3, 187, 3, 9), (41, .pop, 1, 0, 0, 0), (42, .iload_n 2, 1, 0, 0, 0), (43, .aload_n 0, 1, 0, 0, 0), (44, .iload_n 1, 1, 0, 0, 0), (45, .invokevirtual 225, 3, 172, 2, 9), (48, .ifCond .ne 7, 3, 0, 0, 0), (51, .iconst 1, 1, 0, 0, 0), (52, .goto 4, 3, 0, 0, 0), (55, .iconst 0, 1, 0, 0, 0), (56, .invokestatic 228, 3, 175, 1, 0), (59, .iload_n 3, 1, 0, 0, 0), (60, .ishl, 1, 0, 0, 0), (61, .ior, 1, 0, 0, 0), (62, .istore_n 2, 1, 0, 0, 0), (63, .iinc 3 1, 3, 0, 0, 0), (66, .goto (-52), 3, 0, 0, 0), (69, .iload_n 2, 1, 0, 0, 0), (70, .ireturn, 1, 0, 0, 0)]
/-- DoorPaintsModel.best(II)I -/
def cL207_0 : List MI := [(0, .iload_n 1, 1, 0, 0, 0), (1, .i2l, 1, 0, 0, 0), (2, .lconst 0, 1, 0, 0, 0), (3, .ldc2_w 138, 3, 0, 0, 3), (6, .invokestatic 75, 3, 148, 3, 0), (9, .ifCond .eq 25, 3, 0, 0, 0), (12, .iload_n 2, 1, 0, 0, 0), (13, .invokestatic 271, 3, 208, 1, 0), (16, .ifCond .ne 20, 3, 0, 0, 0), (19, .iload_n 2, 1, 0, 0, 0), (20, .bipush 10, 2, 0, 0, 0), (22, .isub, 1, 0, 0, 0), (23, .i2l, 1, 0, 0, 0), (24, .lconst 0, 1, 0, 0, 0), (25, .ldc2_w 245, 3, 0, 0, 2), (28, .invokestatic 75, 3, 148, 3, 0), (31, .ifCond .ne 5, 3, 0, 0, 0), (34, .iconst (-1), 1, 0, 0, 0), (35, .ireturn, 1, 0, 0, 0), (36, .aload_n 0, 1, 0, 0, 0), (37, .invokevirtual 262, 3, 209, 1, 9), (40, .ifCond .ne 7, 3, 0, 0, 0), (43, .iconst 0, 1, 0, 0, 0), (44, .goto 4, 3, 0, 0, 0), (47, .iload_n 1, 1, 0, 0, 0), (48, .istore_n 3, 1, 0, 0, 0), (49, .ldc_w 274, 3, 0, 0, 1000000), (52, .istore 4, 2, 0, 0, 0), (54, .iconst 0, 1, 0, 0, 0), (55, .istore 5, 2, 0, 0, 0), (57, .iconst 0, 1, 0, 0, 0), (58, .istore 6, 2, 0, 0, 0), (60, .iconst 0, 1, 0, 0, 0), (61, .istore 7, 2, 0, 0, 0), (63, .iload 7, 2, 0, 0, 0), (65, .aload_n 0, 1, 0, 0, 0), (66, .iload_n 3, 1, 0, 0, 0), (67, .invokevirtual 265, 3, 210, 2, 9), (70, .if_icmp .ge 99, 3, 0, 0, 0), (73, .aload_n 0, 1, 0, 0, 0), (74, .iload 7, 2, 0, 0, 0), (76, .iload_n 3, 1, 0, 0, 0), (77, .invokevirtual 275, 3, 211, 3, 9), (80, .aload_n 0, 1, 0, 0, 0), (81, .invokevirtual 235, 3, 171, 1, 9), (84, .invokestatic 279, 3, 213, 1, 0), (87, .istore 8, 2, 0, 0, 0), (89, .iload 8, 2, 0, 0, 0), (91, .iload 4, 2, 0, 0, 0), (93, .if_icmp .lt 19, 3, 0, 0, 0)]
def cL207_1 : List MI := [(96, .iload 8, 2, 0, 0, 0), (98, .iload 4, 2, 0, 0, 0), (100, .if_icmp .ne 16, 3, 0, 0, 0), (103, .aload_n 0, 1, 0, 0, 0), (104, .getfield 216, 3, 9, 22, 0), (107, .iload 5, 2, 0, 0, 0), (109, .if_icmp .ge 7, 3, 0, 0, 0), (112, .iconst 1, 1, 0, 0, 0), (113, .goto 4, 3, 0, 0, 0), (116, .iconst 0, 1, 0, 0, 0), (117, .istore 9, 2, 0, 0, 0), (119, .iload 9, 2, 0, 0, 0), (121, .ifCond .eq 8, 3, 0, 0, 0), (124, .iload 7, 2, 0, 0, 0), (126, .goto 5, 3, 0, 0, 0), (129, .iload 6, 2, 0, 0, 0), (131, .istore 6, 2, 0, 0, 0), (133, .iload 9, 2, 0, 0, 0), (135, .ifCond .eq 10, 3, 0, 0, 0), (138, .aload_n 0, 1, 0, 0, 0), (139, .getfield 216, 3, 9, 22, 0), (142, .goto 5, 3, 0, 0, 0), (145, .iload 5, 2, 0, 0, 0), (147, .istore 5, 2, 0, 0, 0), (149, .iload 9, 2, 0, 0, 0), (151, .ifCond .eq 8, 3, 0, 0, 0), (154, .iload 8, 2, 0, 0, 0), (156, .goto 5, 3, 0, 0, 0), (159, .iload 4, 2, 0, 0, 0), (161, .istore 4, 2, 0, 0, 0), (163, .iinc 7 1, 3, 0, 0, 0), (166, .goto (-103), 3, 0, 0, 0), (169, .iload_n 2, 1, 0, 0, 0), (170, .invokestatic 271, 3, 208, 1, 0), (173, .ifCond .eq 15, 3, 0, 0, 0), (176, .iload_n 2, 1, 0, 0, 0), (177, .ifCond .ne 8, 3, 0, 0, 0), (180, .iload 4, 2, 0, 0, 0), (182, .goto 5, 3, 0, 0, 0), (185, .iload 5, 2, 0, 0, 0), (187, .ireturn, 1, 0, 0, 0), (188, .iload_n 2, 1, 0, 0, 0), (189, .bipush 10, 2, 0, 0, 0), (191, .isub, 1, 0, 0, 0), (192, .iload_n 3, 1, 0, 0, 0), (193, .if_icmp .ge 17, 3, 0, 0, 0), (196, .aload_n 0, 1, 0, 0, 0), (197, .iload 6, 2, 0, 0, 0), (199, .iload_n 3, 1, 0, 0, 0), (200, .iload_n 2, 1, 0, 0, 0)]
def cL207_2 : List MI := [(201, .bipush 10, 2, 0, 0, 0), (203, .isub, 1, 0, 0, 0), (204, .invokevirtual 282, 3, 214, 4, 9), (207, .goto 5, 3, 0, 0, 0), (210, .bipush (-4), 2, 0, 0, 0), (212, .ireturn, 1, 0, 0, 0)]
def cL207 : List MI := cL207_0 ++ (cL207_1 ++ (cL207_2))
/-- DoorPaintsModel.isPart(I)Z -/
def cL208 : List MI := [(0, .iload_n 0, 1, 0, 0, 0), (1, .i2l, 1, 0, 0, 0), (2, .lconst 0, 1, 0, 0, 0), (3, .lconst 1, 1, 0, 0, 0), (4, .invokestatic 75, 3, 148, 3, 0), (7, .ireturn, 1, 0, 0, 0)]
/-- DoorPaintsModel.kindsOfVisit()I -/
def cL209 : List MI := [(0, .aload_n 0, 1, 0, 0, 0), (1, .getfield 67, 3, 9, 3, 0), (4, .aload_n 0, 1, 0, 0, 0), (5, .getfield 70, 3, 9, 4, 0), (8, .imul, 1, 0, 0, 0), (9, .ireturn, 1, 0, 0, 0)]
/-- DoorPaintsModel.rowsOf(I)I -/
def cL210 : List MI := [(0, .iconst 1, 1, 0, 0, 0), (1, .istore_n 2, 1, 0, 0, 0), (2, .iconst 0, 1, 0, 0, 0), (3, .istore_n 3, 1, 0, 0, 0), (4, .iload_n 3, 1, 0, 0, 0), (5, .iload_n 1, 1, 0, 0, 0), (6, .if_icmp .ge 16, 3, 0, 0, 0), (9, .iload_n 2, 1, 0, 0, 0), (10, .aload_n 0, 1, 0, 0, 0), (11, .invokevirtual 262, 3, 209, 1, 9), (14, .imul, 1, 0, 0, 0), (15, .istore_n 2, 1, 0, 0, 0), (16, .iinc 3 1, 3, 0, 0, 0), (19, .goto (-15), 3, 0, 0, 0), (22, .iload_n 2, 1, 0, 0, 0), (23, .ireturn, 1, 0, 0, 0)]
/-- DoorPaintsModel.goesRow(II)V -/
def cL211 : List MI := [(0, .aload_n 0, 1, 0, 0, 0), (1, .iload_n 2, 1, 0, 0, 0), (2, .invokevirtual 265, 3, 210, 2, 9), (5, .istore_n 3, 1, 0, 0, 0), (6, .aload_n 0, 1, 0, 0, 0), (7, .invokevirtual 232, 3, 168, 1, 9), (10, .aload_n 0, 1, 0, 0, 0), (11, .iconst 0, 1, 0, 0, 0), (12, .putfield 216, 3, 9, 22, 0), (15, .iconst 0, 1, 0, 0, 0), (16, .istore 4, 2, 0, 0, 0), (18, .iload 4, 2, 0, 0, 0), (20, .iload_n 2, 1, 0, 0, 0), (21, .if_icmp .ge 32, 3, 0, 0, 0), (24, .iload_n 3, 1, 0, 0, 0), (25, .aload_n 0, 1, 0, 0, 0), (26, .invokevirtual 262, 3, 209, 1, 9), (29, .idiv, 1, 0, 0, 0), (30, .istore_n 3, 1, 0, 0, 0), (31, .aload_n 0, 1, 0, 0, 0), (32, .aload_n 0, 1, 0, 0, 0), (33, .iload_n 1, 1, 0, 0, 0), (34, .iload_n 3, 1, 0, 0, 0), (35, .idiv, 1, 0, 0, 0), (36, .aload_n 0, 1, 0, 0, 0), (37, .invokevirtual 262, 3, 209, 1, 9), (40, .irem, 1, 0, 0, 0), (41, .invokevirtual 268, 3, 212, 2, 9), (44, .invokevirtual 222, 3, 203, 2, 9), (47, .iinc 4 1, 3, 0, 0, 0), (50, .goto (-32), 3, 0, 0, 0), (53, .return_, 1, 0, 0, 0)]
/-- DoorPaintsModel.actAt(I)I -/
def cL212 : List MI := [(0, .bipush 10, 2, 0, 0, 0), (2, .iload_n 1, 1, 0, 0, 0), (3, .aload_n 0, 1, 0, 0, 0), (4, .getfield 70, 3, 9, 4, 0), (7, .idiv, 1, 0, 0, 0), (8, .imul, 1, 0, 0, 0), (9, .iload_n 1, 1, 0, 0, 0), (10, .aload_n 0, 1, 0, 0, 0), (11, .getfield 70, 3, 9, 4, 0), (14, .irem, 1, 0, 0, 0), (15, .iadd, 1, 0, 0, 0), (16, .ireturn, 1, 0, 0, 0)]
/-- DoorPaintsModel.bitsOf(I)I -/
def cL213 : List MI := [(0, .iconst 0, 1, 0, 0, 0), (1, .istore_n 1, 1, 0, 0, 0), (2, .iconst 0, 1, 0, 0, 0), (3, .istore_n 2, 1, 0, 0, 0), (4, .iload_n 2, 1, 0, 0, 0), (5, .bipush 8, 2, 0, 0, 0), (7, .if_icmp .ge 17, 3, 0, 0, 0), (10, .iload_n 1, 1, 0, 0, 0), (11, .iload_n 0, 1, 0, 0, 0), (12, .iload_n 2, 1, 0, 0, 0), (13, .ishr, 1, 0, 0, 0), (14, .iconst 1, 1, 0, 0, 0), (15, .iand, 1, 0, 0, 0), (16, .iadd, 1, 0, 0, 0), (17, .istore_n 1, 1, 0, 0, 0), (18, .iinc 2 1, 3, 0, 0, 0), (21, .goto (-17), 3, 0, 0, 0), (24, .iload_n 1, 1, 0, 0, 0), (25, .ireturn, 1, 0, 0, 0)]
/-- DoorPaintsModel.visitIn(III)I -/
def cL214 : List MI := [(0, .aload_n 0, 1, 0, 0, 0), (1, .iload_n 1, 1, 0, 0, 0), (2, .aload_n 0, 1, 0, 0, 0), (3, .iload_n 2, 1, 0, 0, 0), (4, .iconst 1, 1, 0, 0, 0), (5, .isub, 1, 0, 0, 0), (6, .iload_n 3, 1, 0, 0, 0), (7, .isub, 1, 0, 0, 0), (8, .invokevirtual 265, 3, 210, 2, 9), (11, .idiv, 1, 0, 0, 0), (12, .aload_n 0, 1, 0, 0, 0), (13, .invokevirtual 262, 3, 209, 1, 9), (16, .irem, 1, 0, 0, 0), (17, .invokevirtual 268, 3, 212, 2, 9), (20, .ireturn, 1, 0, 0, 0)]
/-- DoorPaintsModel.few(I)I -/
def cL215_0 : List MI := [(0, .iload_n 1, 1, 0, 0, 0), (1, .ifCond .eq 20, 3, 0, 0, 0), (4, .iload_n 1, 1, 0, 0, 0), (5, .bipush 10, 2, 0, 0, 0), (7, .isub, 1, 0, 0, 0), (8, .i2l, 1, 0, 0, 0), (9, .lconst 0, 1, 0, 0, 0), (10, .ldc2_w 245, 3, 0, 0, 2), (13, .invokestatic 75, 3, 148, 3, 0), (16, .ifCond .ne 5, 3, 0, 0, 0), (19, .iconst (-1), 1, 0, 0, 0), (20, .ireturn, 1, 0, 0, 0), (21, .iconst 0, 1, 0, 0, 0), (22, .istore_n 2, 1, 0, 0, 0), (23, .iload_n 2, 1, 0, 0, 0), (24, .aload_n 0, 1, 0, 0, 0), (25, .invokevirtual 262, 3, 209, 1, 9), (28, .ifCond .ne 7, 3, 0, 0, 0), (31, .iconst 0, 1, 0, 0, 0), (32, .goto 4, 3, 0, 0, 0), (35, .iconst 3, 1, 0, 0, 0), (36, .if_icmp .gt 71, 3, 0, 0, 0), (39, .iconst 0, 1, 0, 0, 0), (40, .istore_n 3, 1, 0, 0, 0), (41, .iload_n 3, 1, 0, 0, 0), (42, .aload_n 0, 1, 0, 0, 0), (43, .iload_n 2, 1, 0, 0, 0), (44, .invokevirtual 265, 3, 210, 2, 9), (47, .if_icmp .ge 54, 3, 0, 0, 0), (50, .aload_n 0, 1, 0, 0, 0), (51, .iload_n 3, 1, 0, 0, 0), (52, .iload_n 2, 1, 0, 0, 0), (53, .invokevirtual 275, 3, 211, 3, 9), (56, .aload_n 0, 1, 0, 0, 0), (57, .invokevirtual 235, 3, 171, 1, 9), (60, .ifCond .ne 35, 3, 0, 0, 0), (63, .iload_n 1, 1, 0, 0, 0), (64, .ifCond .ne 7, 3, 0, 0, 0), (67, .iload_n 2, 1, 0, 0, 0), (68, .goto 26, 3, 0, 0, 0), (71, .iload_n 1, 1, 0, 0, 0), (72, .bipush 10, 2, 0, 0, 0), (74, .isub, 1, 0, 0, 0), (75, .iload_n 2, 1, 0, 0, 0), (76, .if_icmp .ge 16, 3, 0, 0, 0), (79, .aload_n 0, 1, 0, 0, 0), (80, .iload_n 3, 1, 0, 0, 0), (81, .iload_n 2, 1, 0, 0, 0), (82, .iload_n 1, 1, 0, 0, 0), (83, .bipush 10, 2, 0, 0, 0)]
def cL215_1 : List MI := [(85, .isub, 1, 0, 0, 0), (86, .invokevirtual 282, 3, 214, 4, 9), (89, .goto 5, 3, 0, 0, 0), (92, .bipush (-4), 2, 0, 0, 0), (94, .ireturn, 1, 0, 0, 0), (95, .iinc 3 1, 3, 0, 0, 0), (98, .goto (-57), 3, 0, 0, 0), (101, .iinc 2 1, 3, 0, 0, 0), (104, .goto (-81), 3, 0, 0, 0), (107, .bipush (-4), 2, 0, 0, 0), (109, .ireturn, 1, 0, 0, 0)]
def cL215 : List MI := cL215_0 ++ (cL215_1)
/-- DoorPaintsModel.reads(I)I -/
def cL216_0 : List MI := [(0, .aload_n 0, 1, 0, 0, 0), (1, .iload_n 1, 1, 0, 0, 0), (2, .invokevirtual 167, 3, 177, 2, 9), (5, .ifCond .ne 5, 3, 0, 0, 0), (8, .iconst (-1), 1, 0, 0, 0), (9, .ireturn, 1, 0, 0, 0), (10, .aload_n 0, 1, 0, 0, 0), (11, .invokevirtual 232, 3, 168, 1, 9), (14, .iconst 0, 1, 0, 0, 0), (15, .istore_n 2, 1, 0, 0, 0), (16, .iconst 0, 1, 0, 0, 0), (17, .istore_n 3, 1, 0, 0, 0), (18, .iload_n 3, 1, 0, 0, 0), (19, .aload_n 0, 1, 0, 0, 0), (20, .getfield 70, 3, 9, 4, 0), (23, .if_icmp .ge 69, 3, 0, 0, 0), (26, .iconst 0, 1, 0, 0, 0), (27, .istore 4, 2, 0, 0, 0), (29, .iconst 0, 1, 0, 0, 0), (30, .istore 5, 2, 0, 0, 0), (32, .iload 5, 2, 0, 0, 0), (34, .aload_n 0, 1, 0, 0, 0), (35, .iload_n 3, 1, 0, 0, 0), (36, .iconst 0, 1, 0, 0, 0), (37, .invokevirtual 176, 3, 169, 3, 9), (40, .if_icmp .ge 36, 3, 0, 0, 0), (43, .iload 4, 2, 0, 0, 0), (45, .ifCond .ne 18, 3, 0, 0, 0), (48, .aload_n 0, 1, 0, 0, 0), (49, .iload_n 3, 1, 0, 0, 0), (50, .iload 5, 2, 0, 0, 0), (52, .invokevirtual 179, 3, 174, 3, 9), (55, .aload_n 0, 1, 0, 0, 0), (56, .iload_n 1, 1, 0, 0, 0), (57, .invokevirtual 197, 3, 178, 2, 9), (60, .if_icmp .ne 7, 3, 0, 0, 0), (63, .iconst 1, 1, 0, 0, 0), (64, .goto 4, 3, 0, 0, 0), (67, .iconst 0, 1, 0, 0, 0), (68, .istore 4, 2, 0, 0, 0), (70, .iinc 5 1, 3, 0, 0, 0), (73, .goto (-41), 3, 0, 0, 0), (76, .iload_n 2, 1, 0, 0, 0), (77, .iload 4, 2, 0, 0, 0), (79, .invokestatic 228, 3, 175, 1, 0), (82, .iload_n 3, 1, 0, 0, 0), (83, .ishl, 1, 0, 0, 0), (84, .ior, 1, 0, 0, 0), (85, .istore_n 2, 1, 0, 0, 0), (86, .iinc 3 1, 3, 0, 0, 0)]
def cL216_1 : List MI := [(89, .goto (-71), 3, 0, 0, 0), (92, .iload_n 2, 1, 0, 0, 0), (93, .ireturn, 1, 0, 0, 0)]
def cL216 : List MI := cL216_0 ++ (cL216_1)
/-- DoorPaintsModel.see(III)I -/
def cL217_0 : List MI := [(0, .aload_n 0, 1, 0, 0, 0), (1, .iload_n 1, 1, 0, 0, 0), (2, .invokevirtual 170, 3, 181, 2, 9), (5, .ifCond .eq 33, 3, 0, 0, 0), (8, .iload_n 2, 1, 0, 0, 0), (9, .i2l, 1, 0, 0, 0), (10, .lconst 0, 1, 0, 0, 0), (11, .ldc2_w 240, 3, 0, 0, 5), (14, .invokestatic 75, 3, 148, 3, 0), (17, .ifCond .eq 21, 3, 0, 0, 0), (20, .iload_n 3, 1, 0, 0, 0), (21, .bipush (-4), 2, 0, 0, 0), (23, .if_icmp .eq 17, 3, 0, 0, 0), (26, .iload_n 3, 1, 0, 0, 0), (27, .i2l, 1, 0, 0, 0), (28, .lconst 0, 1, 0, 0, 0), (29, .ldc2_w 240, 3, 0, 0, 5), (32, .invokestatic 75, 3, 148, 3, 0), (35, .ifCond .ne 5, 3, 0, 0, 0), (38, .iconst (-1), 1, 0, 0, 0), (39, .ireturn, 1, 0, 0, 0), (40, .aload_n 0, 1, 0, 0, 0), (41, .getfield 7, 3, 9, 0, 0), (44, .bipush 61, 2, 0, 0, 0), (46, .iaload, 1, 0, 0, 0), (47, .bipush 6, 2, 0, 0, 0), (49, .if_icmp .ne 6, 3, 0, 0, 0), (52, .bipush (-3), 2, 0, 0, 0), (54, .ireturn, 1, 0, 0, 0), (55, .bipush 62, 2, 0, 0, 0), (57, .iconst 3, 1, 0, 0, 0), (58, .aload_n 0, 1, 0, 0, 0), (59, .getfield 7, 3, 9, 0, 0), (62, .bipush 61, 2, 0, 0, 0), (64, .iaload, 1, 0, 0, 0), (65, .imul, 1, 0, 0, 0), (66, .iadd, 1, 0, 0, 0), (67, .istore 4, 2, 0, 0, 0), (69, .aload_n 0, 1, 0, 0, 0), (70, .getfield 7, 3, 9, 0, 0), (73, .iload 4, 2, 0, 0, 0), (75, .iload_n 1, 1, 0, 0, 0), (76, .iastore, 1, 0, 0, 0), (77, .aload_n 0, 1, 0, 0, 0), (78, .getfield 7, 3, 9, 0, 0), (81, .iload 4, 2, 0, 0, 0), (83, .iconst 1, 1, 0, 0, 0), (84, .iadd, 1, 0, 0, 0), (85, .iload_n 2, 1, 0, 0, 0), (86, .iastore, 1, 0, 0, 0)]
def cL217_1 : List MI := [(87, .aload_n 0, 1, 0, 0, 0), (88, .getfield 7, 3, 9, 0, 0), (91, .iload 4, 2, 0, 0, 0), (93, .iconst 2, 1, 0, 0, 0), (94, .iadd, 1, 0, 0, 0), (95, .iload_n 3, 1, 0, 0, 0), (96, .iastore, 1, 0, 0, 0), (97, .aload_n 0, 1, 0, 0, 0), (98, .getfield 7, 3, 9, 0, 0), (101, .bipush 61, 2, 0, 0, 0), (103, .dup2, 1, 0, 0, 0), (104, .iaload, 1, 0, 0, 0), (105, .iconst 1, 1, 0, 0, 0), (106, .iadd, 1, 0, 0, 0), (107, .iastore, 1, 0, 0, 0), (108, .aload_n 0, 1, 0, 0, 0), (109, .getfield 7, 3, 9, 0, 0), (112, .bipush 61, 2, 0, 0, 0), (114, .iaload, 1, 0, 0, 0), (115, .ireturn, 1, 0, 0, 0)]
def cL217 : List MI := cL217_0 ++ (cL217_1)
/-- DoorPaintsModel.forget(I)I -/
def cL218 : List MI := [(0, .iload_n 1, 1, 0, 0, 0), (1, .i2l, 1, 0, 0, 0), (2, .lconst 0, 1, 0, 0, 0), (3, .aload_n 0, 1, 0, 0, 0), (4, .getfield 7, 3, 9, 0, 0), (7, .bipush 61, 2, 0, 0, 0), (9, .iaload, 1, 0, 0, 0), (10, .i2l, 1, 0, 0, 0), (11, .invokestatic 75, 3, 148, 3, 0), (14, .ifCond .eq 13, 3, 0, 0, 0), (17, .aload_n 0, 1, 0, 0, 0), (18, .bipush 61, 2, 0, 0, 0), (20, .iload_n 1, 1, 0, 0, 0), (21, .invokevirtual 253, 3, 197, 3, 9), (24, .goto 4, 3, 0, 0, 0), (27, .iconst (-1), 1, 0, 0, 0), (28, .ireturn, 1, 0, 0, 0)]
/-- DoorPaintsModel.pots(I)I -/
def cL219 : List MI := [(0, .aload_n 0, 1, 0, 0, 0), (1, .iload_n 1, 1, 0, 0, 0), (2, .invokevirtual 167, 3, 177, 2, 9), (5, .ifCond .ne 5, 3, 0, 0, 0), (8, .iconst (-1), 1, 0, 0, 0), (9, .ireturn, 1, 0, 0, 0), (10, .iconst 0, 1, 0, 0, 0), (11, .istore_n 2, 1, 0, 0, 0), (12, .iconst 0, 1, 0, 0, 0), (13, .istore_n 3, 1, 0, 0, 0), (14, .iload_n 3, 1, 0, 0, 0), (15, .aload_n 0, 1, 0, 0, 0), (16, .getfield 67, 3, 9, 3, 0), (19, .if_icmp .ge 39, 3, 0, 0, 0), (22, .aload_n 0, 1, 0, 0, 0), (23, .invokevirtual 232, 3, 168, 1, 9), (26, .aload_n 0, 1, 0, 0, 0), (27, .iload_n 1, 1, 0, 0, 0), (28, .putfield 173, 3, 9, 20, 0), (31, .aload_n 0, 1, 0, 0, 0), (32, .iload_n 3, 1, 0, 0, 0), (33, .putfield 185, 3, 9, 21, 0), (36, .aload_n 0, 1, 0, 0, 0), (37, .invokevirtual 259, 3, 205, 1, 9), (40, .iload_n 2, 1, 0, 0, 0), (41, .aload_n 0, 1, 0, 0, 0), (42, .invokevirtual 286, 3, 220, 1, 9), (45, .invokestatic 228, 3, 175, 1, 0), (48, .iload_n 3, 1, 0, 0, 0), (49, .ishl, 1, 0, 0, 0), (50, .ior, 1, 0, 0, 0), (51, .istore_n 2, 1, 0, 0, 0), (52, .iinc 3 1, 3, 0, 0, 0), (55, .goto (-41), 3, 0, 0, 0), (58, .aload_n 0, 1, 0, 0, 0), (59, .bipush (-4), 2, 0, 0, 0), (61, .putfield 173, 3, 9, 20, 0), (64, .iload_n 2, 1, 0, 0, 0), (65, .ireturn, 1, 0, 0, 0)]
/-- DoorPaintsModel.isSo()Z -/
def cL220_0 : List MI := [(0, .iconst 1, 1, 0, 0, 0), (1, .istore_n 1, 1, 0, 0, 0), (2, .iconst 0, 1, 0, 0, 0), (3, .istore_n 2, 1, 0, 0, 0), (4, .iload_n 2, 1, 0, 0, 0), (5, .aload_n 0, 1, 0, 0, 0), (6, .getfield 7, 3, 9, 0, 0), (9, .bipush 61, 2, 0, 0, 0), (11, .iaload, 1, 0, 0, 0), (12, .if_icmp .ge 89, 3, 0, 0, 0), (15, .aload_n 0, 1, 0, 0, 0), (16, .getfield 7, 3, 9, 0, 0), (19, .bipush 62, 2, 0, 0, 0), (21, .iconst 3, 1, 0, 0, 0), (22, .iload_n 2, 1, 0, 0, 0), (23, .imul, 1, 0, 0, 0), (24, .iadd, 1, 0, 0, 0), (25, .iaload, 1, 0, 0, 0), (26, .istore_n 3, 1, 0, 0, 0), (27, .aload_n 0, 1, 0, 0, 0), (28, .getfield 7, 3, 9, 0, 0), (31, .bipush 62, 2, 0, 0, 0), (33, .iconst 3, 1, 0, 0, 0), (34, .iload_n 2, 1, 0, 0, 0), (35, .imul, 1, 0, 0, 0), (36, .iadd, 1, 0, 0, 0), (37, .iconst 1, 1, 0, 0, 0), (38, .iadd, 1, 0, 0, 0), (39, .iaload, 1, 0, 0, 0), (40, .istore 4, 2, 0, 0, 0), (42, .iload 4, 2, 0, 0, 0), (44, .aload_n 0, 1, 0, 0, 0), (45, .iload_n 3, 1, 0, 0, 0), (46, .iconst 0, 1, 0, 0, 0), (47, .invokevirtual 176, 3, 169, 3, 9), (50, .if_icmp .ge 13, 3, 0, 0, 0), (53, .aload_n 0, 1, 0, 0, 0), (54, .iload_n 3, 1, 0, 0, 0), (55, .iload 4, 2, 0, 0, 0), (57, .invokevirtual 179, 3, 174, 3, 9), (60, .goto 5, 3, 0, 0, 0), (63, .bipush (-4), 2, 0, 0, 0), (65, .istore 5, 2, 0, 0, 0), (67, .iload_n 1, 1, 0, 0, 0), (68, .ifCond .eq 25, 3, 0, 0, 0), (71, .iload 5, 2, 0, 0, 0), (73, .aload_n 0, 1, 0, 0, 0), (74, .getfield 7, 3, 9, 0, 0), (77, .bipush 62, 2, 0, 0, 0), (79, .iconst 3, 1, 0, 0, 0)]
def cL220_1 : List MI := [(80, .iload_n 2, 1, 0, 0, 0), (81, .imul, 1, 0, 0, 0), (82, .iadd, 1, 0, 0, 0), (83, .iconst 2, 1, 0, 0, 0), (84, .iadd, 1, 0, 0, 0), (85, .iaload, 1, 0, 0, 0), (86, .if_icmp .ne 7, 3, 0, 0, 0), (89, .iconst 1, 1, 0, 0, 0), (90, .goto 4, 3, 0, 0, 0), (93, .iconst 0, 1, 0, 0, 0), (94, .istore_n 1, 1, 0, 0, 0), (95, .iinc 2 1, 3, 0, 0, 0), (98, .goto (-94), 3, 0, 0, 0), (101, .iload_n 1, 1, 0, 0, 0), (102, .ireturn, 1, 0, 0, 0)]
def cL220 : List MI := cL220_0 ++ (cL220_1)
/-- DoorPaintsModel.rained()I -/
def cL221_0 : List MI := [(0, .iconst 0, 1, 0, 0, 0), (1, .istore_n 1, 1, 0, 0, 0), (2, .iconst 0, 1, 0, 0, 0), (3, .istore_n 2, 1, 0, 0, 0), (4, .iload_n 2, 1, 0, 0, 0), (5, .aload_n 0, 1, 0, 0, 0), (6, .getfield 7, 3, 9, 0, 0), (9, .bipush 52, 2, 0, 0, 0), (11, .iaload, 1, 0, 0, 0), (12, .if_icmp .gt 79, 3, 0, 0, 0), (15, .aload_n 0, 1, 0, 0, 0), (16, .invokevirtual 232, 3, 168, 1, 9), (19, .iconst 0, 1, 0, 0, 0), (20, .istore_n 3, 1, 0, 0, 0), (21, .iload_n 3, 1, 0, 0, 0), (22, .aload_n 0, 1, 0, 0, 0), (23, .getfield 7, 3, 9, 0, 0), (26, .bipush 52, 2, 0, 0, 0), (28, .iaload, 1, 0, 0, 0), (29, .if_icmp .gt 44, 3, 0, 0, 0), (32, .iload_n 3, 1, 0, 0, 0), (33, .iload_n 2, 1, 0, 0, 0), (34, .if_icmp .ne 9, 3, 0, 0, 0), (37, .aload_n 0, 1, 0, 0, 0), (38, .bipush 91, 2, 0, 0, 0), (40, .invokevirtual 222, 3, 203, 2, 9), (43, .iload_n 3, 1, 0, 0, 0), (44, .aload_n 0, 1, 0, 0, 0), (45, .getfield 7, 3, 9, 0, 0), (48, .bipush 52, 2, 0, 0, 0), (50, .iaload, 1, 0, 0, 0), (51, .if_icmp .ge 16, 3, 0, 0, 0), (54, .aload_n 0, 1, 0, 0, 0), (55, .aload_n 0, 1, 0, 0, 0), (56, .getfield 7, 3, 9, 0, 0), (59, .bipush 53, 2, 0, 0, 0), (61, .iload_n 3, 1, 0, 0, 0), (62, .iadd, 1, 0, 0, 0), (63, .iaload, 1, 0, 0, 0), (64, .invokevirtual 222, 3, 203, 2, 9), (67, .iinc 3 1, 3, 0, 0, 0), (70, .goto (-49), 3, 0, 0, 0), (73, .iload_n 1, 1, 0, 0, 0), (74, .aload_n 0, 1, 0, 0, 0), (75, .invokevirtual 286, 3, 220, 1, 9), (78, .invokestatic 228, 3, 175, 1, 0), (81, .iload_n 2, 1, 0, 0, 0), (82, .ishl, 1, 0, 0, 0), (83, .ior, 1, 0, 0, 0), (84, .istore_n 1, 1, 0, 0, 0)]
def cL221_1 : List MI := [(85, .iinc 2 1, 3, 0, 0, 0), (88, .goto (-84), 3, 0, 0, 0), (91, .iload_n 1, 1, 0, 0, 0), (92, .ireturn, 1, 0, 0, 0)]
def cL221 : List MI := cL221_0 ++ (cL221_1)
/-- DoorPaintsModel.orders(I)I -/
def cL222_0 : List MI := [(0, .iload_n 1, 1, 0, 0, 0), (1, .invokestatic 271, 3, 208, 1, 0), (4, .ifCond .ne 5, 3, 0, 0, 0), (7, .iconst (-1), 1, 0, 0, 0), (8, .ireturn, 1, 0, 0, 0), (9, .aload_n 0, 1, 0, 0, 0), (10, .getfield 7, 3, 9, 0, 0), (13, .bipush 52, 2, 0, 0, 0), (15, .iaload, 1, 0, 0, 0), (16, .istore_n 2, 1, 0, 0, 0), (17, .iload_n 2, 1, 0, 0, 0), (18, .iconst 5, 1, 0, 0, 0), (19, .if_icmp .le 6, 3, 0, 0, 0), (22, .bipush (-2), 2, 0, 0, 0), (24, .ireturn, 1, 0, 0, 0), (25, .iconst 1, 1, 0, 0, 0), (26, .istore_n 3, 1, 0, 0, 0), (27, .iconst 0, 1, 0, 0, 0), (28, .istore 4, 2, 0, 0, 0), (30, .iload 4, 2, 0, 0, 0), (32, .iload_n 2, 1, 0, 0, 0), (33, .if_icmp .ge 13, 3, 0, 0, 0), (36, .iload_n 3, 1, 0, 0, 0), (37, .iload_n 2, 1, 0, 0, 0), (38, .imul, 1, 0, 0, 0), (39, .istore_n 3, 1, 0, 0, 0), (40, .iinc 4 1, 3, 0, 0, 0), (43, .goto (-13), 3, 0, 0, 0), (46, .iconst 0, 1, 0, 0, 0), (47, .istore 4, 2, 0, 0, 0), (49, .iconst 0, 1, 0, 0, 0), (50, .istore 5, 2, 0, 0, 0), (52, .iconst 0, 1, 0, 0, 0), (53, .istore 6, 2, 0, 0, 0), (55, .iload 6, 2, 0, 0, 0), (57, .iload_n 3, 1, 0, 0, 0), (58, .if_icmp .ge 100, 3, 0, 0, 0), (61, .aload_n 0, 1, 0, 0, 0), (62, .iload 6, 2, 0, 0, 0), (64, .invokevirtual 290, 3, 223, 2, 9), (67, .ifCond .eq 85, 3, 0, 0, 0), (70, .aload_n 0, 1, 0, 0, 0), (71, .invokevirtual 232, 3, 168, 1, 9), (74, .iconst 0, 1, 0, 0, 0), (75, .istore 7, 2, 0, 0, 0), (77, .iload 7, 2, 0, 0, 0), (79, .iload_n 2, 1, 0, 0, 0), (80, .if_icmp .ge 28, 3, 0, 0, 0), (83, .aload_n 0, 1, 0, 0, 0), (84, .aload_n 0, 1, 0, 0, 0)]
def cL222_1 : List MI := [(85, .getfield 7, 3, 9, 0, 0), (88, .bipush 53, 2, 0, 0, 0), (90, .aload_n 0, 1, 0, 0, 0), (91, .getfield 29, 3, 9, 24, 0), (94, .iload 7, 2, 0, 0, 0), (96, .iaload, 1, 0, 0, 0), (97, .iadd, 1, 0, 0, 0), (98, .iaload, 1, 0, 0, 0), (99, .invokevirtual 222, 3, 203, 2, 9), (102, .iinc 7 1, 3, 0, 0, 0), (105, .goto (-28), 3, 0, 0, 0), (108, .aload_n 0, 1, 0, 0, 0), (109, .invokevirtual 286, 3, 220, 1, 9), (112, .istore 7, 2, 0, 0, 0), (114, .iload 4, 2, 0, 0, 0), (116, .iload 7, 2, 0, 0, 0), (118, .invokestatic 228, 3, 175, 1, 0), (121, .iadd, 1, 0, 0, 0), (122, .istore 4, 2, 0, 0, 0), (124, .iload 5, 2, 0, 0, 0), (126, .iload 7, 2, 0, 0, 0), (128, .ifCond .eq 20, 3, 0, 0, 0), (131, .iload_n 2, 1, 0, 0, 0), (132, .ifCond .le 16, 3, 0, 0, 0), (135, .iconst 1, 1, 0, 0, 0), (136, .aload_n 0, 1, 0, 0, 0), (137, .getfield 29, 3, 9, 24, 0), (140, .iload_n 2, 1, 0, 0, 0), (141, .iconst 1, 1, 0, 0, 0), (142, .isub, 1, 0, 0, 0), (143, .iaload, 1, 0, 0, 0), (144, .ishl, 1, 0, 0, 0), (145, .goto 4, 3, 0, 0, 0), (148, .iconst 0, 1, 0, 0, 0), (149, .ior, 1, 0, 0, 0), (150, .istore 5, 2, 0, 0, 0), (152, .iinc 6 1, 3, 0, 0, 0), (155, .goto (-100), 3, 0, 0, 0), (158, .iload_n 1, 1, 0, 0, 0), (159, .ifCond .ne 8, 3, 0, 0, 0), (162, .iload 4, 2, 0, 0, 0), (164, .goto 5, 3, 0, 0, 0), (167, .iload 5, 2, 0, 0, 0), (169, .ireturn, 1, 0, 0, 0)]
def cL222 : List MI := cL222_0 ++ (cL222_1)
/-- DoorPaintsModel.isOrder(I)Z -/
def cL223 : List MI := [(0, .aload_n 0, 1, 0, 0, 0), (1, .getfield 7, 3, 9, 0, 0), (4, .bipush 52, 2, 0, 0, 0), (6, .iaload, 1, 0, 0, 0), (7, .istore_n 2, 1, 0, 0, 0), (8, .iload_n 1, 1, 0, 0, 0), (9, .istore_n 3, 1, 0, 0, 0), (10, .iconst 0, 1, 0, 0, 0), (11, .istore 4, 2, 0, 0, 0), (13, .iload_n 2, 1, 0, 0, 0), (14, .iconst 1, 1, 0, 0, 0), (15, .isub, 1, 0, 0, 0), (16, .istore 5, 2, 0, 0, 0), (18, .iload 5, 2, 0, 0, 0), (20, .ifCond .lt 37, 3, 0, 0, 0), (23, .aload_n 0, 1, 0, 0, 0), (24, .getfield 29, 3, 9, 24, 0), (27, .iload 5, 2, 0, 0, 0), (29, .iload_n 3, 1, 0, 0, 0), (30, .iload_n 2, 1, 0, 0, 0), (31, .irem, 1, 0, 0, 0), (32, .iastore, 1, 0, 0, 0), (33, .iload_n 3, 1, 0, 0, 0), (34, .iload_n 2, 1, 0, 0, 0), (35, .idiv, 1, 0, 0, 0), (36, .istore_n 3, 1, 0, 0, 0), (37, .iload 4, 2, 0, 0, 0), (39, .iconst 1, 1, 0, 0, 0), (40, .aload_n 0, 1, 0, 0, 0), (41, .getfield 29, 3, 9, 24, 0), (44, .iload 5, 2, 0, 0, 0), (46, .iaload, 1, 0, 0, 0), (47, .ishl, 1, 0, 0, 0), (48, .ior, 1, 0, 0, 0), (49, .istore 4, 2, 0, 0, 0), (51, .iinc 5 (-1), 3, 0, 0, 0), (54, .goto (-36), 3, 0, 0, 0), (57, .iload 4, 2, 0, 0, 0), (59, .iconst 1, 1, 0, 0, 0), (60, .iload_n 2, 1, 0, 0, 0), (61, .ishl, 1, 0, 0, 0), (62, .iconst 1, 1, 0, 0, 0), (63, .isub, 1, 0, 0, 0), (64, .if_icmp .ne 7, 3, 0, 0, 0), (67, .iconst 1, 1, 0, 0, 0), (68, .goto 4, 3, 0, 0, 0), (71, .iconst 0, 1, 0, 0, 0), (72, .ireturn, 1, 0, 0, 0)]
/-- DoorPaintsModel.luck(III)J -/
def cL224 : List MI := [(0, .iload_n 1, 1, 0, 0, 0), (1, .i2l, 1, 0, 0, 0), (2, .lconst 0, 1, 0, 0, 0), (3, .ldc2_w 307, 3, 0, 0, 10), (6, .invokestatic 75, 3, 148, 3, 0), (9, .ifCond .eq 18, 3, 0, 0, 0), (12, .aload_n 0, 1, 0, 0, 0), (13, .iload_n 2, 1, 0, 0, 0), (14, .invokevirtual 170, 3, 181, 2, 9), (17, .ifCond .eq 10, 3, 0, 0, 0), (20, .iload_n 3, 1, 0, 0, 0), (21, .invokestatic 271, 3, 208, 1, 0), (24, .ifCond .ne 7, 3, 0, 0, 0), (27, .ldc2_w 309, 3, 0, 0, (-1)), (30, .lreturn, 1, 0, 0, 0), (31, .aload_n 0, 1, 0, 0, 0), (32, .iload_n 1, 1, 0, 0, 0), (33, .iload_n 2, 1, 0, 0, 0), (34, .invokevirtual 311, 3, 225, 3, 9), (37, .aload_n 0, 1, 0, 0, 0), (38, .getfield 297, 3, 9, 25, 0), (41, .aload_n 0, 1, 0, 0, 0), (42, .getfield 304, 3, 9, 27, 0), (45, .iload_n 3, 1, 0, 0, 0), (46, .invokestatic 314, 3, 226, 3, 0), (49, .lreturn, 1, 0, 0, 0)]
/-- DoorPaintsModel.findOdds(II)V -/
def cL225_0 : List MI := [(0, .aload_n 0, 1, 0, 0, 0), (1, .getfield 7, 3, 9, 0, 0), (4, .bipush 52, 2, 0, 0, 0), (6, .iaload, 1, 0, 0, 0), (7, .istore_n 3, 1, 0, 0, 0), (8, .aload_n 0, 1, 0, 0, 0), (9, .lconst 0, 1, 0, 0, 0), (10, .putfield 297, 3, 9, 25, 0), (13, .aload_n 0, 1, 0, 0, 0), (14, .lconst 0, 1, 0, 0, 0), (15, .putfield 301, 3, 9, 26, 0), (18, .aload_n 0, 1, 0, 0, 0), (19, .lconst 1, 1, 0, 0, 0), (20, .putfield 304, 3, 9, 27, 0), (23, .iconst 0, 1, 0, 0, 0), (24, .istore 4, 2, 0, 0, 0), (26, .iconst 0, 1, 0, 0, 0), (27, .istore 5, 2, 0, 0, 0), (29, .iload 5, 2, 0, 0, 0), (31, .iload_n 3, 1, 0, 0, 0), (32, .if_icmp .ge 65, 3, 0, 0, 0), (35, .aload_n 0, 1, 0, 0, 0), (36, .getfield 7, 3, 9, 0, 0), (39, .bipush 53, 2, 0, 0, 0), (41, .iload 5, 2, 0, 0, 0), (43, .iadd, 1, 0, 0, 0), (44, .iaload, 1, 0, 0, 0), (45, .bipush 90, 2, 0, 0, 0), (47, .if_icmp .lt 7, 3, 0, 0, 0), (50, .iconst 1, 1, 0, 0, 0), (51, .goto 4, 3, 0, 0, 0), (54, .iconst 0, 1, 0, 0, 0), (55, .istore 6, 2, 0, 0, 0), (57, .iload 4, 2, 0, 0, 0), (59, .iload 6, 2, 0, 0, 0), (61, .invokestatic 228, 3, 175, 1, 0), (64, .iload 5, 2, 0, 0, 0), (66, .ishl, 1, 0, 0, 0), (67, .ior, 1, 0, 0, 0), (68, .istore 4, 2, 0, 0, 0), (70, .aload_n 0, 1, 0, 0, 0), (71, .dup, 1, 0, 0, 0), (72, .getfield 304, 3, 9, 27, 0), (75, .iload 6, 2, 0, 0, 0), (77, .ifCond .eq 7, 3, 0, 0, 0), (80, .lconst 1, 1, 0, 0, 0), (81, .goto 6, 3, 0, 0, 0), (84, .ldc2_w 307, 3, 0, 0, 10), (87, .lmul, 1, 0, 0, 0), (88, .putfield 304, 3, 9, 27, 0)]
def cL225_1 : List MI := [(91, .iinc 5 1, 3, 0, 0, 0), (94, .goto (-65), 3, 0, 0, 0), (97, .iconst 0, 1, 0, 0, 0), (98, .istore 5, 2, 0, 0, 0), (100, .iload 5, 2, 0, 0, 0), (102, .iconst 1, 1, 0, 0, 0), (103, .iload_n 3, 1, 0, 0, 0), (104, .ishl, 1, 0, 0, 0), (105, .if_icmp .ge 158, 3, 0, 0, 0), (108, .iload 5, 2, 0, 0, 0), (110, .iload 4, 2, 0, 0, 0), (112, .iand, 1, 0, 0, 0), (113, .iload 4, 2, 0, 0, 0), (115, .if_icmp .ne 142, 3, 0, 0, 0), (118, .lconst 1, 1, 0, 0, 0), (119, .lstore 6, 2, 0, 0, 0), (121, .aload_n 0, 1, 0, 0, 0), (122, .invokevirtual 232, 3, 168, 1, 9), (125, .aload_n 0, 1, 0, 0, 0), (126, .iconst 0, 1, 0, 0, 0), (127, .putfield 216, 3, 9, 22, 0), (130, .iconst 0, 1, 0, 0, 0), (131, .istore 8, 2, 0, 0, 0), (133, .iload 8, 2, 0, 0, 0), (135, .iload_n 3, 1, 0, 0, 0), (136, .if_icmp .ge 81, 3, 0, 0, 0), (139, .iload 5, 2, 0, 0, 0), (141, .iload 8, 2, 0, 0, 0), (143, .ishr, 1, 0, 0, 0), (144, .iconst 1, 1, 0, 0, 0), (145, .iand, 1, 0, 0, 0), (146, .iconst 1, 1, 0, 0, 0), (147, .if_icmp .ne 7, 3, 0, 0, 0), (150, .iconst 1, 1, 0, 0, 0), (151, .goto 4, 3, 0, 0, 0), (154, .iconst 0, 1, 0, 0, 0), (155, .istore 9, 2, 0, 0, 0), (157, .lload 6, 2, 0, 0, 0), (159, .iload 4, 2, 0, 0, 0), (161, .iload 8, 2, 0, 0, 0), (163, .ishr, 1, 0, 0, 0), (164, .iconst 1, 1, 0, 0, 0), (165, .iand, 1, 0, 0, 0), (166, .iconst 1, 1, 0, 0, 0), (167, .if_icmp .ne 7, 3, 0, 0, 0), (170, .lconst 1, 1, 0, 0, 0), (171, .goto 18, 3, 0, 0, 0), (174, .iload 9, 2, 0, 0, 0), (176, .ifCond .eq 8, 3, 0, 0, 0), (179, .iload_n 1, 1, 0, 0, 0)]
def cL225_2 : List MI := [(180, .i2l, 1, 0, 0, 0), (181, .goto 8, 3, 0, 0, 0), (184, .bipush 10, 2, 0, 0, 0), (186, .iload_n 1, 1, 0, 0, 0), (187, .isub, 1, 0, 0, 0), (188, .i2l, 1, 0, 0, 0), (189, .lmul, 1, 0, 0, 0), (190, .lstore 6, 2, 0, 0, 0), (192, .iload 9, 2, 0, 0, 0), (194, .ifCond .eq 17, 3, 0, 0, 0), (197, .aload_n 0, 1, 0, 0, 0), (198, .aload_n 0, 1, 0, 0, 0), (199, .getfield 7, 3, 9, 0, 0), (202, .bipush 53, 2, 0, 0, 0), (204, .iload 8, 2, 0, 0, 0), (206, .iadd, 1, 0, 0, 0), (207, .iaload, 1, 0, 0, 0), (208, .invokevirtual 222, 3, 203, 2, 9), (211, .iinc 8 1, 3, 0, 0, 0), (214, .goto (-81), 3, 0, 0, 0), (217, .aload_n 0, 1, 0, 0, 0), (218, .dup, 1, 0, 0, 0), (219, .getfield 297, 3, 9, 25, 0), (222, .aload_n 0, 1, 0, 0, 0), (223, .iload_n 2, 1, 0, 0, 0), (224, .invokevirtual 225, 3, 172, 2, 9), (227, .ifCond .eq 8, 3, 0, 0, 0), (230, .lload 6, 2, 0, 0, 0), (232, .goto 4, 3, 0, 0, 0), (235, .lconst 0, 1, 0, 0, 0), (236, .ladd, 1, 0, 0, 0), (237, .putfield 297, 3, 9, 25, 0), (240, .aload_n 0, 1, 0, 0, 0), (241, .dup, 1, 0, 0, 0), (242, .getfield 301, 3, 9, 26, 0), (245, .lload 6, 2, 0, 0, 0), (247, .aload_n 0, 1, 0, 0, 0), (248, .getfield 216, 3, 9, 22, 0), (251, .i2l, 1, 0, 0, 0), (252, .lmul, 1, 0, 0, 0), (253, .ladd, 1, 0, 0, 0), (254, .putfield 301, 3, 9, 26, 0), (257, .iinc 5 1, 3, 0, 0, 0), (260, .goto (-160), 3, 0, 0, 0), (263, .return_, 1, 0, 0, 0)]
def cL225 : List MI := cL225_0 ++ (cL225_1 ++ (cL225_2))
end
section
/-! TABLES: the methods' listings (written by a program) -/
/-- DoorPaintsModel.told(JJI)J -/
def cL226 : List MI := [(0, .lload_n 2, 1, 0, 0, 0), (1, .lload_n 0, 1, 0, 0, 0), (2, .invokestatic 293, 3, 227, 2, 0), (5, .lstore 5, 2, 0, 0, 0), (7, .iload 4, 2, 0, 0, 0), (9, .ifCond .ne 10, 3, 0, 0, 0), (12, .lload_n 0, 1, 0, 0, 0), (13, .lload 5, 2, 0, 0, 0), (15, .ldiv, 1, 0, 0, 0), (16, .goto 7, 3, 0, 0, 0), (19, .lload_n 2, 1, 0, 0, 0), (20, .lload 5, 2, 0, 0, 0), (22, .ldiv, 1, 0, 0, 0), (23, .lreturn, 1, 0, 0, 0)]
/-- DoorPaintsModel.common(JJ)J -/
def cL227 : List MI := [(0, .lload_n 0, 1, 0, 0, 0), (1, .lstore 4, 2, 0, 0, 0), (3, .lload_n 2, 1, 0, 0, 0), (4, .lstore 6, 2, 0, 0, 0), (6, .lload 6, 2, 0, 0, 0), (8, .lconst 0, 1, 0, 0, 0), (9, .lcmp, 1, 0, 0, 0), (10, .ifCond .eq 21, 3, 0, 0, 0), (13, .lload 4, 2, 0, 0, 0), (15, .lload 6, 2, 0, 0, 0), (17, .lrem, 1, 0, 0, 0), (18, .lstore 8, 2, 0, 0, 0), (20, .lload 6, 2, 0, 0, 0), (22, .lstore 4, 2, 0, 0, 0), (24, .lload 8, 2, 0, 0, 0), (26, .lstore 6, 2, 0, 0, 0), (28, .goto (-22), 3, 0, 0, 0), (31, .lload 4, 2, 0, 0, 0), (33, .lreturn, 1, 0, 0, 0)]
/-- DoorPaintsModel.mean(II)J -/
def cL228 : List MI := [(0, .iload_n 1, 1, 0, 0, 0), (1, .i2l, 1, 0, 0, 0), (2, .lconst 0, 1, 0, 0, 0), (3, .ldc2_w 307, 3, 0, 0, 10), (6, .invokestatic 75, 3, 148, 3, 0), (9, .ifCond .eq 10, 3, 0, 0, 0), (12, .iload_n 2, 1, 0, 0, 0), (13, .invokestatic 271, 3, 208, 1, 0), (16, .ifCond .ne 7, 3, 0, 0, 0), (19, .ldc2_w 309, 3, 0, 0, (-1)), (22, .lreturn, 1, 0, 0, 0), (23, .aload_n 0, 1, 0, 0, 0), (24, .iload_n 1, 1, 0, 0, 0), (25, .iconst 0, 1, 0, 0, 0), (26, .invokevirtual 311, 3, 225, 3, 9), (29, .aload_n 0, 1, 0, 0, 0), (30, .getfield 301, 3, 9, 26, 0), (33, .aload_n 0, 1, 0, 0, 0), (34, .getfield 304, 3, 9, 27, 0), (37, .iload_n 2, 1, 0, 0, 0), (38, .invokestatic 314, 3, 226, 3, 0), (41, .lreturn, 1, 0, 0, 0)]
/-- DoorPaintsModel.drift(III)I -/
def cL229_0 : List MI := [(0, .iload_n 2, 1, 0, 0, 0), (1, .i2l, 1, 0, 0, 0), (2, .lconst 1, 1, 0, 0, 0), (3, .ldc2_w 318, 3, 0, 0, 60), (6, .invokestatic 75, 3, 148, 3, 0), (9, .ifCond .eq 10, 3, 0, 0, 0), (12, .iload_n 3, 1, 0, 0, 0), (13, .invokestatic 271, 3, 208, 1, 0), (16, .ifCond .ne 5, 3, 0, 0, 0), (19, .iconst (-1), 1, 0, 0, 0), (20, .ireturn, 1, 0, 0, 0), (21, .aload_n 0, 1, 0, 0, 0), (22, .getfield 67, 3, 9, 3, 0), (25, .ifCond .eq 10, 3, 0, 0, 0), (28, .aload_n 0, 1, 0, 0, 0), (29, .getfield 70, 3, 9, 4, 0), (32, .ifCond .ne 6, 3, 0, 0, 0), (35, .bipush (-2), 2, 0, 0, 0), (37, .ireturn, 1, 0, 0, 0), (38, .iload_n 1, 1, 0, 0, 0), (39, .istore 4, 2, 0, 0, 0), (41, .aload_n 0, 1, 0, 0, 0), (42, .invokevirtual 232, 3, 168, 1, 9), (45, .iconst 0, 1, 0, 0, 0), (46, .istore 5, 2, 0, 0, 0), (48, .iload 5, 2, 0, 0, 0), (50, .iload_n 2, 1, 0, 0, 0), (51, .if_icmp .ge 83, 3, 0, 0, 0), (54, .iload 4, 2, 0, 0, 0), (56, .ldc_w 320, 3, 0, 0, 1103515245), (59, .imul, 1, 0, 0, 0), (60, .sipush 12345, 3, 0, 0, 0), (63, .iadd, 1, 0, 0, 0), (64, .istore 4, 2, 0, 0, 0), (66, .iload 4, 2, 0, 0, 0), (68, .bipush 16, 2, 0, 0, 0), (70, .ishr, 1, 0, 0, 0), (71, .sipush 32767, 3, 0, 0, 0), (74, .iand, 1, 0, 0, 0), (75, .istore 6, 2, 0, 0, 0), (77, .iload 6, 2, 0, 0, 0), (79, .bipush 8, 2, 0, 0, 0), (81, .irem, 1, 0, 0, 0), (82, .istore 7, 2, 0, 0, 0), (84, .aload_n 0, 1, 0, 0, 0), (85, .iload 7, 2, 0, 0, 0), (87, .iconst 5, 1, 0, 0, 0), (88, .if_icmp .ge 30, 3, 0, 0, 0), (91, .bipush 10, 2, 0, 0, 0), (93, .iload 6, 2, 0, 0, 0)]
def cL229_1 : List MI := [(95, .bipush 8, 2, 0, 0, 0), (97, .idiv, 1, 0, 0, 0), (98, .aload_n 0, 1, 0, 0, 0), (99, .getfield 67, 3, 9, 3, 0), (102, .irem, 1, 0, 0, 0), (103, .imul, 1, 0, 0, 0), (104, .iload 6, 2, 0, 0, 0), (106, .bipush 32, 2, 0, 0, 0), (108, .idiv, 1, 0, 0, 0), (109, .aload_n 0, 1, 0, 0, 0), (110, .getfield 70, 3, 9, 4, 0), (113, .irem, 1, 0, 0, 0), (114, .iadd, 1, 0, 0, 0), (115, .goto 10, 3, 0, 0, 0), (118, .bipush 90, 2, 0, 0, 0), (120, .iload 7, 2, 0, 0, 0), (122, .iadd, 1, 0, 0, 0), (123, .iconst 5, 1, 0, 0, 0), (124, .isub, 1, 0, 0, 0), (125, .invokevirtual 222, 3, 203, 2, 9), (128, .iinc 5 1, 3, 0, 0, 0), (131, .goto (-83), 3, 0, 0, 0), (134, .iload_n 3, 1, 0, 0, 0), (135, .ifCond .ne 10, 3, 0, 0, 0), (138, .aload_n 0, 1, 0, 0, 0), (139, .invokevirtual 247, 3, 193, 1, 9), (142, .goto 7, 3, 0, 0, 0), (145, .aload_n 0, 1, 0, 0, 0), (146, .invokevirtual 235, 3, 171, 1, 9), (149, .ireturn, 1, 0, 0, 0)]
def cL229 : List MI := cL229_0 ++ (cL229_1)
/-- DoorPaintsModel.keep(I)I -/
def cL230 : List MI := [(0, .iload_n 1, 1, 0, 0, 0), (1, .i2l, 1, 0, 0, 0), (2, .lconst 0, 1, 0, 0, 0), (3, .lconst 1, 1, 0, 0, 0), (4, .invokestatic 75, 3, 148, 3, 0), (7, .ifCond .ne 5, 3, 0, 0, 0), (10, .iconst (-1), 1, 0, 0, 0), (11, .ireturn, 1, 0, 0, 0), (12, .aload_n 0, 1, 0, 0, 0), (13, .getfield 16, 3, 9, 2, 0), (16, .iload_n 1, 1, 0, 0, 0), (17, .baload, 1, 0, 0, 0), (18, .invokestatic 228, 3, 175, 1, 0), (21, .istore_n 2, 1, 0, 0, 0), (22, .aload_n 0, 1, 0, 0, 0), (23, .getfield 16, 3, 9, 2, 0), (26, .iload_n 1, 1, 0, 0, 0), (27, .iconst 1, 1, 0, 0, 0), (28, .bastore, 1, 0, 0, 0), (29, .aload_n 0, 1, 0, 0, 0), (30, .bipush 80, 2, 0, 0, 0), (32, .iload_n 1, 1, 0, 0, 0), (33, .iconst 1, 1, 0, 0, 0), (34, .iadd, 1, 0, 0, 0), (35, .imul, 1, 0, 0, 0), (36, .iconst 0, 1, 0, 0, 0), (37, .invokevirtual 321, 3, 231, 3, 9), (40, .iload_n 2, 1, 0, 0, 0), (41, .ireturn, 1, 0, 0, 0)]
/-- DoorPaintsModel.copies(II)V -/
def cL231 : List MI := [(0, .iconst 0, 1, 0, 0, 0), (1, .istore_n 3, 1, 0, 0, 0), (2, .iload_n 3, 1, 0, 0, 0), (3, .bipush 80, 2, 0, 0, 0), (5, .if_icmp .ge 25, 3, 0, 0, 0), (8, .aload_n 0, 1, 0, 0, 0), (9, .getfield 7, 3, 9, 0, 0), (12, .iload_n 1, 1, 0, 0, 0), (13, .iload_n 3, 1, 0, 0, 0), (14, .iadd, 1, 0, 0, 0), (15, .aload_n 0, 1, 0, 0, 0), (16, .getfield 7, 3, 9, 0, 0), (19, .iload_n 2, 1, 0, 0, 0), (20, .iload_n 3, 1, 0, 0, 0), (21, .iadd, 1, 0, 0, 0), (22, .iaload, 1, 0, 0, 0), (23, .iastore, 1, 0, 0, 0), (24, .iinc 3 1, 3, 0, 0, 0), (27, .goto (-25), 3, 0, 0, 0), (30, .return_, 1, 0, 0, 0)]
/-- DoorPaintsModel.back(I)I -/
def cL232 : List MI := [(0, .iload_n 1, 1, 0, 0, 0), (1, .i2l, 1, 0, 0, 0), (2, .lconst 0, 1, 0, 0, 0), (3, .lconst 1, 1, 0, 0, 0), (4, .invokestatic 75, 3, 148, 3, 0), (7, .ifCond .ne 5, 3, 0, 0, 0), (10, .iconst (-1), 1, 0, 0, 0), (11, .ireturn, 1, 0, 0, 0), (12, .aload_n 0, 1, 0, 0, 0), (13, .getfield 16, 3, 9, 2, 0), (16, .iload_n 1, 1, 0, 0, 0), (17, .baload, 1, 0, 0, 0), (18, .ifCond .ne 6, 3, 0, 0, 0), (21, .bipush (-2), 2, 0, 0, 0), (23, .ireturn, 1, 0, 0, 0), (24, .aload_n 0, 1, 0, 0, 0), (25, .iconst 0, 1, 0, 0, 0), (26, .bipush 80, 2, 0, 0, 0), (28, .iload_n 1, 1, 0, 0, 0), (29, .iconst 1, 1, 0, 0, 0), (30, .iadd, 1, 0, 0, 0), (31, .imul, 1, 0, 0, 0), (32, .invokevirtual 321, 3, 231, 3, 9), (35, .aload_n 0, 1, 0, 0, 0), (36, .invokevirtual 232, 3, 168, 1, 9), (39, .aload_n 0, 1, 0, 0, 0), (40, .invokevirtual 247, 3, 193, 1, 9), (43, .ireturn, 1, 0, 0, 0)]
/-- DoorPaintsModel.sheet(III)I -/
def cL233 : List MI := [(0, .iload_n 1, 1, 0, 0, 0), (1, .iload_n 2, 1, 0, 0, 0), (2, .invokestatic 324, 3, 234, 2, 0), (5, .ifCond .eq 9, 3, 0, 0, 0), (8, .iload_n 3, 1, 0, 0, 0), (9, .bipush 40, 2, 0, 0, 0), (11, .if_icmp .le 5, 3, 0, 0, 0), (14, .iconst (-1), 1, 0, 0, 0), (15, .ireturn, 1, 0, 0, 0), (16, .iload_n 3, 1, 0, 0, 0), (17, .ifCond .ge 6, 3, 0, 0, 0), (20, .bipush (-14), 2, 0, 0, 0), (22, .ireturn, 1, 0, 0, 0), (23, .aload_n 0, 1, 0, 0, 0), (24, .getfield 32, 3, 9, 28, 0), (27, .iload_n 1, 1, 0, 0, 0), (28, .iload_n 2, 1, 0, 0, 0), (29, .iastore, 1, 0, 0, 0), (30, .aload_n 0, 1, 0, 0, 0), (31, .getfield 35, 3, 9, 29, 0), (34, .iload_n 1, 1, 0, 0, 0), (35, .iload_n 3, 1, 0, 0, 0), (36, .iastore, 1, 0, 0, 0), (37, .iconst 0, 1, 0, 0, 0), (38, .istore 4, 2, 0, 0, 0), (40, .iload 4, 2, 0, 0, 0), (42, .bipush 40, 2, 0, 0, 0), (44, .if_icmp .ge 22, 3, 0, 0, 0), (47, .aload_n 0, 1, 0, 0, 0), (48, .getfield 38, 3, 9, 30, 0), (51, .bipush 40, 2, 0, 0, 0), (53, .iload_n 1, 1, 0, 0, 0), (54, .imul, 1, 0, 0, 0), (55, .iload 4, 2, 0, 0, 0), (57, .iadd, 1, 0, 0, 0), (58, .iconst 0, 1, 0, 0, 0), (59, .iastore, 1, 0, 0, 0), (60, .iinc 4 1, 3, 0, 0, 0), (63, .goto (-23), 3, 0, 0, 0), (66, .iconst 1, 1, 0, 0, 0), (67, .ireturn, 1, 0, 0, 0)]
/-- DoorPaintsModel.isSheet(II)Z -/
def cL234 : List MI := [(0, .iload_n 0, 1, 0, 0, 0), (1, .i2l, 1, 0, 0, 0), (2, .lconst 0, 1, 0, 0, 0), (3, .ldc2_w 138, 3, 0, 0, 3), (6, .invokestatic 75, 3, 148, 3, 0), (9, .ifCond .eq 19, 3, 0, 0, 0), (12, .iload_n 1, 1, 0, 0, 0), (13, .i2l, 1, 0, 0, 0), (14, .lconst 0, 1, 0, 0, 0), (15, .ldc2_w 245, 3, 0, 0, 2), (18, .invokestatic 75, 3, 148, 3, 0), (21, .ifCond .eq 7, 3, 0, 0, 0), (24, .iconst 1, 1, 0, 0, 0), (25, .goto 4, 3, 0, 0, 0), (28, .iconst 0, 1, 0, 0, 0), (29, .ireturn, 1, 0, 0, 0)]
/-- DoorPaintsModel.lay(III)I -/
def cL235_0 : List MI := [(0, .iload_n 1, 1, 0, 0, 0), (1, .iconst 0, 1, 0, 0, 0), (2, .invokestatic 324, 3, 234, 2, 0), (5, .ifCond .ne 5, 3, 0, 0, 0), (8, .iconst (-1), 1, 0, 0, 0), (9, .ireturn, 1, 0, 0, 0), (10, .aload_n 0, 1, 0, 0, 0), (11, .getfield 32, 3, 9, 28, 0), (14, .iload_n 1, 1, 0, 0, 0), (15, .iaload, 1, 0, 0, 0), (16, .bipush (-4), 2, 0, 0, 0), (18, .if_icmp .ne 6, 3, 0, 0, 0), (21, .bipush (-11), 2, 0, 0, 0), (23, .ireturn, 1, 0, 0, 0), (24, .iload_n 2, 1, 0, 0, 0), (25, .i2l, 1, 0, 0, 0), (26, .lconst 0, 1, 0, 0, 0), (27, .aload_n 0, 1, 0, 0, 0), (28, .getfield 35, 3, 9, 29, 0), (31, .iload_n 1, 1, 0, 0, 0), (32, .iaload, 1, 0, 0, 0), (33, .iconst 1, 1, 0, 0, 0), (34, .isub, 1, 0, 0, 0), (35, .i2l, 1, 0, 0, 0), (36, .invokestatic 75, 3, 148, 3, 0), (39, .ifCond .ne 6, 3, 0, 0, 0), (42, .bipush (-12), 2, 0, 0, 0), (44, .ireturn, 1, 0, 0, 0), (45, .aload_n 0, 1, 0, 0, 0), (46, .getfield 38, 3, 9, 30, 0), (49, .bipush 40, 2, 0, 0, 0), (51, .iload_n 1, 1, 0, 0, 0), (52, .imul, 1, 0, 0, 0), (53, .iload_n 2, 1, 0, 0, 0), (54, .iadd, 1, 0, 0, 0), (55, .aload_n 0, 1, 0, 0, 0), (56, .getfield 32, 3, 9, 28, 0), (59, .iload_n 1, 1, 0, 0, 0), (60, .iaload, 1, 0, 0, 0), (61, .ifCond .ne 8, 3, 0, 0, 0), (64, .iload_n 3, 1, 0, 0, 0), (65, .i2b, 1, 0, 0, 0), (66, .goto 19, 3, 0, 0, 0), (69, .aload_n 0, 1, 0, 0, 0), (70, .getfield 32, 3, 9, 28, 0), (73, .iload_n 1, 1, 0, 0, 0), (74, .iaload, 1, 0, 0, 0), (75, .iconst 1, 1, 0, 0, 0), (76, .if_icmp .ne 8, 3, 0, 0, 0), (79, .iload_n 3, 1, 0, 0, 0)]
def cL235_1 : List MI := [(80, .i2s, 1, 0, 0, 0), (81, .goto 4, 3, 0, 0, 0), (84, .iload_n 3, 1, 0, 0, 0), (85, .iastore, 1, 0, 0, 0), (86, .iconst 1, 1, 0, 0, 0), (87, .ireturn, 1, 0, 0, 0)]
def cL235 : List MI := cL235_0 ++ (cL235_1)
/-- DoorPaintsModel.read(IIII)I -/
def cL236_0 : List MI := [(0, .iload_n 1, 1, 0, 0, 0), (1, .iload_n 2, 1, 0, 0, 0), (2, .invokestatic 324, 3, 234, 2, 0), (5, .ifCond .eq 16, 3, 0, 0, 0), (8, .iload 4, 2, 0, 0, 0), (10, .i2l, 1, 0, 0, 0), (11, .lconst 0, 1, 0, 0, 0), (12, .ldc2_w 328, 3, 0, 0, 20), (15, .invokestatic 75, 3, 148, 3, 0), (18, .ifCond .ne 5, 3, 0, 0, 0), (21, .iconst (-1), 1, 0, 0, 0), (22, .ireturn, 1, 0, 0, 0), (23, .iconst 0, 1, 0, 0, 0), (24, .istore 5, 2, 0, 0, 0), (26, .iload 5, 2, 0, 0, 0), (28, .bipush 80, 2, 0, 0, 0), (30, .if_icmp .ge 23, 3, 0, 0, 0), (33, .aload_n 0, 1, 0, 0, 0), (34, .getfield 41, 3, 9, 32, 0), (37, .iload 5, 2, 0, 0, 0), (39, .aload_n 0, 1, 0, 0, 0), (40, .getfield 7, 3, 9, 0, 0), (43, .iload 5, 2, 0, 0, 0), (45, .iaload, 1, 0, 0, 0), (46, .iastore, 1, 0, 0, 0), (47, .iinc 5 1, 3, 0, 0, 0), (50, .goto (-24), 3, 0, 0, 0), (53, .iconst 0, 1, 0, 0, 0), (54, .istore 5, 2, 0, 0, 0), (56, .iconst 0, 1, 0, 0, 0), (57, .istore 6, 2, 0, 0, 0), (59, .iconst 0, 1, 0, 0, 0), (60, .istore 7, 2, 0, 0, 0), (62, .iload 7, 2, 0, 0, 0), (64, .iload 4, 2, 0, 0, 0), (66, .if_icmp .ge 195, 3, 0, 0, 0), (69, .iload 5, 2, 0, 0, 0), (71, .ifCond .ne 190, 3, 0, 0, 0), (74, .iconst 0, 1, 0, 0, 0), (75, .istore 8, 2, 0, 0, 0), (77, .iload 8, 2, 0, 0, 0), (79, .iconst 2, 1, 0, 0, 0), (80, .if_icmp .ge 84, 3, 0, 0, 0), (83, .iload 5, 2, 0, 0, 0), (85, .ifCond .ne 79, 3, 0, 0, 0), (88, .iload_n 3, 1, 0, 0, 0), (89, .i2l, 1, 0, 0, 0), (90, .iconst 2, 1, 0, 0, 0), (91, .iload 7, 2, 0, 0, 0), (93, .imul, 1, 0, 0, 0)]
def cL236_1 : List MI := [(94, .i2l, 1, 0, 0, 0), (95, .ladd, 1, 0, 0, 0), (96, .iload 8, 2, 0, 0, 0), (98, .i2l, 1, 0, 0, 0), (99, .ladd, 1, 0, 0, 0), (100, .lstore 9, 2, 0, 0, 0), (102, .aload_n 0, 1, 0, 0, 0), (103, .getfield 32, 3, 9, 28, 0), (106, .iload_n 1, 1, 0, 0, 0), (107, .iaload, 1, 0, 0, 0), (108, .bipush (-4), 2, 0, 0, 0), (110, .if_icmp .ne 7, 3, 0, 0, 0), (113, .iconst 1, 1, 0, 0, 0), (114, .goto 42, 3, 0, 0, 0), (117, .aload_n 0, 1, 0, 0, 0), (118, .getfield 32, 3, 9, 28, 0), (121, .iload_n 1, 1, 0, 0, 0), (122, .iaload, 1, 0, 0, 0), (123, .iload_n 2, 1, 0, 0, 0), (124, .if_icmp .eq 7, 3, 0, 0, 0), (127, .iconst 3, 1, 0, 0, 0), (128, .goto 28, 3, 0, 0, 0), (131, .lload 9, 2, 0, 0, 0), (133, .lconst 0, 1, 0, 0, 0), (134, .lcmp, 1, 0, 0, 0), (135, .ifCond .lt 16, 3, 0, 0, 0), (138, .lload 9, 2, 0, 0, 0), (140, .aload_n 0, 1, 0, 0, 0), (141, .getfield 35, 3, 9, 29, 0), (144, .iload_n 1, 1, 0, 0, 0), (145, .iaload, 1, 0, 0, 0), (146, .i2l, 1, 0, 0, 0), (147, .lcmp, 1, 0, 0, 0), (148, .ifCond .lt 7, 3, 0, 0, 0), (151, .iconst 2, 1, 0, 0, 0), (152, .goto 4, 3, 0, 0, 0), (155, .iconst 0, 1, 0, 0, 0), (156, .istore 5, 2, 0, 0, 0), (158, .iinc 8 1, 3, 0, 0, 0), (161, .goto (-84), 3, 0, 0, 0), (164, .iload 5, 2, 0, 0, 0), (166, .ifCond .ne 89, 3, 0, 0, 0), (169, .bipush 40, 2, 0, 0, 0), (171, .iload_n 1, 1, 0, 0, 0), (172, .imul, 1, 0, 0, 0), (173, .iload_n 3, 1, 0, 0, 0), (174, .iadd, 1, 0, 0, 0), (175, .iconst 2, 1, 0, 0, 0), (176, .iload 7, 2, 0, 0, 0), (178, .imul, 1, 0, 0, 0)]
def cL236_2 : List MI := [(179, .iadd, 1, 0, 0, 0), (180, .istore 8, 2, 0, 0, 0), (182, .aload_n 0, 1, 0, 0, 0), (183, .aload_n 0, 1, 0, 0, 0), (184, .getfield 38, 3, 9, 30, 0), (187, .iload 8, 2, 0, 0, 0), (189, .iaload, 1, 0, 0, 0), (190, .aload_n 0, 1, 0, 0, 0), (191, .getfield 38, 3, 9, 30, 0), (194, .iload 8, 2, 0, 0, 0), (196, .iconst 1, 1, 0, 0, 0), (197, .iadd, 1, 0, 0, 0), (198, .iaload, 1, 0, 0, 0), (199, .invokevirtual 330, 3, 185, 3, 9), (202, .istore 9, 2, 0, 0, 0), (204, .iload 9, 2, 0, 0, 0), (206, .ifCond .ge 46, 3, 0, 0, 0), (209, .iload 9, 2, 0, 0, 0), (211, .bipush (-4), 2, 0, 0, 0), (213, .if_icmp .eq 39, 3, 0, 0, 0), (216, .iconst 0, 1, 0, 0, 0), (217, .istore 10, 2, 0, 0, 0), (219, .iload 10, 2, 0, 0, 0), (221, .bipush 80, 2, 0, 0, 0), (223, .if_icmp .ge 23, 3, 0, 0, 0), (226, .aload_n 0, 1, 0, 0, 0), (227, .getfield 7, 3, 9, 0, 0), (230, .iload 10, 2, 0, 0, 0), (232, .aload_n 0, 1, 0, 0, 0), (233, .getfield 41, 3, 9, 32, 0), (236, .iload 10, 2, 0, 0, 0), (238, .iaload, 1, 0, 0, 0), (239, .iastore, 1, 0, 0, 0), (240, .iinc 10 1, 3, 0, 0, 0), (243, .goto (-24), 3, 0, 0, 0), (246, .bipush (-20), 2, 0, 0, 0), (248, .iload 7, 2, 0, 0, 0), (250, .isub, 1, 0, 0, 0), (251, .ireturn, 1, 0, 0, 0), (252, .iinc 6 1, 3, 0, 0, 0), (255, .iinc 7 1, 3, 0, 0, 0), (258, .goto (-196), 3, 0, 0, 0), (261, .aload_n 0, 1, 0, 0, 0), (262, .iload 5, 2, 0, 0, 0), (264, .putfield 333, 3, 9, 31, 0), (267, .iload 6, 2, 0, 0, 0), (269, .ireturn, 1, 0, 0, 0)]
def cL236 : List MI := cL236_0 ++ (cL236_1 ++ (cL236_2))
/-- DoorPaintsModel.torn()I -/
def cL237 : List MI := [(0, .aload_n 0, 1, 0, 0, 0), (1, .getfield 333, 3, 9, 31, 0), (4, .ireturn, 1, 0, 0, 0)]
/-- DoorPaintsModel.count(I)I -/
def cL238 : List MI := [(0, .aload_n 0, 1, 0, 0, 0), (1, .invokevirtual 232, 3, 168, 1, 9), (4, .iload_n 1, 1, 0, 0, 0), (5, .tableswitch 96 0 4 #[35, 40, 48, 68, 73], 35, 0, 0, 0), (40, .aload_n 0, 1, 0, 0, 0), (41, .invokevirtual 247, 3, 193, 1, 9), (44, .ireturn, 1, 0, 0, 0), (45, .aload_n 0, 1, 0, 0, 0), (46, .getfield 7, 3, 9, 0, 0), (49, .bipush 61, 2, 0, 0, 0), (51, .iaload, 1, 0, 0, 0), (52, .ireturn, 1, 0, 0, 0), (53, .aload_n 0, 1, 0, 0, 0), (54, .getfield 16, 3, 9, 2, 0), (57, .iconst 0, 1, 0, 0, 0), (58, .baload, 1, 0, 0, 0), (59, .invokestatic 228, 3, 175, 1, 0), (62, .aload_n 0, 1, 0, 0, 0), (63, .getfield 16, 3, 9, 2, 0), (66, .iconst 1, 1, 0, 0, 0), (67, .baload, 1, 0, 0, 0), (68, .invokestatic 228, 3, 175, 1, 0), (71, .iadd, 1, 0, 0, 0), (72, .ireturn, 1, 0, 0, 0), (73, .aload_n 0, 1, 0, 0, 0), (74, .getfield 79, 3, 9, 13, 0), (77, .ireturn, 1, 0, 0, 0), (78, .aload_n 0, 1, 0, 0, 0), (79, .getfield 32, 3, 9, 28, 0), (82, .iconst 0, 1, 0, 0, 0), (83, .iaload, 1, 0, 0, 0), (84, .bipush (-4), 2, 0, 0, 0), (86, .if_icmp .ne 8, 3, 0, 0, 0), (89, .bipush (-4), 2, 0, 0, 0), (91, .goto 9, 3, 0, 0, 0), (94, .aload_n 0, 1, 0, 0, 0), (95, .getfield 35, 3, 9, 29, 0), (98, .iconst 0, 1, 0, 0, 0), (99, .iaload, 1, 0, 0, 0), (100, .ireturn, 1, 0, 0, 0), (101, .iconst (-1), 1, 0, 0, 0), (102, .ireturn, 1, 0, 0, 0)]
end
section
/-! TABLES: the methods (written by a program) -/
def cM0 : MM := (⟨"DoorPaintsLaw", "law", "([I)Z"⟩, code, 4, (some .boolean), cL0)
def cM1 : MM := (⟨"DoorPaints", "<init>", "()V"⟩, prog_1_method_1_code, 2, none, cL1)
def cM2 : MM := (⟨"DoorPaints$Reader", "<init>", "()V"⟩, prog_3_method_1_code, 1, none, cL2)
def cM3 : MM := (⟨"DoorPaints$Told", "<init>", "()V"⟩, prog_7_method_1_code, 1, none, cL3)
def cM4 : MM := (⟨"DoorPaints$Town", "<init>", "()V"⟩, prog_8_method_1_code, 2, none, cL4)
def cM5 : MM := (⟨"DoorPaints$Visitor", "<init>", "()V"⟩, prog_9_method_1_code, 1, none, cL5)
def cM6 : MM := (⟨"DoorPaints$Door", "<init>", "()V"⟩, prog_2_method_1_code, 1, none, cL6)
def cM7 : MM := (⟨"DoorPaints$Tape", "<init>", "()V"⟩, prog_6_method_1_code, 1, none, cL7)
def cM8 : MM := (⟨"DoorPaints$Search", "<init>", "()V"⟩, prog_4_method_1_code, 1, none, cL8)
def cM9 : MM := (⟨"DoorPaints$Sheet", "<init>", "()V"⟩, prog_5_method_1_code, 1, none, cL9)
def cM10 : MM := (⟨"DoorPaints", "feed", "(I)I"⟩, prog_1_method_2_code, 2, (some .int), cL10)
def cM11 : MM := (⟨"DoorPaints$Tape", "append", "(I)Z"⟩, prog_6_method_2_code, 2, (some .boolean), cL11)
def cM12 : MM := (⟨"DoorPaints", "end", "(I)I"⟩, prog_1_method_3_code, 3, (some .int), cL12)
def cM13 : MM := (⟨"DoorPaints", "text", "()I"⟩, prog_1_method_4_code, 3, (some .int), cL13)
def cM14 : MM := (⟨"DoorPaints$Reader", "readAll", "()I"⟩, prog_3_method_2_code, 2, (some .int), cL14)
def cM15 : MM := (⟨"DoorPaints$Told", "clear", "()V"⟩, prog_7_method_3_code, 1, none, cL15)
def cM16 : MM := (⟨"DoorPaints$Town", "clear", "()V"⟩, prog_8_method_3_code, 2, none, cL16)
def cM17 : MM := (⟨"DoorPaints$Door", "clear", "()V"⟩, prog_2_method_3_code, 1, none, cL17)
def cM18 : MM := (⟨"DoorPaints$Tape", "rewind", "()V"⟩, prog_6_method_3_code, 1, none, cL18)
def cM19 : MM := (⟨"DoorPaints$Tape", "advance", "()V"⟩, prog_6_method_4_code, 1, none, cL19)
def cM20 : MM := (⟨"DoorPaints$Tape", "skip", "(II)Z"⟩, prog_6_method_5_code, 3, (some .boolean), cL20)
def cM21 : MM := (⟨"DoorPaints$Tape", "takeNumber", "()V"⟩, prog_6_method_6_code, 2, none, cL21)
def cM22 : MM := (⟨"DoorPaints$Reader", "readLine", "()V"⟩, prog_3_method_3_code, 1, none, cL22)
def cM23 : MM := (⟨"DoorPaints$Reader", "stands", "(I)Z"⟩, prog_3_method_11_code, 2, (some .boolean), cL23)
def cM24 : MM := (⟨"DoorPaints$Reader", "fail", "(I)V"⟩, prog_3_method_12_code, 2, none, cL24)
def cM25 : MM := (⟨"DoorPaints$Tape", "nameIs", "(Ljava/lang/String;)Z"⟩, prog_6_method_7_code, 3, (some .boolean), cL25)
def cM26 : MM := (⟨"java/lang/String", "length", "()I"⟩, prog_14_method_54_code, 1, (some .int), cL26)
def cM27 : MM := (⟨"java/lang/String", "coder", "()B"⟩, prog_14_method_152_code, 1, (some .byte), cL27)
def cM28 : MM := (⟨"java/lang/String", "charAt", "(I)C"⟩, prog_14_method_56_code, 2, (some .char), cL28)
def cM29 : MM := (⟨"java/lang/String", "isLatin1", "()Z"⟩, prog_14_method_154_code, 1, (some .boolean), cL29)
def cM30 : MM := (⟨"java/lang/StringLatin1", "charAt", "([BI)C"⟩, prog_15_method_2_code, 2, (some .char), cL30)
def cM31 : MM := (⟨"java/lang/String", "checkIndex", "(II)V"⟩, prog_14_method_155_code, 2, none, cL31)
def cM32 : MM := (⟨"jdk/internal/util/Preconditions", "checkIndex", "(IILjava/util/function/BiFunction;)I"⟩, prog_17_method_11_code, 3, (some .int), cL32)
def cM33 : MM := (⟨"DoorPaints$Reader", "readDoor", "()V"⟩, prog_3_method_6_code, 3, none, cL33)
def cM34 : MM := (⟨"DoorPaints$Reader", "numberStands", "(I)Z"⟩, prog_3_method_10_code, 2, (some .boolean), cL34)
def cM35 : MM := (⟨"DoorPaints$Door", "addLayer", "(I)Z"⟩, prog_2_method_11_code, 2, (some .boolean), cL35)
def cM36 : MM := (⟨"DoorPaints$Reader", "endLine", "()V"⟩, prog_3_method_9_code, 1, none, cL36)
def cM37 : MM := (⟨"DoorPaints$Reader", "readNot", "()V"⟩, prog_3_method_7_code, 2, none, cL37)
def cM38 : MM := (⟨"DoorPaints$Door", "forbids", "(I)Z"⟩, prog_2_method_7_code, 2, (some .boolean), cL38)
def cM39 : MM := (⟨"DoorPaints$Door", "forbid", "(IZ)V"⟩, prog_2_method_8_code, 4, none, cL39)
def cM40 : MM := (⟨"DoorPaints$Reader", "readPlan", "()V"⟩, prog_3_method_8_code, 2, none, cL40)
def cM41 : MM := (⟨"DoorPaints", "isAct", "(I)Z"⟩, prog_1_method_43_code, 2, (some .boolean), cL41)
def cM42 : MM := (⟨"DoorPaints", "isSkyAct", "(I)Z"⟩, prog_1_method_42_code, 1, (some .boolean), cL42)
def cM43 : MM := (⟨"DoorPaints$Told", "addAct", "(I)Z"⟩, prog_7_method_4_code, 2, (some .boolean), cL43)
def cM44 : MM := (⟨"DoorPaints$Reader", "kindNamed", "()I"⟩, prog_3_method_4_code, 1, (some .int), cL44)
def cM45 : MM := (⟨"DoorPaints$Reader", "readVisitor", "(I)V"⟩, prog_3_method_5_code, 3, none, cL45)
def cM46 : MM := (⟨"DoorPaints$Town", "addVisitor", "(III)V"⟩, prog_8_method_8_code, 5, none, cL46)
def cM47 : MM := (⟨"DoorPaints$Told", "isWhole", "()Z"⟩, prog_7_method_8_code, 2, (some .boolean), cL47)
def cM48 : MM := (⟨"DoorPaints$Town", "knows", "(I)Z"⟩, prog_8_method_7_code, 2, (some .boolean), cL48)
def cM49 : MM := (⟨"DoorPaints$Town", "hasVisitor", "(I)Z"⟩, prog_8_method_4_code, 2, (some .boolean), cL49)
def cM50 : MM := (⟨"DoorPaints$Town", "hasDoor", "(I)Z"⟩, prog_8_method_5_code, 2, (some .boolean), cL50)
def cM51 : MM := (⟨"DoorPaints$Told", "become", "(LDoorPaints$Told;)V"⟩, prog_7_method_2_code, 3, none, cL51)
def cM52 : MM := (⟨"DoorPaints$Town", "become", "(LDoorPaints$Town;)V"⟩, prog_8_method_2_code, 3, none, cL52)
def cM53 : MM := (⟨"DoorPaints$Visitor", "become", "(LDoorPaints$Visitor;)V"⟩, prog_9_method_2_code, 2, none, cL53)
def cM54 : MM := (⟨"DoorPaints$Door", "become", "(LDoorPaints$Door;)V"⟩, prog_2_method_2_code, 3, none, cL54)
def cM55 : MM := (⟨"DoorPaints", "fault", "()I"⟩, prog_1_method_5_code, 1, (some .int), cL55)
def cM56 : MM := (⟨"DoorPaints", "rule", "(I)I"⟩, prog_1_method_6_code, 2, (some .int), cL56)
def cM57 : MM := (⟨"DoorPaints$Town", "wetBits", "()I"⟩, prog_8_method_18_code, 3, (some .int), cL57)
def cM58 : MM := (⟨"DoorPaints$Town", "wrongBits", "()I"⟩, prog_8_method_19_code, 3, (some .int), cL58)
def cM59 : MM := (⟨"DoorPaints$Door", "isWrong", "()Z"⟩, prog_2_method_6_code, 2, (some .boolean), cL59)
def cM60 : MM := (⟨"DoorPaints$Door", "shown", "()I"⟩, prog_2_method_5_code, 1, (some .int), cL60)
def cM61 : MM := (⟨"DoorPaints$Town", "allPaint", "()I"⟩, prog_8_method_16_code, 3, (some .int), cL61)
def cM62 : MM := (⟨"DoorPaints", "visitor", "(II)I"⟩, prog_1_method_7_code, 4, (some .int), cL62)
def cM63 : MM := (⟨"DoorPaints$Town", "brushOf", "(I)I"⟩, prog_8_method_10_code, 2, (some .int), cL63)
def cM64 : MM := (⟨"DoorPaints", "door", "(II)I"⟩, prog_1_method_8_code, 4, (some .int), cL64)
def cM65 : MM := (⟨"DoorPaints$Door", "layerAt", "(I)I"⟩, prog_2_method_4_code, 2, (some .int), cL65)
def cM66 : MM := (⟨"DoorPaints", "plan", "(I)I"⟩, prog_1_method_9_code, 2, (some .int), cL66)
def cM67 : MM := (⟨"DoorPaints", "uses", "(II)I"⟩, prog_1_method_10_code, 3, (some .int), cL67)
def cM68 : MM := (⟨"DoorPaints$Town", "costOf", "(II)I"⟩, prog_8_method_11_code, 4, (some .int), cL68)
def cM69 : MM := (⟨"DoorPaints", "visit", "(II)I"⟩, prog_1_method_11_code, 3, (some .int), cL69)
def cM70 : MM := (⟨"DoorPaints$Town", "receive", "(II)I"⟩, prog_8_method_12_code, 6, (some .int), cL70)
def cM71 : MM := (⟨"DoorPaints$Door", "takesNoLayer", "()Z"⟩, prog_2_method_10_code, 1, (some .boolean), cL71)
def cM72 : MM := (⟨"DoorPaints$Visitor", "markSleeve", "(I)V"⟩, prog_9_method_3_code, 2, none, cL72)
def cM73 : MM := (⟨"DoorPaints", "isColour", "(I)Z"⟩, prog_1_method_39_code, 1, (some .boolean), cL73)
def cM74 : MM := (⟨"DoorPaints$Door", "paintWith", "(I)V"⟩, prog_2_method_13_code, 3, none, cL74)
def cM75 : MM := (⟨"DoorPaints", "sky", "(I)I"⟩, prog_1_method_12_code, 2, (some .int), cL75)
def cM76 : MM := (⟨"DoorPaints$Town", "weather", "(I)V"⟩, prog_8_method_13_code, 3, none, cL76)
def cM77 : MM := (⟨"DoorPaints$Door", "rainOn", "()V"⟩, prog_2_method_14_code, 3, none, cL77)
def cM78 : MM := (⟨"DoorPaints$Door", "loseTop", "()V"⟩, prog_2_method_12_code, 1, none, cL78)
def cM79 : MM := (⟨"DoorPaints$Door", "shineOn", "()V"⟩, prog_2_method_15_code, 2, none, cL79)
def cM80 : MM := (⟨"DoorPaints$Town", "allLayers", "()I"⟩, prog_8_method_17_code, 3, (some .int), cL80)
def cM81 : MM := (⟨"DoorPaints", "scrape", "(I)I"⟩, prog_1_method_13_code, 3, (some .int), cL81)
def cM82 : MM := (⟨"DoorPaints", "alter", "(III)I"⟩, prog_1_method_14_code, 6, (some .int), cL82)
def cM83 : MM := (⟨"DoorPaints", "ought", "(IIZ)I"⟩, prog_1_method_15_code, 4, (some .int), cL83)
def cM84 : MM := (⟨"DoorPaints", "plans", "(I)I"⟩, prog_1_method_16_code, 2, (some .int), cL84)
def cM85 : MM := (⟨"DoorPaints", "cut", "(I)I"⟩, prog_1_method_17_code, 3, (some .int), cL85)
def cM86 : MM := (⟨"DoorPaints", "runs", "(I)I"⟩, prog_1_method_18_code, 3, (some .int), cL86)
def cM87 : MM := (⟨"DoorPaints", "rehearse", "()I"⟩, prog_1_method_45_code, 1, (some .int), cL87)
def cM88 : MM := (⟨"DoorPaints", "actInTrial", "(II)I"⟩, prog_1_method_46_code, 5, (some .int), cL88)
def cM89 : MM := (⟨"DoorPaints$Town", "undergo", "(I)Z"⟩, prog_8_method_14_code, 2, (some .boolean), cL89)
def cM90 : MM := (⟨"DoorPaints", "isRefusal", "(I)Z"⟩, prog_1_method_44_code, 1, (some .boolean), cL90)
def cM91 : MM := (⟨"DoorPaints", "takenInTrial", "()I"⟩, prog_1_method_47_code, 1, (some .int), cL91)
def cM92 : MM := (⟨"DoorPaints$Town", "markedBits", "()I"⟩, prog_8_method_20_code, 3, (some .int), cL92)
def cM93 : MM := (⟨"DoorPaints", "ahead", "(I)I"⟩, prog_1_method_19_code, 2, (some .int), cL93)
def cM94 : MM := (⟨"DoorPaints", "clears", "(I)I"⟩, prog_1_method_20_code, 4, (some .int), cL94)
def cM95 : MM := (⟨"DoorPaints", "best", "(II)I"⟩, prog_1_method_21_code, 3, (some .int), cL95)
def cM96 : MM := (⟨"DoorPaints$Search", "forBest", "(LDoorPaints$Town;I)V"⟩, prog_4_method_2_code, 3, none, cL96)
def cM97 : MM := (⟨"DoorPaints$Search", "begin", "(LDoorPaints$Town;I)V"⟩, prog_4_method_4_code, 3, none, cL97)
def cM98 : MM := (⟨"DoorPaints$Town", "hasVisits", "()Z"⟩, prog_8_method_6_code, 1, (some .boolean), cL98)
def cM99 : MM := (⟨"java/lang/Integer", "bitCount", "(I)I"⟩, prog_12_method_49_code, 1, (some .int), cL99)
def cM100 : MM := (⟨"DoorPaints$Search", "tryFrom", "(III)V"⟩, prog_4_method_6_code, 6, none, cL100)
def cM101 : MM := (⟨"DoorPaints$Search", "isBetter", "(II)Z"⟩, prog_4_method_9_code, 3, (some .boolean), cL101)
def cM102 : MM := (⟨"DoorPaints$Search", "take", "(II)V"⟩, prog_4_method_10_code, 4, none, cL102)
def cM103 : MM := (⟨"DoorPaints$Search", "mayImprove", "(III)Z"⟩, prog_4_method_8_code, 4, (some .boolean), cL103)
def cM104 : MM := (⟨"DoorPaints$Search", "tryVisit", "(IIIII)V"⟩, prog_4_method_7_code, 13, none, cL104)
def cM105 : MM := (⟨"DoorPaints$Door", "restore", "(IIZ)V"⟩, prog_2_method_16_code, 4, none, cL105)
def cM106 : MM := (⟨"DoorPaints$Search", "visitAt", "(I)I"⟩, prog_4_method_5_code, 2, (some .int), cL106)
def cM107 : MM := (⟨"DoorPaints", "few", "(I)I"⟩, prog_1_method_22_code, 3, (some .int), cL107)
def cM108 : MM := (⟨"DoorPaints$Search", "clearsAll", "(LDoorPaints$Town;I)Z"⟩, prog_4_method_3_code, 3, (some .boolean), cL108)
def cM109 : MM := (⟨"DoorPaints", "reads", "(I)I"⟩, prog_1_method_23_code, 5, (some .int), cL109)
def cM110 : MM := (⟨"DoorPaints$Door", "hasLayerOf", "(I)Z"⟩, prog_2_method_9_code, 3, (some .boolean), cL110)
def cM111 : MM := (⟨"DoorPaints", "see", "(III)I"⟩, prog_1_method_24_code, 5, (some .int), cL111)
def cM112 : MM := (⟨"DoorPaints$Told", "addSeen", "(III)Z"⟩, prog_7_method_5_code, 4, (some .boolean), cL112)
def cM113 : MM := (⟨"DoorPaints", "forget", "(I)I"⟩, prog_1_method_25_code, 3, (some .int), cL113)
def cM114 : MM := (⟨"DoorPaints", "pots", "(I)I"⟩, prog_1_method_26_code, 4, (some .int), cL114)
def cM115 : MM := (⟨"DoorPaints$Town", "lend", "(II)V"⟩, prog_8_method_9_code, 3, none, cL115)
def cM116 : MM := (⟨"DoorPaints$Told", "agreesWith", "(LDoorPaints$Town;)Z"⟩, prog_7_method_6_code, 4, (some .boolean), cL116)
def cM117 : MM := (⟨"DoorPaints", "rained", "()I"⟩, prog_1_method_27_code, 3, (some .int), cL117)
def cM118 : MM := (⟨"DoorPaints", "orders", "(I)I"⟩, prog_1_method_28_code, 2, (some .int), cL118)
def cM119 : MM := (⟨"DoorPaints", "arrange", "(II)V"⟩, prog_1_method_48_code, 4, none, cL119)
def cM120 : MM := (⟨"DoorPaints", "judgeOrder", "(I)V"⟩, prog_1_method_49_code, 3, none, cL120)
def cM121 : MM := (⟨"DoorPaints", "luck", "(III)J"⟩, prog_1_method_29_code, 10, (some .long), cL121)
def cM122 : MM := (⟨"DoorPaints$Told", "visitsPlanned", "()I"⟩, prog_7_method_7_code, 3, (some .int), cL122)
def cM123 : MM := (⟨"DoorPaints", "weightOf", "(III)J"⟩, prog_1_method_51_code, 6, (some .long), cL123)
def cM124 : MM := (⟨"DoorPaints", "actChosen", "(I)V"⟩, prog_1_method_50_code, 5, none, cL124)
def cM125 : MM := (⟨"DoorPaints", "powerOfTen", "(I)J"⟩, prog_1_method_52_code, 4, (some .long), cL125)
def cM126 : MM := (⟨"DoorPaints", "ofFraction", "(JJI)J"⟩, prog_1_method_53_code, 12, (some .long), cL126)
def cM127 : MM := (⟨"DoorPaints", "mean", "(II)J"⟩, prog_1_method_30_code, 9, (some .long), cL127)
def cM128 : MM := (⟨"DoorPaints", "drift", "(III)I"⟩, prog_1_method_31_code, 6, (some .int), cL128)
def cM129 : MM := (⟨"DoorPaints$Town", "actBySeed", "(I)V"⟩, prog_8_method_15_code, 3, none, cL129)
def cM130 : MM := (⟨"DoorPaints", "keep", "(I)I"⟩, prog_1_method_32_code, 3, (some .int), cL130)
def cM131 : MM := (⟨"DoorPaints", "back", "(I)I"⟩, prog_1_method_33_code, 2, (some .int), cL131)
def cM132 : MM := (⟨"DoorPaints", "sheet", "(III)I"⟩, prog_1_method_34_code, 4, (some .int), cL132)
def cM133 : MM := (⟨"DoorPaints", "isSheet", "(I)Z"⟩, prog_1_method_40_code, 1, (some .boolean), cL133)
def cM134 : MM := (⟨"DoorPaints", "isLane", "(I)Z"⟩, prog_1_method_41_code, 1, (some .boolean), cL134)
def cM135 : MM := (⟨"DoorPaints$Sheet", "renew", "(II)V"⟩, prog_5_method_2_code, 4, none, cL135)
def cM136 : MM := (⟨"DoorPaints", "lay", "(III)I"⟩, prog_1_method_35_code, 6, (some .int), cL136)
def cM137 : MM := (⟨"DoorPaints$Sheet", "faultAt", "(II)I"⟩, prog_5_method_3_code, 3, (some .int), cL137)
def cM138 : MM := (⟨"DoorPaints$Sheet", "put", "(II)V"⟩, prog_5_method_5_code, 3, none, cL138)
def cM139 : MM := (⟨"DoorPaints", "read", "(IIII)I"⟩, prog_1_method_36_code, 10, (some .int), cL139)
def cM140 : MM := (⟨"DoorPaints$Sheet", "faultOfPair", "(II)I"⟩, prog_5_method_4_code, 4, (some .int), cL140)
def cM141 : MM := (⟨"DoorPaints$Sheet", "cellAt", "(I)I"⟩, prog_5_method_6_code, 2, (some .int), cL141)
def cM142 : MM := (⟨"DoorPaints", "torn", "()I"⟩, prog_1_method_37_code, 1, (some .int), cL142)
def cM143 : MM := (⟨"DoorPaints", "count", "(I)I"⟩, prog_1_method_38_code, 2, (some .int), cL143)
def cM144 : MM := (⟨"DoorPaintsModel", "<init>", "()V"⟩, prog_11_method_1_code, 2, none, cL144)
def cM145 : MM := (⟨"DoorPaintsModel", "firstDraft", "()V"⟩, prog_11_method_5_code, 2, none, cL145)
def cM146 : MM := (⟨"DoorPaintsModel", "keepDraft", "()V"⟩, prog_11_method_6_code, 2, none, cL146)
def cM147 : MM := (⟨"DoorPaintsModel", "feed", "(I)I"⟩, prog_11_method_7_code, 2, (some .int), cL147)
def cM148 : MM := (⟨"DoorPaintsModel", "in", "(JJJ)Z"⟩, prog_11_method_3_code, 6, (some .boolean), cL148)
def cM149 : MM := (⟨"DoorPaintsModel", "end", "(I)I"⟩, prog_11_method_8_code, 3, (some .int), cL149)
def cM150 : MM := (⟨"DoorPaintsModel", "text", "()I"⟩, prog_11_method_24_code, 2, (some .int), cL150)
def cM151 : MM := (⟨"DoorPaintsModel", "next", "()V"⟩, prog_11_method_14_code, 2, none, cL151)
def cM152 : MM := (⟨"DoorPaintsModel", "byteAt", "(I)I"⟩, prog_11_method_10_code, 2, (some .int), cL152)
def cM153 : MM := (⟨"DoorPaintsModel", "needs", "(ZI)V"⟩, prog_11_method_9_code, 3, none, cL153)
def cM154 : MM := (⟨"DoorPaintsModel", "readLine", "()V"⟩, prog_11_method_23_code, 2, none, cL154)
def cM155 : MM := (⟨"DoorPaintsModel", "lineNow", "()I"⟩, prog_11_method_13_code, 1, (some .int), cL155)
def cM156 : MM := (⟨"DoorPaintsModel", "is", "(IIII)Z"⟩, prog_11_method_11_code, 5, (some .boolean), cL156)
def cM157 : MM := (⟨"DoorPaintsModel", "ends", "(III)Z"⟩, prog_11_method_12_code, 4, (some .boolean), cL157)
def cM158 : MM := (⟨"DoorPaintsModel", "readLineOf", "(I)V"⟩, prog_11_method_22_code, 2, none, cL158)
def cM159 : MM := (⟨"DoorPaintsModel", "readDoor", "()V"⟩, prog_11_method_18_code, 3, none, cL159)
def cM160 : MM := (⟨"DoorPaintsModel", "readNumber", "(II)I"⟩, prog_11_method_16_code, 4, (some .int), cL160)
def cM161 : MM := (⟨"DoorPaintsModel", "looked", "(II)I"⟩, prog_11_method_15_code, 3, (some .int), cL161)
def cM162 : MM := (⟨"DoorPaintsModel", "readNot", "()V"⟩, prog_11_method_19_code, 3, none, cL162)
def cM163 : MM := (⟨"DoorPaintsModel", "readPlan", "()V"⟩, prog_11_method_21_code, 1, none, cL163)
def cM164 : MM := (⟨"DoorPaintsModel", "isActLike", "(I)Z"⟩, prog_11_method_20_code, 1, (some .boolean), cL164)
def cM165 : MM := (⟨"DoorPaintsModel", "readVisitor", "(I)V"⟩, prog_11_method_17_code, 3, none, cL165)
def cM166 : MM := (⟨"DoorPaintsModel", "fault", "()I"⟩, prog_11_method_25_code, 1, (some .int), cL166)
def cM167 : MM := (⟨"DoorPaintsModel", "rule", "(I)I"⟩, prog_11_method_50_code, 5, (some .int), cL167)
def cM168 : MM := (⟨"DoorPaintsModel", "starts", "()V"⟩, prog_11_method_30_code, 2, none, cL168)
def cM169 : MM := (⟨"DoorPaintsModel", "ofDoor", "(II)I"⟩, prog_11_method_33_code, 3, (some .int), cL169)
def cM170 : MM := (⟨"DoorPaintsModel", "of", "(II)I"⟩, prog_11_method_32_code, 3, (some .int), cL170)
def cM171 : MM := (⟨"DoorPaintsModel", "wrong", "()I"⟩, prog_11_method_47_code, 3, (some .int), cL171)
def cM172 : MM := (⟨"DoorPaintsModel", "isWrong", "(I)Z"⟩, prog_11_method_46_code, 2, (some .boolean), cL172)
def cM173 : MM := (⟨"DoorPaintsModel", "showsOf", "(I)I"⟩, prog_11_method_36_code, 2, (some .int), cL173)
def cM174 : MM := (⟨"DoorPaintsModel", "layerOf", "(II)I"⟩, prog_11_method_35_code, 3, (some .int), cL174)
def cM175 : MM := (⟨"DoorPaintsModel", "flag", "(Z)I"⟩, prog_11_method_4_code, 1, (some .int), cL175)
def cM176 : MM := (⟨"DoorPaintsModel", "visitor", "(II)I"⟩, prog_11_method_51_code, 3, (some .int), cL176)
def cM177 : MM := (⟨"DoorPaintsModel", "isVisitor", "(I)Z"⟩, prog_11_method_26_code, 2, (some .boolean), cL177)
def cM178 : MM := (⟨"DoorPaintsModel", "brushOf", "(I)I"⟩, prog_11_method_39_code, 2, (some .int), cL178)
def cM179 : MM := (⟨"DoorPaintsModel", "ownBrush", "(I)I"⟩, prog_11_method_38_code, 2, (some .int), cL179)
def cM180 : MM := (⟨"DoorPaintsModel", "door", "(II)I"⟩, prog_11_method_52_code, 3, (some .int), cL180)
def cM181 : MM := (⟨"DoorPaintsModel", "isDoor", "(I)Z"⟩, prog_11_method_27_code, 2, (some .boolean), cL181)
def cM182 : MM := (⟨"DoorPaintsModel", "plan", "(I)I"⟩, prog_11_method_53_code, 2, (some .int), cL182)
def cM183 : MM := (⟨"DoorPaintsModel", "uses", "(II)I"⟩, prog_11_method_55_code, 3, (some .int), cL183)
def cM184 : MM := (⟨"DoorPaintsModel", "usesOf", "(II)I"⟩, prog_11_method_37_code, 5, (some .int), cL184)
def cM185 : MM := (⟨"DoorPaintsModel", "visit", "(II)I"⟩, prog_11_method_56_code, 4, (some .int), cL185)
def cM186 : MM := (⟨"DoorPaintsModel", "keepsOut", "(II)I"⟩, prog_11_method_40_code, 4, (some .int), cL186)
def cM187 : MM := (⟨"DoorPaintsModel", "visits", "(II)I"⟩, prog_11_method_41_code, 7, (some .int), cL187)
def cM188 : MM := (⟨"DoorPaintsModel", "becomesDoor", "(III)V"⟩, prog_11_method_34_code, 4, none, cL188)
def cM189 : MM := (⟨"DoorPaintsModel", "settles", "()V"⟩, prog_11_method_31_code, 2, none, cL189)
def cM190 : MM := (⟨"DoorPaintsModel", "sky", "(I)I"⟩, prog_11_method_57_code, 2, (some .int), cL190)
def cM191 : MM := (⟨"DoorPaintsModel", "goesBy", "(I)V"⟩, prog_11_method_43_code, 3, none, cL191)
def cM192 : MM := (⟨"DoorPaintsModel", "rains", "(I)V"⟩, prog_11_method_42_code, 6, none, cL192)
def cM193 : MM := (⟨"DoorPaintsModel", "layers", "()I"⟩, prog_11_method_48_code, 3, (some .int), cL193)
def cM194 : MM := (⟨"DoorPaintsModel", "scrape", "(I)I"⟩, prog_11_method_58_code, 2, (some .int), cL194)
def cM195 : MM := (⟨"DoorPaintsModel", "alter", "(III)I"⟩, prog_11_method_60_code, 4, (some .int), cL195)
def cM196 : MM := (⟨"DoorPaintsModel", "mostOf", "(I)I"⟩, prog_11_method_59_code, 1, (some .int), cL196)
def cM197 : MM := (⟨"DoorPaintsModel", "becomes", "(II)I"⟩, prog_11_method_54_code, 4, (some .int), cL197)
def cM198 : MM := (⟨"DoorPaintsModel", "ought", "(IIZ)I"⟩, prog_11_method_61_code, 6, (some .int), cL198)
def cM199 : MM := (⟨"DoorPaintsModel", "plans", "(I)I"⟩, prog_11_method_62_code, 2, (some .int), cL199)
def cM200 : MM := (⟨"DoorPaintsModel", "isAct", "(I)Z"⟩, prog_11_method_29_code, 2, (some .boolean), cL200)
def cM201 : MM := (⟨"DoorPaintsModel", "cut", "(I)I"⟩, prog_11_method_63_code, 2, (some .int), cL201)
def cM202 : MM := (⟨"DoorPaintsModel", "runs", "(I)I"⟩, prog_11_method_64_code, 5, (some .int), cL202)
def cM203 : MM := (⟨"DoorPaintsModel", "acts", "(I)V"⟩, prog_11_method_44_code, 2, none, cL203)
def cM204 : MM := (⟨"DoorPaintsModel", "ahead", "(I)I"⟩, prog_11_method_65_code, 2, (some .int), cL204)
def cM205 : MM := (⟨"DoorPaintsModel", "plansGo", "()V"⟩, prog_11_method_45_code, 2, none, cL205)
def cM206 : MM := (⟨"DoorPaintsModel", "clears", "(I)I"⟩, prog_11_method_66_code, 4, (some .int), cL206)
def cM207 : MM := (⟨"DoorPaintsModel", "best", "(II)I"⟩, prog_11_method_72_code, 10, (some .int), cL207)
def cM208 : MM := (⟨"DoorPaintsModel", "isPart", "(I)Z"⟩, prog_11_method_28_code, 1, (some .boolean), cL208)
def cM209 : MM := (⟨"DoorPaintsModel", "kindsOfVisit", "()I"⟩, prog_11_method_67_code, 1, (some .int), cL209)
def cM210 : MM := (⟨"DoorPaintsModel", "rowsOf", "(I)I"⟩, prog_11_method_69_code, 4, (some .int), cL210)
def cM211 : MM := (⟨"DoorPaintsModel", "goesRow", "(II)V"⟩, prog_11_method_71_code, 5, none, cL211)
def cM212 : MM := (⟨"DoorPaintsModel", "actAt", "(I)I"⟩, prog_11_method_68_code, 2, (some .int), cL212)
def cM213 : MM := (⟨"DoorPaintsModel", "bitsOf", "(I)I"⟩, prog_11_method_49_code, 3, (some .int), cL213)
def cM214 : MM := (⟨"DoorPaintsModel", "visitIn", "(III)I"⟩, prog_11_method_70_code, 4, (some .int), cL214)
def cM215 : MM := (⟨"DoorPaintsModel", "few", "(I)I"⟩, prog_11_method_73_code, 4, (some .int), cL215)
def cM216 : MM := (⟨"DoorPaintsModel", "reads", "(I)I"⟩, prog_11_method_74_code, 6, (some .int), cL216)
def cM217 : MM := (⟨"DoorPaintsModel", "see", "(III)I"⟩, prog_11_method_75_code, 5, (some .int), cL217)
def cM218 : MM := (⟨"DoorPaintsModel", "forget", "(I)I"⟩, prog_11_method_76_code, 2, (some .int), cL218)
def cM219 : MM := (⟨"DoorPaintsModel", "pots", "(I)I"⟩, prog_11_method_78_code, 4, (some .int), cL219)
def cM220 : MM := (⟨"DoorPaintsModel", "isSo", "()Z"⟩, prog_11_method_77_code, 6, (some .boolean), cL220)
def cM221 : MM := (⟨"DoorPaintsModel", "rained", "()I"⟩, prog_11_method_79_code, 4, (some .int), cL221)
def cM222 : MM := (⟨"DoorPaintsModel", "orders", "(I)I"⟩, prog_11_method_81_code, 8, (some .int), cL222)
def cM223 : MM := (⟨"DoorPaintsModel", "isOrder", "(I)Z"⟩, prog_11_method_80_code, 6, (some .boolean), cL223)
def cM224 : MM := (⟨"DoorPaintsModel", "luck", "(III)J"⟩, prog_11_method_85_code, 4, (some .long), cL224)
def cM225 : MM := (⟨"DoorPaintsModel", "findOdds", "(II)V"⟩, prog_11_method_84_code, 10, none, cL225)
def cM226 : MM := (⟨"DoorPaintsModel", "told", "(JJI)J"⟩, prog_11_method_83_code, 7, (some .long), cL226)
def cM227 : MM := (⟨"DoorPaintsModel", "common", "(JJ)J"⟩, prog_11_method_82_code, 10, (some .long), cL227)
def cM228 : MM := (⟨"DoorPaintsModel", "mean", "(II)J"⟩, prog_11_method_86_code, 3, (some .long), cL228)
def cM229 : MM := (⟨"DoorPaintsModel", "drift", "(III)I"⟩, prog_11_method_87_code, 8, (some .int), cL229)
def cM230 : MM := (⟨"DoorPaintsModel", "keep", "(I)I"⟩, prog_11_method_89_code, 3, (some .int), cL230)
def cM231 : MM := (⟨"DoorPaintsModel", "copies", "(II)V"⟩, prog_11_method_88_code, 4, none, cL231)
def cM232 : MM := (⟨"DoorPaintsModel", "back", "(I)I"⟩, prog_11_method_90_code, 2, (some .int), cL232)
def cM233 : MM := (⟨"DoorPaintsModel", "sheet", "(III)I"⟩, prog_11_method_92_code, 5, (some .int), cL233)
def cM234 : MM := (⟨"DoorPaintsModel", "isSheet", "(II)Z"⟩, prog_11_method_91_code, 2, (some .boolean), cL234)
def cM235 : MM := (⟨"DoorPaintsModel", "lay", "(III)I"⟩, prog_11_method_93_code, 4, (some .int), cL235)
def cM236 : MM := (⟨"DoorPaintsModel", "read", "(IIII)I"⟩, prog_11_method_94_code, 11, (some .int), cL236)
def cM237 : MM := (⟨"DoorPaintsModel", "torn", "()I"⟩, prog_11_method_95_code, 1, (some .int), cL237)
def cM238 : MM := (⟨"DoorPaintsModel", "count", "(I)I"⟩, prog_11_method_96_code, 2, (some .int), cL238)
def tMT : List MM := [cM0, cM1, cM2, cM3, cM4, cM5, cM6, cM7, cM8, cM9, cM10, cM11, cM12, cM13, cM14, cM15, cM16, cM17, cM18, cM19, cM20, cM21, cM22, cM23, cM24, cM25, cM26, cM27, cM28, cM29, cM30, cM31, cM32, cM33, cM34, cM35, cM36, cM37, cM38, cM39, cM40, cM41, cM42, cM43, cM44, cM45, cM46, cM47, cM48, cM49, cM50, cM51, cM52, cM53, cM54, cM55, cM56, cM57, cM58, cM59, cM60, cM61, cM62, cM63, cM64, cM65, cM66, cM67, cM68, cM69, cM70, cM71, cM72, cM73, cM74, cM75, cM76, cM77, cM78, cM79, cM80, cM81, cM82, cM83, cM84, cM85, cM86, cM87, cM88, cM89, cM90, cM91, cM92, cM93, cM94, cM95, cM96, cM97, cM98, cM99, cM100, cM101, cM102, cM103, cM104, cM105, cM106, cM107, cM108, cM109, cM110, cM111, cM112, cM113, cM114, cM115, cM116, cM117, cM118, cM119, cM120, cM121, cM122, cM123, cM124, cM125, cM126, cM127, cM128, cM129, cM130, cM131, cM132, cM133, cM134, cM135, cM136, cM137, cM138, cM139, cM140, cM141, cM142, cM143, cM144, cM145, cM146, cM147, cM148, cM149, cM150, cM151, cM152, cM153, cM154, cM155, cM156, cM157, cM158, cM159, cM160, cM161, cM162, cM163, cM164, cM165, cM166, cM167, cM168, cM169, cM170, cM171, cM172, cM173, cM174, cM175, cM176, cM177, cM178, cM179, cM180, cM181, cM182, cM183, cM184, cM185, cM186, cM187, cM188, cM189, cM190, cM191, cM192, cM193, cM194, cM195, cM196, cM197, cM198, cM199, cM200, cM201, cM202, cM203, cM204, cM205, cM206, cM207, cM208, cM209, cM210, cM211, cM212, cM213, cM214, cM215, cM216, cM217, cM218, cM219, cM220, cM221, cM222, cM223, cM224, cM225, cM226, cM227, cM228, cM229, cM230, cM231, cM232, cM233, cM234, cM235, cM236, cM237, cM238]
end
section
/-! TABLES: every instruction stands where the listing says (written by a program) -/
def dOK (cc : ByteArray) (nL : Nat) (L : List MI) : Bool := L.all fun E => decide (decode cc E.1 = .ok (E.2.1, E.2.2.1)) && (m_len E.2.1 == 0 || m_len E.2.1 == E.2.2.1) && m_sl E.2.1 nL
theorem dOK_app {cc : ByteArray} {nL : Nat} {L L2 : List MI} (h : dOK cc nL L = true) (h2 : dOK cc nL L2 = true) : dOK cc nL (L ++ L2) = true := by
  unfold dOK at *
  rw [List.all_append, h, h2]; rfl
theorem dk0_0 : dOK code 4 cL0_0 = true := by decide +kernel
theorem dk0_1 : dOK code 4 cL0_1 = true := by decide +kernel
theorem dk0_2 : dOK code 4 cL0_2 = true := by decide +kernel
theorem dk0_3 : dOK code 4 cL0_3 = true := by decide +kernel
theorem dk0_4 : dOK code 4 cL0_4 = true := by decide +kernel
theorem dk0_5 : dOK code 4 cL0_5 = true := by decide +kernel
theorem dk0_6 : dOK code 4 cL0_6 = true := by decide +kernel
theorem dk0_7 : dOK code 4 cL0_7 = true := by decide +kernel
theorem dk0_8 : dOK code 4 cL0_8 = true := by decide +kernel
theorem dk0_9 : dOK code 4 cL0_9 = true := by decide +kernel
theorem dk0_10 : dOK code 4 cL0_10 = true := by decide +kernel
theorem dk0_11 : dOK code 4 cL0_11 = true := by decide +kernel
theorem dk0_12 : dOK code 4 cL0_12 = true := by decide +kernel
theorem dk0_13 : dOK code 4 cL0_13 = true := by decide +kernel
theorem dk0_14 : dOK code 4 cL0_14 = true := by decide +kernel
theorem dk0_15 : dOK code 4 cL0_15 = true := by decide +kernel
theorem dk0_16 : dOK code 4 cL0_16 = true := by decide +kernel
theorem dk0_17 : dOK code 4 cL0_17 = true := by decide +kernel
theorem dk0 : dOK code 4 cL0 = true := dOK_app dk0_0 (dOK_app dk0_1 (dOK_app dk0_2 (dOK_app dk0_3 (dOK_app dk0_4 (dOK_app dk0_5 (dOK_app dk0_6 (dOK_app dk0_7 (dOK_app dk0_8 (dOK_app dk0_9 (dOK_app dk0_10 (dOK_app dk0_11 (dOK_app dk0_12 (dOK_app dk0_13 (dOK_app dk0_14 (dOK_app dk0_15 (dOK_app dk0_16 (dk0_17)))))))))))))))))
end
section
/-! TABLES: every instruction stands where the listing says (written by a program) -/
theorem dk1_0 : dOK prog_1_method_1_code 2 cL1_0 = true := by decide +kernel
theorem dk1_1 : dOK prog_1_method_1_code 2 cL1_1 = true := by decide +kernel
theorem dk1 : dOK prog_1_method_1_code 2 cL1 = true := dOK_app dk1_0 (dk1_1)
theorem dk2 : dOK prog_3_method_1_code 1 cL2 = true := by decide +kernel
theorem dk3 : dOK prog_7_method_1_code 1 cL3 = true := by decide +kernel
theorem dk4 : dOK prog_8_method_1_code 2 cL4 = true := by decide +kernel
theorem dk5 : dOK prog_9_method_1_code 1 cL5 = true := by decide +kernel
theorem dk6 : dOK prog_2_method_1_code 1 cL6 = true := by decide +kernel
theorem dk7 : dOK prog_6_method_1_code 1 cL7 = true := by decide +kernel
theorem dk8 : dOK prog_4_method_1_code 1 cL8 = true := by decide +kernel
theorem dk9 : dOK prog_5_method_1_code 1 cL9 = true := by decide +kernel
theorem dk10 : dOK prog_1_method_2_code 2 cL10 = true := by decide +kernel
theorem dk11 : dOK prog_6_method_2_code 2 cL11 = true := by decide +kernel
theorem dk12 : dOK prog_1_method_3_code 3 cL12 = true := by decide +kernel
theorem dk13 : dOK prog_1_method_4_code 3 cL13 = true := by decide +kernel
theorem dk14_0 : dOK prog_3_method_2_code 2 cL14_0 = true := by decide +kernel
theorem dk14_1 : dOK prog_3_method_2_code 2 cL14_1 = true := by decide +kernel
theorem dk14 : dOK prog_3_method_2_code 2 cL14 = true := dOK_app dk14_0 (dk14_1)
theorem dk15 : dOK prog_7_method_3_code 1 cL15 = true := by decide +kernel
theorem dk16 : dOK prog_8_method_3_code 2 cL16 = true := by decide +kernel
theorem dk17 : dOK prog_2_method_3_code 1 cL17 = true := by decide +kernel
theorem dk18 : dOK prog_6_method_3_code 1 cL18 = true := by decide +kernel
theorem dk19_0 : dOK prog_6_method_4_code 1 cL19_0 = true := by decide +kernel
theorem dk19_1 : dOK prog_6_method_4_code 1 cL19_1 = true := by decide +kernel
theorem dk19 : dOK prog_6_method_4_code 1 cL19 = true := dOK_app dk19_0 (dk19_1)
theorem dk20 : dOK prog_6_method_5_code 3 cL20 = true := by decide +kernel
theorem dk21 : dOK prog_6_method_6_code 2 cL21 = true := by decide +kernel
theorem dk22 : dOK prog_3_method_3_code 1 cL22 = true := by decide +kernel
theorem dk23 : dOK prog_3_method_11_code 2 cL23 = true := by decide +kernel
theorem dk24 : dOK prog_3_method_12_code 2 cL24 = true := by decide +kernel
theorem dk25 : dOK prog_6_method_7_code 3 cL25 = true := by decide +kernel
theorem dk26 : dOK prog_14_method_54_code 1 cL26 = true := by decide +kernel
theorem dk27 : dOK prog_14_method_152_code 1 cL27 = true := by decide +kernel
theorem dk28 : dOK prog_14_method_56_code 2 cL28 = true := by decide +kernel
theorem dk29 : dOK prog_14_method_154_code 1 cL29 = true := by decide +kernel
theorem dk30 : dOK prog_15_method_2_code 2 cL30 = true := by decide +kernel
theorem dk31 : dOK prog_14_method_155_code 2 cL31 = true := by decide +kernel
theorem dk32 : dOK prog_17_method_11_code 3 cL32 = true := by decide +kernel
theorem dk33_0 : dOK prog_3_method_6_code 3 cL33_0 = true := by decide +kernel
theorem dk33_1 : dOK prog_3_method_6_code 3 cL33_1 = true := by decide +kernel
theorem dk33 : dOK prog_3_method_6_code 3 cL33 = true := dOK_app dk33_0 (dk33_1)
theorem dk34 : dOK prog_3_method_10_code 2 cL34 = true := by decide +kernel
theorem dk35 : dOK prog_2_method_11_code 2 cL35 = true := by decide +kernel
theorem dk36 : dOK prog_3_method_9_code 1 cL36 = true := by decide +kernel
theorem dk37 : dOK prog_3_method_7_code 2 cL37 = true := by decide +kernel
theorem dk38 : dOK prog_2_method_7_code 2 cL38 = true := by decide +kernel
theorem dk39 : dOK prog_2_method_8_code 4 cL39 = true := by decide +kernel
theorem dk40_0 : dOK prog_3_method_8_code 2 cL40_0 = true := by decide +kernel
theorem dk40_1 : dOK prog_3_method_8_code 2 cL40_1 = true := by decide +kernel
theorem dk40 : dOK prog_3_method_8_code 2 cL40 = true := dOK_app dk40_0 (dk40_1)
theorem dk41 : dOK prog_1_method_43_code 2 cL41 = true := by decide +kernel
theorem dk42 : dOK prog_1_method_42_code 1 cL42 = true := by decide +kernel
theorem dk43 : dOK prog_7_method_4_code 2 cL43 = true := by decide +kernel
theorem dk44 : dOK prog_3_method_4_code 1 cL44 = true := by decide +kernel
theorem dk45_0 : dOK prog_3_method_5_code 3 cL45_0 = true := by decide +kernel
theorem dk45_1 : dOK prog_3_method_5_code 3 cL45_1 = true := by decide +kernel
theorem dk45 : dOK prog_3_method_5_code 3 cL45 = true := dOK_app dk45_0 (dk45_1)
theorem dk46 : dOK prog_8_method_8_code 5 cL46 = true := by decide +kernel
theorem dk47 : dOK prog_7_method_8_code 2 cL47 = true := by decide +kernel
theorem dk48 : dOK prog_8_method_7_code 2 cL48 = true := by decide +kernel
theorem dk49 : dOK prog_8_method_4_code 2 cL49 = true := by decide +kernel
theorem dk50 : dOK prog_8_method_5_code 2 cL50 = true := by decide +kernel
theorem dk51_0 : dOK prog_7_method_2_code 3 cL51_0 = true := by decide +kernel
theorem dk51_1 : dOK prog_7_method_2_code 3 cL51_1 = true := by decide +kernel
theorem dk51 : dOK prog_7_method_2_code 3 cL51 = true := dOK_app dk51_0 (dk51_1)
end
section
/-! TABLES: every instruction stands where the listing says (written by a program) -/
theorem dk52 : dOK prog_8_method_2_code 3 cL52 = true := by decide +kernel
theorem dk53 : dOK prog_9_method_2_code 2 cL53 = true := by decide +kernel
theorem dk54 : dOK prog_2_method_2_code 3 cL54 = true := by decide +kernel
theorem dk55 : dOK prog_1_method_5_code 1 cL55 = true := by decide +kernel
theorem dk56 : dOK prog_1_method_6_code 2 cL56 = true := by decide +kernel
theorem dk57 : dOK prog_8_method_18_code 3 cL57 = true := by decide +kernel
theorem dk58 : dOK prog_8_method_19_code 3 cL58 = true := by decide +kernel
theorem dk59 : dOK prog_2_method_6_code 2 cL59 = true := by decide +kernel
theorem dk60 : dOK prog_2_method_5_code 1 cL60 = true := by decide +kernel
theorem dk61 : dOK prog_8_method_16_code 3 cL61 = true := by decide +kernel
theorem dk62 : dOK prog_1_method_7_code 4 cL62 = true := by decide +kernel
theorem dk63 : dOK prog_8_method_10_code 2 cL63 = true := by decide +kernel
theorem dk64 : dOK prog_1_method_8_code 4 cL64 = true := by decide +kernel
theorem dk65 : dOK prog_2_method_4_code 2 cL65 = true := by decide +kernel
theorem dk66 : dOK prog_1_method_9_code 2 cL66 = true := by decide +kernel
theorem dk67 : dOK prog_1_method_10_code 3 cL67 = true := by decide +kernel
theorem dk68 : dOK prog_8_method_11_code 4 cL68 = true := by decide +kernel
theorem dk69 : dOK prog_1_method_11_code 3 cL69 = true := by decide +kernel
theorem dk70_0 : dOK prog_8_method_12_code 6 cL70_0 = true := by decide +kernel
theorem dk70_1 : dOK prog_8_method_12_code 6 cL70_1 = true := by decide +kernel
theorem dk70 : dOK prog_8_method_12_code 6 cL70 = true := dOK_app dk70_0 (dk70_1)
theorem dk71 : dOK prog_2_method_10_code 1 cL71 = true := by decide +kernel
theorem dk72 : dOK prog_9_method_3_code 2 cL72 = true := by decide +kernel
theorem dk73 : dOK prog_1_method_39_code 1 cL73 = true := by decide +kernel
theorem dk74 : dOK prog_2_method_13_code 3 cL74 = true := by decide +kernel
theorem dk75 : dOK prog_1_method_12_code 2 cL75 = true := by decide +kernel
theorem dk76 : dOK prog_8_method_13_code 3 cL76 = true := by decide +kernel
theorem dk77 : dOK prog_2_method_14_code 3 cL77 = true := by decide +kernel
theorem dk78 : dOK prog_2_method_12_code 1 cL78 = true := by decide +kernel
theorem dk79 : dOK prog_2_method_15_code 2 cL79 = true := by decide +kernel
theorem dk80 : dOK prog_8_method_17_code 3 cL80 = true := by decide +kernel
theorem dk81 : dOK prog_1_method_13_code 3 cL81 = true := by decide +kernel
theorem dk82_0 : dOK prog_1_method_14_code 6 cL82_0 = true := by decide +kernel
theorem dk82_1 : dOK prog_1_method_14_code 6 cL82_1 = true := by decide +kernel
theorem dk82 : dOK prog_1_method_14_code 6 cL82 = true := dOK_app dk82_0 (dk82_1)
theorem dk83 : dOK prog_1_method_15_code 4 cL83 = true := by decide +kernel
theorem dk84 : dOK prog_1_method_16_code 2 cL84 = true := by decide +kernel
theorem dk85 : dOK prog_1_method_17_code 3 cL85 = true := by decide +kernel
theorem dk86 : dOK prog_1_method_18_code 3 cL86 = true := by decide +kernel
theorem dk87 : dOK prog_1_method_45_code 1 cL87 = true := by decide +kernel
theorem dk88 : dOK prog_1_method_46_code 5 cL88 = true := by decide +kernel
theorem dk89 : dOK prog_8_method_14_code 2 cL89 = true := by decide +kernel
theorem dk90 : dOK prog_1_method_44_code 1 cL90 = true := by decide +kernel
theorem dk91 : dOK prog_1_method_47_code 1 cL91 = true := by decide +kernel
theorem dk92 : dOK prog_8_method_20_code 3 cL92 = true := by decide +kernel
theorem dk93 : dOK prog_1_method_19_code 2 cL93 = true := by decide +kernel
theorem dk94 : dOK prog_1_method_20_code 4 cL94 = true := by decide +kernel
theorem dk95 : dOK prog_1_method_21_code 3 cL95 = true := by decide +kernel
theorem dk96 : dOK prog_4_method_2_code 3 cL96 = true := by decide +kernel
theorem dk97 : dOK prog_4_method_4_code 3 cL97 = true := by decide +kernel
theorem dk98 : dOK prog_8_method_6_code 1 cL98 = true := by decide +kernel
theorem dk99 : dOK prog_12_method_49_code 1 cL99 = true := by decide +kernel
theorem dk100_0 : dOK prog_4_method_6_code 6 cL100_0 = true := by decide +kernel
theorem dk100_1 : dOK prog_4_method_6_code 6 cL100_1 = true := by decide +kernel
theorem dk100 : dOK prog_4_method_6_code 6 cL100 = true := dOK_app dk100_0 (dk100_1)
end
section
/-! TABLES: every instruction stands where the listing says (written by a program) -/
theorem dk101 : dOK prog_4_method_9_code 3 cL101 = true := by decide +kernel
theorem dk102 : dOK prog_4_method_10_code 4 cL102 = true := by decide +kernel
theorem dk103 : dOK prog_4_method_8_code 4 cL103 = true := by decide +kernel
theorem dk104_0 : dOK prog_4_method_7_code 13 cL104_0 = true := by decide +kernel
theorem dk104_1 : dOK prog_4_method_7_code 13 cL104_1 = true := by decide +kernel
theorem dk104 : dOK prog_4_method_7_code 13 cL104 = true := dOK_app dk104_0 (dk104_1)
theorem dk105 : dOK prog_2_method_16_code 4 cL105 = true := by decide +kernel
theorem dk106 : dOK prog_4_method_5_code 2 cL106 = true := by decide +kernel
theorem dk107 : dOK prog_1_method_22_code 3 cL107 = true := by decide +kernel
theorem dk108 : dOK prog_4_method_3_code 3 cL108 = true := by decide +kernel
theorem dk109 : dOK prog_1_method_23_code 5 cL109 = true := by decide +kernel
theorem dk110 : dOK prog_2_method_9_code 3 cL110 = true := by decide +kernel
theorem dk111 : dOK prog_1_method_24_code 5 cL111 = true := by decide +kernel
theorem dk112 : dOK prog_7_method_5_code 4 cL112 = true := by decide +kernel
theorem dk113 : dOK prog_1_method_25_code 3 cL113 = true := by decide +kernel
theorem dk114_0 : dOK prog_1_method_26_code 4 cL114_0 = true := by decide +kernel
theorem dk114_1 : dOK prog_1_method_26_code 4 cL114_1 = true := by decide +kernel
theorem dk114 : dOK prog_1_method_26_code 4 cL114 = true := dOK_app dk114_0 (dk114_1)
theorem dk115 : dOK prog_8_method_9_code 3 cL115 = true := by decide +kernel
theorem dk116 : dOK prog_7_method_6_code 4 cL116 = true := by decide +kernel
theorem dk117 : dOK prog_1_method_27_code 3 cL117 = true := by decide +kernel
theorem dk118 : dOK prog_1_method_28_code 2 cL118 = true := by decide +kernel
theorem dk119 : dOK prog_1_method_48_code 4 cL119 = true := by decide +kernel
theorem dk120_0 : dOK prog_1_method_49_code 3 cL120_0 = true := by decide +kernel
theorem dk120_1 : dOK prog_1_method_49_code 3 cL120_1 = true := by decide +kernel
theorem dk120 : dOK prog_1_method_49_code 3 cL120 = true := dOK_app dk120_0 (dk120_1)
theorem dk121_0 : dOK prog_1_method_29_code 10 cL121_0 = true := by decide +kernel
theorem dk121_1 : dOK prog_1_method_29_code 10 cL121_1 = true := by decide +kernel
theorem dk121 : dOK prog_1_method_29_code 10 cL121 = true := dOK_app dk121_0 (dk121_1)
theorem dk122 : dOK prog_7_method_7_code 3 cL122 = true := by decide +kernel
theorem dk123 : dOK prog_1_method_51_code 6 cL123 = true := by decide +kernel
theorem dk124 : dOK prog_1_method_50_code 5 cL124 = true := by decide +kernel
theorem dk125 : dOK prog_1_method_52_code 4 cL125 = true := by decide +kernel
theorem dk126 : dOK prog_1_method_53_code 12 cL126 = true := by decide +kernel
theorem dk127_0 : dOK prog_1_method_30_code 9 cL127_0 = true := by decide +kernel
theorem dk127_1 : dOK prog_1_method_30_code 9 cL127_1 = true := by decide +kernel
theorem dk127 : dOK prog_1_method_30_code 9 cL127 = true := dOK_app dk127_0 (dk127_1)
theorem dk128_0 : dOK prog_1_method_31_code 6 cL128_0 = true := by decide +kernel
theorem dk128_1 : dOK prog_1_method_31_code 6 cL128_1 = true := by decide +kernel
theorem dk128 : dOK prog_1_method_31_code 6 cL128 = true := dOK_app dk128_0 (dk128_1)
theorem dk129 : dOK prog_8_method_15_code 3 cL129 = true := by decide +kernel
theorem dk130 : dOK prog_1_method_32_code 3 cL130 = true := by decide +kernel
theorem dk131 : dOK prog_1_method_33_code 2 cL131 = true := by decide +kernel
theorem dk132 : dOK prog_1_method_34_code 4 cL132 = true := by decide +kernel
theorem dk133 : dOK prog_1_method_40_code 1 cL133 = true := by decide +kernel
theorem dk134 : dOK prog_1_method_41_code 1 cL134 = true := by decide +kernel
theorem dk135 : dOK prog_5_method_2_code 4 cL135 = true := by decide +kernel
theorem dk136 : dOK prog_1_method_35_code 6 cL136 = true := by decide +kernel
theorem dk137 : dOK prog_5_method_3_code 3 cL137 = true := by decide +kernel
theorem dk138 : dOK prog_5_method_5_code 3 cL138 = true := by decide +kernel
theorem dk139_0 : dOK prog_1_method_36_code 10 cL139_0 = true := by decide +kernel
theorem dk139_1 : dOK prog_1_method_36_code 10 cL139_1 = true := by decide +kernel
theorem dk139 : dOK prog_1_method_36_code 10 cL139 = true := dOK_app dk139_0 (dk139_1)
end
section
/-! TABLES: every instruction stands where the listing says (written by a program) -/
theorem dk140 : dOK prog_5_method_4_code 4 cL140 = true := by decide +kernel
theorem dk141 : dOK prog_5_method_6_code 2 cL141 = true := by decide +kernel
theorem dk142 : dOK prog_1_method_37_code 1 cL142 = true := by decide +kernel
theorem dk143 : dOK prog_1_method_38_code 2 cL143 = true := by decide +kernel
theorem dk144_0 : dOK prog_11_method_1_code 2 cL144_0 = true := by decide +kernel
theorem dk144_1 : dOK prog_11_method_1_code 2 cL144_1 = true := by decide +kernel
theorem dk144 : dOK prog_11_method_1_code 2 cL144 = true := dOK_app dk144_0 (dk144_1)
theorem dk145 : dOK prog_11_method_5_code 2 cL145 = true := by decide +kernel
theorem dk146_0 : dOK prog_11_method_6_code 2 cL146_0 = true := by decide +kernel
theorem dk146_1 : dOK prog_11_method_6_code 2 cL146_1 = true := by decide +kernel
theorem dk146 : dOK prog_11_method_6_code 2 cL146 = true := dOK_app dk146_0 (dk146_1)
theorem dk147 : dOK prog_11_method_7_code 2 cL147 = true := by decide +kernel
theorem dk148 : dOK prog_11_method_3_code 6 cL148 = true := by decide +kernel
theorem dk149 : dOK prog_11_method_8_code 3 cL149 = true := by decide +kernel
theorem dk150_0 : dOK prog_11_method_24_code 2 cL150_0 = true := by decide +kernel
theorem dk150_1 : dOK prog_11_method_24_code 2 cL150_1 = true := by decide +kernel
theorem dk150 : dOK prog_11_method_24_code 2 cL150 = true := dOK_app dk150_0 (dk150_1)
theorem dk151_0 : dOK prog_11_method_14_code 2 cL151_0 = true := by decide +kernel
theorem dk151_1 : dOK prog_11_method_14_code 2 cL151_1 = true := by decide +kernel
theorem dk151_2 : dOK prog_11_method_14_code 2 cL151_2 = true := by decide +kernel
theorem dk151 : dOK prog_11_method_14_code 2 cL151 = true := dOK_app dk151_0 (dOK_app dk151_1 (dk151_2))
theorem dk152 : dOK prog_11_method_10_code 2 cL152 = true := by decide +kernel
theorem dk153 : dOK prog_11_method_9_code 3 cL153 = true := by decide +kernel
theorem dk154_0 : dOK prog_11_method_23_code 2 cL154_0 = true := by decide +kernel
theorem dk154_1 : dOK prog_11_method_23_code 2 cL154_1 = true := by decide +kernel
theorem dk154 : dOK prog_11_method_23_code 2 cL154 = true := dOK_app dk154_0 (dk154_1)
theorem dk155_0 : dOK prog_11_method_13_code 1 cL155_0 = true := by decide +kernel
theorem dk155_1 : dOK prog_11_method_13_code 1 cL155_1 = true := by decide +kernel
theorem dk155 : dOK prog_11_method_13_code 1 cL155 = true := dOK_app dk155_0 (dk155_1)
theorem dk156 : dOK prog_11_method_11_code 5 cL156 = true := by decide +kernel
theorem dk157 : dOK prog_11_method_12_code 4 cL157 = true := by decide +kernel
theorem dk158 : dOK prog_11_method_22_code 2 cL158 = true := by decide +kernel
theorem dk159_0 : dOK prog_11_method_18_code 3 cL159_0 = true := by decide +kernel
theorem dk159_1 : dOK prog_11_method_18_code 3 cL159_1 = true := by decide +kernel
theorem dk159 : dOK prog_11_method_18_code 3 cL159 = true := dOK_app dk159_0 (dk159_1)
theorem dk160 : dOK prog_11_method_16_code 4 cL160 = true := by decide +kernel
theorem dk161 : dOK prog_11_method_15_code 3 cL161 = true := by decide +kernel
theorem dk162_0 : dOK prog_11_method_19_code 3 cL162_0 = true := by decide +kernel
theorem dk162_1 : dOK prog_11_method_19_code 3 cL162_1 = true := by decide +kernel
theorem dk162 : dOK prog_11_method_19_code 3 cL162 = true := dOK_app dk162_0 (dk162_1)
theorem dk163_0 : dOK prog_11_method_21_code 1 cL163_0 = true := by decide +kernel
theorem dk163_1 : dOK prog_11_method_21_code 1 cL163_1 = true := by decide +kernel
theorem dk163 : dOK prog_11_method_21_code 1 cL163 = true := dOK_app dk163_0 (dk163_1)
theorem dk164 : dOK prog_11_method_20_code 1 cL164 = true := by decide +kernel
theorem dk165 : dOK prog_11_method_17_code 3 cL165 = true := by decide +kernel
theorem dk166 : dOK prog_11_method_25_code 1 cL166 = true := by decide +kernel
theorem dk167_0 : dOK prog_11_method_50_code 5 cL167_0 = true := by decide +kernel
theorem dk167_1 : dOK prog_11_method_50_code 5 cL167_1 = true := by decide +kernel
theorem dk167 : dOK prog_11_method_50_code 5 cL167 = true := dOK_app dk167_0 (dk167_1)
theorem dk168 : dOK prog_11_method_30_code 2 cL168 = true := by decide +kernel
theorem dk169 : dOK prog_11_method_33_code 3 cL169 = true := by decide +kernel
end
section
/-! TABLES: every instruction stands where the listing says (written by a program) -/
theorem dk170 : dOK prog_11_method_32_code 3 cL170 = true := by decide +kernel
theorem dk171 : dOK prog_11_method_47_code 3 cL171 = true := by decide +kernel
theorem dk172 : dOK prog_11_method_46_code 2 cL172 = true := by decide +kernel
theorem dk173 : dOK prog_11_method_36_code 2 cL173 = true := by decide +kernel
theorem dk174 : dOK prog_11_method_35_code 3 cL174 = true := by decide +kernel
theorem dk175 : dOK prog_11_method_4_code 1 cL175 = true := by decide +kernel
theorem dk176 : dOK prog_11_method_51_code 3 cL176 = true := by decide +kernel
theorem dk177 : dOK prog_11_method_26_code 2 cL177 = true := by decide +kernel
theorem dk178 : dOK prog_11_method_39_code 2 cL178 = true := by decide +kernel
theorem dk179 : dOK prog_11_method_38_code 2 cL179 = true := by decide +kernel
theorem dk180_0 : dOK prog_11_method_52_code 3 cL180_0 = true := by decide +kernel
theorem dk180_1 : dOK prog_11_method_52_code 3 cL180_1 = true := by decide +kernel
theorem dk180 : dOK prog_11_method_52_code 3 cL180 = true := dOK_app dk180_0 (dk180_1)
theorem dk181 : dOK prog_11_method_27_code 2 cL181 = true := by decide +kernel
theorem dk182 : dOK prog_11_method_53_code 2 cL182 = true := by decide +kernel
theorem dk183 : dOK prog_11_method_55_code 3 cL183 = true := by decide +kernel
theorem dk184 : dOK prog_11_method_37_code 5 cL184 = true := by decide +kernel
theorem dk185 : dOK prog_11_method_56_code 4 cL185 = true := by decide +kernel
theorem dk186 : dOK prog_11_method_40_code 4 cL186 = true := by decide +kernel
theorem dk187_0 : dOK prog_11_method_41_code 7 cL187_0 = true := by decide +kernel
theorem dk187_1 : dOK prog_11_method_41_code 7 cL187_1 = true := by decide +kernel
theorem dk187_2 : dOK prog_11_method_41_code 7 cL187_2 = true := by decide +kernel
theorem dk187 : dOK prog_11_method_41_code 7 cL187 = true := dOK_app dk187_0 (dOK_app dk187_1 (dk187_2))
theorem dk188 : dOK prog_11_method_34_code 4 cL188 = true := by decide +kernel
theorem dk189 : dOK prog_11_method_31_code 2 cL189 = true := by decide +kernel
theorem dk190 : dOK prog_11_method_57_code 2 cL190 = true := by decide +kernel
theorem dk191 : dOK prog_11_method_43_code 3 cL191 = true := by decide +kernel
theorem dk192_0 : dOK prog_11_method_42_code 6 cL192_0 = true := by decide +kernel
theorem dk192_1 : dOK prog_11_method_42_code 6 cL192_1 = true := by decide +kernel
theorem dk192 : dOK prog_11_method_42_code 6 cL192 = true := dOK_app dk192_0 (dk192_1)
theorem dk193 : dOK prog_11_method_48_code 3 cL193 = true := by decide +kernel
theorem dk194 : dOK prog_11_method_58_code 2 cL194 = true := by decide +kernel
theorem dk195 : dOK prog_11_method_60_code 4 cL195 = true := by decide +kernel
theorem dk196 : dOK prog_11_method_59_code 1 cL196 = true := by decide +kernel
theorem dk197 : dOK prog_11_method_54_code 4 cL197 = true := by decide +kernel
theorem dk198 : dOK prog_11_method_61_code 6 cL198 = true := by decide +kernel
theorem dk199 : dOK prog_11_method_62_code 2 cL199 = true := by decide +kernel
theorem dk200 : dOK prog_11_method_29_code 2 cL200 = true := by decide +kernel
theorem dk201 : dOK prog_11_method_63_code 2 cL201 = true := by decide +kernel
theorem dk202_0 : dOK prog_11_method_64_code 5 cL202_0 = true := by decide +kernel
theorem dk202_1 : dOK prog_11_method_64_code 5 cL202_1 = true := by decide +kernel
theorem dk202 : dOK prog_11_method_64_code 5 cL202 = true := dOK_app dk202_0 (dk202_1)
theorem dk203 : dOK prog_11_method_44_code 2 cL203 = true := by decide +kernel
theorem dk204 : dOK prog_11_method_65_code 2 cL204 = true := by decide +kernel
theorem dk205 : dOK prog_11_method_45_code 2 cL205 = true := by decide +kernel
theorem dk206 : dOK prog_11_method_66_code 4 cL206 = true := by decide +kernel
theorem dk207_0 : dOK prog_11_method_72_code 10 cL207_0 = true := by decide +kernel
theorem dk207_1 : dOK prog_11_method_72_code 10 cL207_1 = true := by decide +kernel
theorem dk207_2 : dOK prog_11_method_72_code 10 cL207_2 = true := by decide +kernel
theorem dk207 : dOK prog_11_method_72_code 10 cL207 = true := dOK_app dk207_0 (dOK_app dk207_1 (dk207_2))
theorem dk208 : dOK prog_11_method_28_code 1 cL208 = true := by decide +kernel
theorem dk209 : dOK prog_11_method_67_code 1 cL209 = true := by decide +kernel
theorem dk210 : dOK prog_11_method_69_code 4 cL210 = true := by decide +kernel
theorem dk211 : dOK prog_11_method_71_code 5 cL211 = true := by decide +kernel
end
section
/-! TABLES: every instruction stands where the listing says (written by a program) -/
theorem dk212 : dOK prog_11_method_68_code 2 cL212 = true := by decide +kernel
theorem dk213 : dOK prog_11_method_49_code 3 cL213 = true := by decide +kernel
theorem dk214 : dOK prog_11_method_70_code 4 cL214 = true := by decide +kernel
theorem dk215_0 : dOK prog_11_method_73_code 4 cL215_0 = true := by decide +kernel
theorem dk215_1 : dOK prog_11_method_73_code 4 cL215_1 = true := by decide +kernel
theorem dk215 : dOK prog_11_method_73_code 4 cL215 = true := dOK_app dk215_0 (dk215_1)
theorem dk216_0 : dOK prog_11_method_74_code 6 cL216_0 = true := by decide +kernel
theorem dk216_1 : dOK prog_11_method_74_code 6 cL216_1 = true := by decide +kernel
theorem dk216 : dOK prog_11_method_74_code 6 cL216 = true := dOK_app dk216_0 (dk216_1)
theorem dk217_0 : dOK prog_11_method_75_code 5 cL217_0 = true := by decide +kernel
theorem dk217_1 : dOK prog_11_method_75_code 5 cL217_1 = true := by decide +kernel
theorem dk217 : dOK prog_11_method_75_code 5 cL217 = true := dOK_app dk217_0 (dk217_1)
theorem dk218 : dOK prog_11_method_76_code 2 cL218 = true := by decide +kernel
theorem dk219 : dOK prog_11_method_78_code 4 cL219 = true := by decide +kernel
theorem dk220_0 : dOK prog_11_method_77_code 6 cL220_0 = true := by decide +kernel
theorem dk220_1 : dOK prog_11_method_77_code 6 cL220_1 = true := by decide +kernel
theorem dk220 : dOK prog_11_method_77_code 6 cL220 = true := dOK_app dk220_0 (dk220_1)
theorem dk221_0 : dOK prog_11_method_79_code 4 cL221_0 = true := by decide +kernel
theorem dk221_1 : dOK prog_11_method_79_code 4 cL221_1 = true := by decide +kernel
theorem dk221 : dOK prog_11_method_79_code 4 cL221 = true := dOK_app dk221_0 (dk221_1)
theorem dk222_0 : dOK prog_11_method_81_code 8 cL222_0 = true := by decide +kernel
theorem dk222_1 : dOK prog_11_method_81_code 8 cL222_1 = true := by decide +kernel
theorem dk222 : dOK prog_11_method_81_code 8 cL222 = true := dOK_app dk222_0 (dk222_1)
theorem dk223 : dOK prog_11_method_80_code 6 cL223 = true := by decide +kernel
theorem dk224 : dOK prog_11_method_85_code 4 cL224 = true := by decide +kernel
theorem dk225_0 : dOK prog_11_method_84_code 10 cL225_0 = true := by decide +kernel
theorem dk225_1 : dOK prog_11_method_84_code 10 cL225_1 = true := by decide +kernel
theorem dk225_2 : dOK prog_11_method_84_code 10 cL225_2 = true := by decide +kernel
theorem dk225 : dOK prog_11_method_84_code 10 cL225 = true := dOK_app dk225_0 (dOK_app dk225_1 (dk225_2))
theorem dk226 : dOK prog_11_method_83_code 7 cL226 = true := by decide +kernel
theorem dk227 : dOK prog_11_method_82_code 10 cL227 = true := by decide +kernel
theorem dk228 : dOK prog_11_method_86_code 3 cL228 = true := by decide +kernel
theorem dk229_0 : dOK prog_11_method_87_code 8 cL229_0 = true := by decide +kernel
theorem dk229_1 : dOK prog_11_method_87_code 8 cL229_1 = true := by decide +kernel
theorem dk229 : dOK prog_11_method_87_code 8 cL229 = true := dOK_app dk229_0 (dk229_1)
theorem dk230 : dOK prog_11_method_89_code 3 cL230 = true := by decide +kernel
theorem dk231 : dOK prog_11_method_88_code 4 cL231 = true := by decide +kernel
theorem dk232 : dOK prog_11_method_90_code 2 cL232 = true := by decide +kernel
theorem dk233 : dOK prog_11_method_92_code 5 cL233 = true := by decide +kernel
theorem dk234 : dOK prog_11_method_91_code 2 cL234 = true := by decide +kernel
theorem dk235_0 : dOK prog_11_method_93_code 4 cL235_0 = true := by decide +kernel
theorem dk235_1 : dOK prog_11_method_93_code 4 cL235_1 = true := by decide +kernel
theorem dk235 : dOK prog_11_method_93_code 4 cL235 = true := dOK_app dk235_0 (dk235_1)
theorem dk236_0 : dOK prog_11_method_94_code 11 cL236_0 = true := by decide +kernel
theorem dk236_1 : dOK prog_11_method_94_code 11 cL236_1 = true := by decide +kernel
theorem dk236_2 : dOK prog_11_method_94_code 11 cL236_2 = true := by decide +kernel
theorem dk236 : dOK prog_11_method_94_code 11 cL236 = true := dOK_app dk236_0 (dOK_app dk236_1 (dk236_2))
theorem dk237 : dOK prog_11_method_95_code 1 cL237 = true := by decide +kernel
theorem dk238 : dOK prog_11_method_96_code 2 cL238 = true := by decide +kernel
end
section
/-! TABLES: the links (written by a program) -/
/-- of each method: 0 static, 1 virtual, 2 a constructor; where its words stand: code, static or instanceMethod, selects, initialized; how many parameters -/
def tKd : List (Nat × Nat × Nat × Nat × Nat × Nat) := [(0, 0, 0, 0, 0, 0), (2, 93, 92, 0, 73, 0), (2, 101, 100, 0, 74, 0), (2, 107, 106, 0, 75, 0), (2, 113, 112, 0, 76, 0), (2, 120, 119, 0, 77, 0), (2, 149, 148, 0, 78, 0), (2, 236, 235, 0, 79, 0), (2, 290, 289, 0, 80, 0), (2, 324, 323, 0, 81, 0), (1, 381, 379, 380, 73, 1), (1, 385, 383, 384, 79, 1), (1, 389, 387, 388, 73, 1), (1, 393, 391, 392, 73, 0), (1, 397, 395, 396, 74, 0), (1, 401, 399, 400, 75, 0), (1, 405, 403, 404, 76, 0), (1, 409, 407, 408, 78, 0), (1, 413, 411, 412, 79, 0), (1, 417, 415, 416, 79, 0), (1, 421, 420, 0, 79, 2), (1, 425, 424, 1, 79, 0), (1, 429, 428, 2, 74, 0), (1, 433, 432, 3, 74, 1), (1, 437, 436, 4, 74, 1), (1, 442, 440, 441, 79, 1), (1, 446, 444, 445, 83, 0), (1, 450, 448, 449, 83, 0), (1, 456, 454, 455, 83, 1), (1, 460, 458, 459, 83, 0), (0, 463, 462, 0, 84, 2), (0, 466, 465, 0, 83, 2), (0, 471, 470, 0, 85, 3), (1, 494, 493, 5, 74, 0), (1, 499, 498, 6, 74, 1), (1, 503, 501, 502, 78, 1), (1, 507, 506, 7, 74, 0), (1, 512, 511, 8, 74, 0), (1, 516, 514, 515, 78, 1), (1, 520, 518, 519, 78, 2), (1, 525, 524, 9, 74, 0), (0, 528, 527, 0, 73, 1), (0, 531, 530, 0, 73, 1), (1, 535, 533, 534, 75, 1), (1, 539, 538, 10, 74, 0), (1, 547, 546, 11, 74, 1), (1, 551, 549, 550, 76, 3), (1, 555, 553, 554, 75, 0), (1, 559, 557, 558, 76, 1), (1, 564, 562, 563, 76, 1), (1, 568, 566, 567, 76, 1), (1, 572, 570, 571, 75, 1), (1, 576, 574, 575, 76, 1), (1, 580, 578, 579, 77, 1), (1, 584, 582, 583, 78, 1), (1, 589, 587, 588, 73, 0), (1, 593, 591, 592, 73, 1), (1, 597, 595, 596, 76, 0), (1, 601, 599, 600, 76, 0), (1, 605, 603, 604, 78, 0), (1, 609, 607, 608, 78, 0), (1, 614, 612, 613, 76, 0), (1, 618, 616, 617, 73, 2), (1, 623, 621, 622, 76, 1), (1, 627, 625, 626, 73, 2), (1, 632, 630, 631, 78, 1), (1, 637, 635, 636, 73, 1), (1, 641, 639, 640, 73, 2), (1, 645, 643, 644, 76, 2), (1, 649, 647, 648, 73, 2), (1, 653, 651, 652, 76, 2), (1, 658, 656, 657, 78, 0), (1, 663, 661, 662, 77, 1), (0, 666, 665, 0, 73, 1), (1, 671, 669, 670, 78, 1), (1, 676, 674, 675, 73, 1), (1, 680, 678, 679, 76, 1), (1, 684, 682, 683, 78, 0), (1, 688, 686, 687, 78, 0), (1, 692, 690, 691, 78, 0), (1, 696, 694, 695, 76, 0), (1, 700, 698, 699, 73, 1), (1, 705, 703, 704, 73, 3), (1, 709, 707, 708, 73, 3), (1, 715, 713, 714, 73, 1), (1, 722, 720, 721, 73, 1), (1, 726, 724, 725, 73, 1), (1, 730, 729, 12, 73, 0), (1, 735, 734, 13, 73, 2), (1, 739, 737, 738, 76, 1), (0, 744, 743, 0, 73, 1), (1, 748, 747, 14, 73, 0), (1, 752, 750, 751, 76, 0), (1, 756, 754, 755, 73, 1), (1, 760, 758, 759, 73, 1), (1, 766, 764, 765, 73, 2), (1, 770, 768, 769, 80, 2), (1, 775, 774, 15, 80, 2), (1, 780, 778, 779, 76, 0), (0, 784, 783, 0, 87, 1), (1, 791, 790, 16, 80, 3), (1, 795, 794, 17, 80, 2), (1, 799, 798, 18, 80, 2), (1, 803, 802, 19, 80, 3), (1, 810, 809, 20, 80, 5), (1, 817, 815, 816, 78, 3), (1, 821, 819, 820, 80, 1), (1, 825, 823, 824, 73, 1), (1, 829, 827, 828, 80, 2), (1, 833, 831, 832, 73, 1), (1, 837, 835, 836, 78, 1), (1, 841, 839, 840, 73, 3), (1, 845, 843, 844, 75, 3), (1, 849, 847, 848, 73, 1), (1, 853, 851, 852, 73, 1), (1, 857, 855, 856, 76, 2), (1, 861, 859, 860, 75, 1), (1, 867, 865, 866, 73, 0), (1, 871, 869, 870, 73, 1), (1, 875, 874, 21, 73, 2), (1, 879, 878, 22, 73, 1), (1, 883, 881, 882, 73, 3), (1, 888, 886, 887, 75, 0), (0, 892, 891, 0, 73, 3), (1, 896, 895, 23, 73, 1), (0, 899, 898, 0, 73, 1), (0, 903, 902, 0, 73, 3), (1, 907, 905, 906, 73, 2), (1, 911, 909, 910, 73, 3), (1, 917, 915, 916, 76, 1), (1, 922, 920, 921, 73, 1), (1, 926, 924, 925, 73, 1), (1, 930, 928, 929, 73, 3), (0, 933, 932, 0, 73, 1), (0, 936, 935, 0, 73, 1), (1, 940, 938, 939, 81, 2), (1, 944, 942, 943, 73, 3), (1, 948, 946, 947, 81, 2), (1, 952, 950, 951, 81, 2), (1, 956, 954, 955, 73, 4), (1, 960, 958, 959, 81, 2), (1, 965, 963, 964, 81, 1), (1, 969, 967, 968, 73, 0), (1, 973, 971, 972, 73, 1), (2, 978, 977, 0, 82, 0), (1, 983, 982, 24, 82, 0), (1, 987, 986, 25, 82, 0), (1, 1091, 1089, 1090, 82, 1), (0, 1095, 1094, 0, 82, 3), (1, 1099, 1097, 1098, 82, 1), (1, 1103, 1101, 1102, 82, 0), (1, 1107, 1106, 26, 82, 0), (1, 1111, 1110, 27, 82, 1), (1, 1119, 1118, 28, 82, 2), (1, 1123, 1122, 29, 82, 0), (1, 1127, 1126, 30, 82, 0), (1, 1131, 1130, 31, 82, 4), (1, 1135, 1134, 32, 82, 3), (1, 1139, 1138, 33, 82, 1), (1, 1143, 1142, 34, 82, 0), (1, 1147, 1146, 35, 82, 2), (1, 1151, 1150, 36, 82, 2), (1, 1155, 1154, 37, 82, 0), (1, 1159, 1158, 38, 82, 0), (0, 1162, 1161, 0, 82, 1), (1, 1169, 1168, 39, 82, 1), (1, 1173, 1171, 1172, 82, 0), (1, 1177, 1175, 1176, 82, 1), (1, 1181, 1180, 40, 82, 0), (1, 1185, 1184, 41, 82, 2), (1, 1189, 1188, 42, 82, 2), (1, 1193, 1192, 43, 82, 0), (1, 1197, 1196, 44, 82, 1), (1, 1201, 1200, 45, 82, 1), (1, 1205, 1204, 46, 82, 2), (0, 1208, 1207, 0, 82, 1), (1, 1212, 1210, 1211, 82, 2), (1, 1216, 1215, 47, 82, 1), (1, 1221, 1220, 48, 82, 1), (1, 1225, 1224, 49, 82, 1), (1, 1229, 1227, 1228, 82, 2), (1, 1233, 1232, 50, 82, 1), (1, 1238, 1236, 1237, 82, 1), (1, 1242, 1240, 1241, 82, 2), (1, 1246, 1245, 51, 82, 2), (1, 1250, 1248, 1249, 82, 2), (1, 1254, 1253, 52, 82, 2), (1, 1258, 1257, 53, 82, 2), (1, 1262, 1261, 54, 82, 3), (1, 1266, 1265, 55, 82, 0), (1, 1270, 1268, 1269, 82, 1), (1, 1275, 1274, 56, 82, 1), (1, 1279, 1278, 57, 82, 1), (1, 1283, 1282, 58, 82, 0), (1, 1287, 1285, 1286, 82, 1), (1, 1291, 1289, 1290, 82, 3), (0, 1294, 1293, 0, 82, 1), (1, 1298, 1297, 59, 82, 2), (1, 1302, 1300, 1301, 82, 3), (1, 1306, 1304, 1305, 82, 1), (1, 1310, 1309, 60, 82, 1), (1, 1314, 1312, 1313, 82, 1), (1, 1318, 1316, 1317, 82, 1), (1, 1322, 1321, 61, 82, 1), (1, 1326, 1324, 1325, 82, 1), (1, 1330, 1329, 62, 82, 0), (1, 1334, 1332, 1333, 82, 1), (1, 1338, 1336, 1337, 82, 2), (0, 1341, 1340, 0, 82, 1), (1, 1345, 1344, 63, 82, 0), (1, 1350, 1349, 64, 82, 1), (1, 1354, 1353, 65, 82, 2), (1, 1358, 1357, 66, 82, 1), (0, 1361, 1360, 0, 82, 1), (1, 1365, 1364, 67, 82, 3), (1, 1369, 1367, 1368, 82, 1), (1, 1373, 1371, 1372, 82, 1), (1, 1377, 1375, 1376, 82, 3), (1, 1381, 1379, 1380, 82, 1), (1, 1385, 1383, 1384, 82, 1), (1, 1389, 1388, 68, 82, 0), (1, 1393, 1391, 1392, 82, 0), (1, 1397, 1395, 1396, 82, 1), (1, 1401, 1400, 69, 82, 1), (1, 1405, 1403, 1404, 82, 3), (1, 1411, 1410, 70, 82, 2), (0, 1414, 1413, 0, 82, 3), (0, 1417, 1416, 0, 82, 2), (1, 1421, 1419, 1420, 82, 2), (1, 1425, 1423, 1424, 82, 3), (1, 1431, 1429, 1430, 82, 1), (1, 1435, 1434, 71, 82, 2), (1, 1439, 1437, 1438, 82, 1), (1, 1443, 1441, 1442, 82, 3), (0, 1446, 1445, 0, 82, 2), (1, 1450, 1448, 1449, 82, 3), (1, 1454, 1452, 1453, 82, 4), (1, 1460, 1458, 1459, 82, 0), (1, 1464, 1462, 1463, 82, 1)]
def cK0_0 : List Nat := [89, 0, 91, 0, 974, 0, 976, 0, 0, 0, 0, 0, 0, 0, 0, 0, 0, 0, 0, 0, 0, 0, 0, 0, 0, 0, 0, 0, 378, 0, 0, 0, 0, 0, 0, 0, 1088, 0, 0, 0, 0, 0, 0, 0, 0, 386, 0, 0, 0, 0]
def cK0_1 : List Nat := [0, 0, 0, 1096, 0, 0, 0, 390, 0, 0, 1100, 0, 0, 0, 586, 0, 0, 1170, 0, 0, 0, 0, 0, 0, 0, 0, 590, 0, 0, 0, 0, 0, 0, 0, 1174, 0, 0, 0, 0, 0, 0, 0, 0, 0, 0, 0, 0, 0, 615, 0]
def cK0_2 : List Nat := [0, 0, 0, 0, 0, 0, 0, 0, 0, 0, 0, 1209, 0, 0, 0, 0, 0, 0, 0, 0, 0, 0, 0, 0, 0, 624, 0, 0, 0, 0, 0, 0, 0, 0, 0, 0, 0, 0, 1226, 0, 0, 0, 0, 0, 0, 0, 0, 634, 0, 0]
def cK0_3 : List Nat := [0, 0, 0, 0, 0, 1235, 0, 0, 0, 0, 0, 0, 0, 0, 0, 0, 0, 0, 0, 638, 0, 0, 0, 0, 0, 0, 0, 0, 0, 0, 0, 0, 1239, 0, 0, 0, 0, 0, 0, 0, 0, 0, 0, 0, 0, 0, 646, 0, 0, 0]
def cK0_4 : List Nat := [0, 0, 0, 0, 0, 0, 0, 0, 0, 1247, 0, 0, 0, 0, 0, 0, 0, 0, 673, 0, 0, 0, 0, 0, 0, 0, 1267, 0, 0, 0, 0, 0, 0, 0, 0, 697, 0, 0, 0, 0, 0, 0, 0, 1284, 0, 0, 0, 0, 0, 0]
def cK0_5 : List Nat := [0, 0, 0, 0, 0, 0, 0, 0, 0, 0, 0, 0, 702, 0, 0, 0, 0, 0, 0, 0, 0, 0, 0, 0, 0, 0, 0, 0, 0, 0, 1288, 0, 0, 0, 0, 0, 0, 0, 0, 0, 0, 0, 0, 0, 0, 0, 0, 0, 0, 0]
def cK0_6 : List Nat := [0, 0, 0, 706, 0, 0, 0, 0, 0, 0, 0, 0, 0, 0, 0, 0, 0, 0, 0, 0, 0, 0, 0, 0, 0, 1299, 0, 0, 0, 0, 0, 0, 0, 0, 712, 0, 0, 0, 0, 0, 0, 0, 1303, 0, 0, 0, 0, 0, 0, 0]
def cK0_7 : List Nat := [0, 719, 0, 0, 0, 0, 0, 0, 0, 1311, 0, 0, 0, 0, 0, 0, 0, 0, 723, 0, 0, 0, 0, 0, 0, 0, 1315, 0, 0, 0, 0, 0, 0, 0, 0, 753, 0, 0, 0, 0, 0, 0, 0, 1323, 0, 0, 0, 0, 0, 0]
def cK0_8 : List Nat := [0, 0, 757, 0, 0, 0, 0, 0, 0, 0, 1331, 0, 0, 0, 0, 0, 0, 0, 0, 0, 0, 0, 0, 0, 763, 0, 0, 0, 0, 0, 0, 0, 0, 0, 0, 0, 0, 1335, 0, 0, 0, 0, 0, 0, 0, 0, 822, 0, 0, 0]
def cK0_9 : List Nat := [0, 0, 0, 0, 1366, 0, 0, 0, 0, 0, 0, 0, 0, 830, 0, 0, 0, 0, 0, 0, 0, 1370, 0, 0, 0, 0, 0, 0, 0, 0, 0, 0, 0, 0, 0, 0, 0, 0, 0, 0, 838, 0, 0, 0, 0, 0, 0, 0, 0, 0]
def cK0_10 : List Nat := [0, 0, 0, 0, 0, 0, 0, 0, 1374, 0, 0, 0, 0, 0, 0, 0, 0, 846, 0, 0, 0, 0, 0, 0, 0, 1378, 0, 0, 0, 0, 0, 0, 0, 0, 850, 0, 0, 0, 0, 0, 0, 0, 1382, 0, 0, 0, 864, 0, 0, 1390]
def cK0_11 : List Nat := [0, 0, 0, 0, 0, 0, 0, 0, 868, 0, 0, 0, 0, 0, 0, 0, 1394, 0, 0, 0, 0, 0, 0, 0, 0, 0, 0, 0, 0, 0, 0, 0, 0, 0, 0, 880, 0, 0, 0, 0, 0, 0, 0, 0, 0, 0, 0, 0, 0, 0]
def cK0_12 : List Nat := [0, 0, 0, 1402, 0, 0, 0, 0, 0, 0, 0, 0, 0, 0, 0, 0, 0, 904, 0, 0, 0, 0, 0, 0, 0, 0, 0, 0, 0, 0, 1418, 0, 0, 0, 0, 0, 0, 0, 0, 0, 0, 0, 0, 0, 0, 0, 0, 0, 0, 908]
def cK0_13 : List Nat := [0, 0, 0, 0, 0, 0, 0, 0, 0, 0, 0, 0, 0, 0, 0, 0, 0, 1422, 0, 0, 0, 0, 0, 0, 0, 0, 919, 0, 0, 0, 0, 0, 0, 0, 1428, 0, 0, 0, 0, 0, 0, 0, 0, 923, 0, 0, 0, 0, 0, 0]
def cK0_14 : List Nat := [0, 1436, 0, 0, 0, 0, 0, 0, 0, 0, 0, 0, 0, 0, 0, 0, 0, 0, 0, 0, 927, 0, 0, 0, 0, 0, 0, 0, 0, 0, 0, 0, 0, 0, 0, 0, 0, 1440, 0, 0, 0, 0, 0, 0, 0, 0, 0, 0, 0, 0]
def cK0_15 : List Nat := [0, 0, 0, 0, 0, 0, 0, 941, 0, 0, 0, 0, 0, 0, 0, 0, 0, 0, 0, 0, 0, 0, 0, 0, 0, 1447, 0, 0, 0, 0, 0, 0, 0, 0, 0, 0, 0, 0, 0, 0, 0, 0, 0, 0, 0, 0, 0, 0, 0, 953]
def cK0_16 : List Nat := [0, 0, 0, 0, 0, 0, 0, 0, 0, 0, 0, 0, 0, 0, 0, 0, 0, 0, 0, 0, 0, 0, 1451, 0, 0, 0, 966, 0, 0, 1457, 0, 0, 0, 0, 0, 0, 0, 0, 970, 0, 0, 0, 0, 0, 0, 0, 1461, 0, 0, 0]
def cK0_17 : List Nat := [0, 0, 0]
def cK1_0 : List Nat := [0, 94, 0, 97, 0, 99, 338, 0, 0, 338, 264, 339, 0, 281, 0, 282, 340, 0, 0, 281, 341, 0, 0, 0, 0, 0, 0, 341, 0, 281, 0, 282, 0, 0, 0, 0, 0, 0, 342, 0, 284, 0, 285, 343, 0, 286, 0, 288, 344, 0]
def cK1_1 : List Nat := [0, 0, 345, 0, 0, 319, 346, 0, 0, 0, 0, 0, 0, 346, 0, 319, 0, 322, 0, 0, 0, 0]
def cK2 : List Nat := [0, 102, 0, 103, 0, 105, 262, 0, 232, 0, 234, 265, 0]
def cK3 : List Nat := [0, 108, 0, 109, 0, 111, 205, 0, 0, 0, 208, 0, 0, 0, 212, 0, 0, 0, 213, 0, 0, 0, 214, 0]
def cK4 : List Nat := [0, 114, 0, 0, 115, 173, 0, 0, 0, 0, 0, 0, 173, 0, 115, 0, 10000, 0, 0, 0, 0, 0, 144, 176, 0, 0, 0, 0, 0, 0, 176, 0, 144, 0, 147, 0, 0, 0, 0, 0, 190, 0]
def cK5 : List Nat := [0, 121, 0]
def cK6 : List Nat := [0, 150, 0, 0, 0, 151, 0]
def cK7 : List Nat := [0, 237, 0, 0, 0, 238, 0]
def cK8 : List Nat := [0, 291, 0, 292, 0, 293, 294, 0, 0, 0, 295, 0, 0, 0, 296, 0]
def cK9 : List Nat := [0, 325, 0, 0, 0, 326, 0, 0, 329, 0]
def cK10 : List Nat := [0, 0, 0, 0, 0, 0, 0, 0, 339, 0, 382, 0, 0, 339, 240, 0, 0, 0]
def cK11 : List Nat := [0, 239, 0, 0, 0, 0, 0, 238, 0, 239, 0, 0, 0, 0, 239, 0, 0, 239, 0, 0]
def cK12 : List Nat := [0, 0, 0, 0, 339, 240, 0, 0, 0, 0, 339, 240, 0, 0, 339, 0, 240, 0, 0]
def cK13 : List Nat := [0, 338, 394, 0, 0, 339, 0, 240, 0, 0, 338, 267, 347, 0, 347, 0, 0, 340, 0, 338, 263, 569, 0, 0, 0, 0, 0, 0, 342, 0, 0, 0, 0, 0, 0, 0]
def cK14_0 : List Nat := [0, 0, 266, 0, 0, 269, 0, 262, 398, 0, 265, 410, 0, 0, 0, 0, 0, 0, 266, 0, 0, 265, 242, 0, 0, 426, 0, 0, 0, 266, 0, 0, 262, 552, 0, 0, 0, 266, 0, 0, 265, 241, 268, 0, 266, 0, 0, 0, 0, 0]
def cK14_1 : List Nat := [268, 0, 0]
def cK15 : List Nat := [0, 205, 402, 0, 0, 210, 0, 0, 215, 0]
def cK16 : List Nat := [0, 0, 181, 0, 0, 185, 0, 0, 0, 0, 0, 0, 176, 0, 0, 406, 0, 0, 0]
def cK17 : List Nat := [0, 0, 152, 0, 0, 156, 0, 0, 159, 0]
def cK18 : List Nat := [0, 0, 246, 0, 414, 0]
def cK19_0 : List Nat := [0, 246, 0, 239, 0, 0, 238, 0, 246, 0, 0, 0, 0, 0, 246, 0, 0, 246, 0, 0, 0, 246, 244, 0, 246, 0, 239, 0, 0, 0, 243, 0, 0, 0, 0, 418, 0, 0, 0, 243, 0, 0, 0, 0, 418, 0, 0, 422, 0, 0]
def cK19_1 : List Nat := [0, 238, 0, 246, 0, 0, 0, 0, 0, 0, 243, 0, 0, 246, 0, 0, 246, 0]
def cK20 : List Nat := [0, 246, 0, 239, 0, 0, 238, 0, 246, 0, 0, 0, 0, 238, 0, 246, 0, 0, 0, 0, 0, 246, 0, 0, 246, 0, 0, 246, 0, 244, 0, 0, 0, 0, 0]
def cK21 : List Nat := [0, 0, 246, 0, 244, 0, 0, 0, 0, 0, 0, 243, 0, 0, 248, 0, 244, 0, 0, 0, 246, 0, 0, 243, 0, 0, 0, 0, 248, 0, 0, 0, 238, 0, 0, 0, 0, 0, 248, 0, 0, 0]
def cK22 : List Nat := [0, 0, 430, 0, 0, 0, 265, 20000, 439, 0, 0, 491, 0, 0, 265, 20001, 439, 0, 0, 509, 0, 0, 265, 20002, 439, 0, 0, 522, 0, 0, 0, 536, 544, 0]
def cK23 : List Nat := [0, 265, 242, 0, 0, 0, 0, 0, 0, 265, 242, 0, 0, 0, 0, 0, 434, 0, 0]
def cK24 : List Nat := [0, 0, 266, 0, 0, 265, 245, 268, 0]
def cK25 : List Nat := [0, 243, 0, 0, 0, 246, 0, 244, 0, 0, 443, 0, 0, 0, 0, 0, 0, 0, 443, 0, 0, 238, 0, 244, 0, 0, 0, 0, 0, 453, 0, 0, 0, 0, 0, 0, 0]
def cK26 : List Nat := [0, 1465, 0, 0, 447, 0, 0]
def cK27 : List Nat := [451, 0, 0, 1466, 0, 0, 0]
def cK28 : List Nat := [0, 457, 0, 0, 1465, 0, 461, 0, 0, 1465, 0, 0]
def cK29 : List Nat := [451, 0, 0, 1466, 0, 0, 0, 0, 0]
def cK30 : List Nat := [0, 0, 0, 464, 0, 0, 0, 0, 0, 0, 0]
def cK31 : List Nat := [0, 0, 467, 469, 0, 0]
def cK32 : List Nat := [0, 0, 0, 0, 0, 0, 0, 0, 0, 0]
def cK33_0 : List Nat := [0, 262, 206, 186, 0, 0, 0, 0, 434, 0, 0, 262, 206, 178, 0, 262, 206, 186, 0, 0, 0, 262, 206, 0, 186, 0, 0, 186, 0, 265, 495, 0, 0, 0, 0, 0, 0, 265, 242, 0, 0, 0, 0, 496, 0, 0, 0, 0, 265, 247]
def cK33_1 : List Nat := [500, 0, 0, 0, 434, 0, 0, 265, 495, 0, 0, 0, 504, 0]
def cK34 : List Nat := [0, 0, 430, 0, 0, 0, 0, 265, 247, 0, 0, 0, 0, 434, 0, 0, 0, 0]
def cK35 : List Nat := [0, 152, 0, 0, 0, 0, 0, 151, 0, 152, 0, 0, 0, 0, 152, 0, 0, 152, 0, 0]
def cK36 : List Nat := [0, 0, 430, 0, 0, 265, 495, 0]
def cK37 : List Nat := [0, 265, 495, 0, 0, 496, 0, 0, 0, 262, 206, 178, 0, 265, 247, 0, 0, 0, 265, 495, 0, 0, 496, 0, 0, 0, 0, 265, 247, 513, 0, 0, 0, 434, 0, 0, 0, 265, 247, 0, 517, 0, 265, 495, 0, 504, 0]
def cK38 : List Nat := [0, 156, 0, 0, 0, 0, 0, 0, 0, 0, 0, 0]
def cK39 : List Nat := [0, 0, 0, 0, 0, 0, 0, 0, 156, 0, 0, 0, 0, 156, 0, 0, 0, 0, 156, 0]
def cK40_0 : List Nat := [0, 269, 0, 0, 0, 434, 0, 0, 0, 269, 0, 265, 495, 0, 0, 0, 0, 0, 0, 265, 242, 0, 0, 0, 265, 247, 10001, 0, 0, 0, 434, 0, 0, 262, 0, 265, 247, 532, 0, 0, 0, 434, 0, 0, 265, 495, 0, 0, 0, 504]
def cK40_1 : List Nat := [0]
def cK41 : List Nat := [0, 0, 0, 0, 0, 0, 0, 0, 0, 0, 0, 0, 0, 0, 0, 0, 0, 0, 0, 529, 0, 0, 0, 0, 0]
def cK42 : List Nat := [0, 0, 0, 0, 0, 0, 0, 0, 0, 0]
def cK43 : List Nat := [0, 210, 0, 0, 0, 0, 0, 208, 0, 210, 0, 0, 0, 0, 210, 0, 0, 210, 0, 0]
def cK44 : List Nat := [0, 265, 20003, 439, 0, 0, 0, 0, 265, 20004, 439, 0, 0, 0, 0, 265, 20005, 439, 0, 0, 0, 0, 265, 20006, 439, 0, 0, 0, 0, 0]
def cK45_0 : List Nat := [0, 0, 0, 0, 0, 434, 0, 0, 262, 206, 182, 0, 0, 0, 0, 434, 0, 0, 265, 495, 0, 0, 496, 0, 0, 0, 265, 247, 0, 0, 265, 495, 0, 0, 496, 0, 0, 0, 262, 206, 0, 0, 0, 265, 247, 548, 0, 265, 495, 0]
def cK45_1 : List Nat := [504, 0]
def cK46 : List Nat := [0, 181, 0, 0, 0, 173, 0, 181, 0, 0, 0, 0, 124, 0, 0, 127, 0, 0, 131, 0, 0, 134, 0, 0, 181, 0, 0, 181, 0]
def cK47 : List Nat := [0, 0, 0, 0, 210, 0, 0, 205, 0, 208, 0, 0, 556, 0, 0, 0, 0, 0, 0, 205, 189, 0, 0, 0, 0, 0, 205, 177, 0, 0, 157, 0, 0, 0, 0, 0, 0, 0]
def cK48 : List Nat := [0, 10002, 0, 0, 0, 0, 0, 561, 0, 0, 0, 0, 0, 565, 0, 0, 0, 0, 0]
def cK49 : List Nat := [0, 0, 0, 0, 181, 0, 0, 0, 0, 0]
def cK50 : List Nat := [0, 0, 0, 0, 185, 0, 0, 0, 0, 0]
def cK51_0 : List Nat := [0, 205, 0, 205, 573, 0, 0, 210, 210, 0, 0, 0, 0, 210, 0, 0, 208, 0, 0, 208, 0, 0, 0, 0, 0, 0, 0, 215, 215, 0, 0, 0, 0, 215, 0, 0, 212, 0, 0, 212, 0, 0, 0, 0, 213, 0, 0, 213, 0, 0]
def cK51_1 : List Nat := [0, 0, 214, 0, 0, 214, 0, 0, 0, 0, 0, 0]
def cK52 : List Nat := [0, 0, 181, 181, 0, 0, 0, 0, 181, 0, 0, 173, 0, 0, 0, 173, 0, 0, 577, 0, 0, 0, 0, 185, 185, 0, 0, 0, 0, 185, 0, 0, 176, 0, 0, 0, 176, 0, 0, 581, 0, 0, 0, 0, 190, 0]
def cK53 : List Nat := [0, 0, 122, 122, 0, 0, 125, 125, 0, 0, 128, 128, 0, 0, 132, 132, 0]
def cK54 : List Nat := [0, 0, 0, 0, 152, 0, 0, 151, 0, 0, 151, 0, 0, 0, 0, 0, 0, 0, 152, 152, 0, 0, 156, 156, 0, 0, 159, 159, 0]
def cK55 : List Nat := [0, 347, 0]
def cK56 : List Nat := [0, 0, 0, 340, 207, 184, 0, 0, 340, 207, 188, 0, 0, 340, 211, 0, 0, 340, 207, 594, 0, 0, 340, 207, 598, 0, 0, 340, 207, 611, 0, 0, 0]
def cK57 : List Nat := [0, 0, 0, 0, 0, 0, 185, 0, 0, 0, 176, 0, 0, 162, 0, 0, 0, 0, 0, 0, 0, 0, 0, 0, 0, 0]
def cK58 : List Nat := [0, 0, 0, 0, 0, 0, 185, 0, 0, 0, 176, 0, 0, 602, 0, 0, 0, 0, 0, 0, 0, 0, 0, 0, 0, 0]
def cK59 : List Nat := [0, 606, 0, 0, 0, 0, 0, 0, 610, 0, 0, 0, 0, 0]
def cK60 : List Nat := [0, 152, 0, 0, 152, 0, 0, 0, 151, 0, 152, 0, 0, 0, 0, 0, 0]
def cK61 : List Nat := [0, 0, 0, 0, 0, 0, 181, 0, 0, 0, 173, 0, 0, 131, 0, 0, 0, 0, 0, 0]
def cK62 : List Nat := [0, 340, 207, 0, 619, 0, 0, 0, 0, 340, 207, 175, 0, 0, 0, 0, 0, 0, 123, 0, 0, 126, 0, 0, 130, 0, 0, 133, 0, 0, 340, 207, 0, 620, 0, 0, 0]
def cK63 : List Nat := [0, 0, 561, 0, 0, 0, 0, 0, 190, 0, 0, 191, 0, 0, 173, 0, 0, 124, 0, 0, 0, 173, 0, 0, 127, 0, 0, 173, 0, 0, 127, 0]
def cK64 : List Nat := [0, 340, 207, 0, 628, 0, 0, 0, 0, 340, 207, 180, 0, 0, 0, 0, 0, 0, 0, 0, 0, 0, 0, 0, 0, 629, 0, 0, 0, 0, 154, 0, 0, 633, 0, 0, 158, 0, 0, 161, 0, 0, 0, 0, 0, 0, 0]
def cK65 : List Nat := [0, 0, 0, 0, 152, 0, 0, 151, 0, 0, 0, 0, 0]
def cK66 : List Nat := [0, 0, 0, 0, 340, 211, 0, 0, 340, 209, 0, 0, 0, 0, 0]
def cK67 : List Nat := [0, 340, 207, 0, 0, 642, 0]
def cK68 : List Nat := [0, 0, 561, 0, 0, 0, 565, 0, 0, 0, 0, 0, 176, 0, 0, 155, 0, 0, 0, 0, 0, 173, 0, 0, 124, 0, 0, 0, 0, 0, 0, 0, 0, 0]
def cK69 : List Nat := [0, 340, 207, 0, 0, 650, 0]
def cK70_0 : List Nat := [0, 0, 0, 654, 0, 0, 0, 0, 0, 0, 0, 173, 0, 0, 0, 0, 176, 0, 0, 0, 0, 131, 0, 0, 0, 0, 0, 124, 0, 0, 0, 655, 0, 0, 0, 0, 0, 131, 0, 0, 131, 0, 162, 0, 0, 0, 659, 660, 0, 124]
def cK70_1 : List Nat := [0, 0, 0, 0, 0, 667, 668, 0, 659, 0]
def cK71 : List Nat := [0, 152, 0, 0, 0, 159, 0, 0, 0, 0, 0]
def cK72 : List Nat := [0, 10003, 0, 0, 0, 132, 0, 0, 0, 0, 132, 0]
def cK73 : List Nat := [0, 0, 0, 0, 0, 0, 0, 0, 0]
def cK74 : List Nat := [0, 606, 0, 0, 159, 0, 0, 0, 0, 0, 151, 0, 152, 0, 0, 0, 0, 0, 0, 0, 0, 0, 0, 0, 672, 0, 0, 0, 159, 0]
def cK75 : List Nat := [0, 0, 0, 0, 0, 0, 0, 0, 340, 207, 0, 0, 0, 677, 0, 340, 207, 693, 0]
def cK76 : List Nat := [0, 0, 0, 0, 185, 0, 0, 0, 0, 176, 0, 0, 0, 162, 0, 0, 176, 0, 0, 681, 0, 0, 176, 0, 0, 689, 0, 0, 0, 0]
def cK77 : List Nat := [0, 152, 0, 0, 0, 0, 0, 0, 0, 0, 0, 0, 152, 0, 0, 0, 606, 0, 0, 0, 685, 0, 0, 0, 0, 0, 0, 672, 0, 0, 0, 159, 0]
def cK78 : List Nat := [0, 152, 0, 0, 0, 152, 0, 0, 152, 0]
def cK79 : List Nat := [0, 0, 0, 0, 0, 0, 606, 0, 0, 685, 0, 0, 0, 0, 159, 0]
def cK80 : List Nat := [0, 0, 0, 0, 0, 0, 185, 0, 0, 0, 176, 0, 0, 155, 0, 0, 0, 0, 0, 0]
def cK81 : List Nat := [0, 340, 207, 0, 628, 0, 0, 0, 0, 340, 207, 180, 0, 0, 0, 0, 154, 0, 0, 0, 0, 701, 0, 0, 161, 0, 633, 0]
def cK82_0 : List Nat := [0, 340, 207, 0, 619, 0, 0, 0, 0, 0, 0, 340, 207, 175, 0, 0, 0, 0, 0, 0, 0, 0, 0, 123, 0, 0, 0, 123, 0, 0, 0, 0, 0, 0, 0, 0, 0, 126, 0, 0, 0, 126, 0, 0, 0, 0, 0, 0, 0, 0]
def cK82_1 : List Nat := [0, 130, 0, 0, 0, 130, 0, 0, 0, 0, 0, 0, 0, 0, 133, 0, 0, 0, 133, 0, 0, 0, 0]
def cK83 : List Nat := [0, 340, 207, 0, 628, 0, 0, 710, 0, 0, 0, 0, 340, 207, 180, 0, 0, 0, 0, 711, 0, 0, 0, 0, 0, 0]
def cK84 : List Nat := [0, 716, 0, 0, 340, 207, 0, 717, 0, 0, 0, 0, 340, 0, 718, 0, 0, 340, 211, 0, 0, 0]
def cK85 : List Nat := [0, 0, 0, 0, 340, 211, 0, 0, 0, 0, 340, 211, 0, 0, 340, 0, 211, 0, 0]
def cK86 : List Nat := [0, 0, 0, 0, 0, 0, 0, 0, 727, 0, 0, 0, 0, 745, 0, 0, 343, 598, 0, 0, 0, 0, 343, 693, 0, 0, 343, 749, 0]
def cK87 : List Nat := [0, 343, 0, 340, 207, 731, 0, 0, 0, 340, 211, 732, 0]
def cK88 : List Nat := [0, 0, 0, 0, 0, 0, 0, 0, 0, 340, 211, 0, 0, 343, 0, 340, 209, 0, 0, 736, 0, 0, 0, 0, 0, 0, 0, 0, 0, 0]
def cK89 : List Nat := [0, 10002, 0, 0, 0, 740, 0, 0, 0, 0, 0, 0, 0, 0, 0, 741, 10004, 0, 0, 0, 0, 0]
def cK90 : List Nat := [0, 0, 0, 0, 0, 0, 0, 0, 0, 0, 0, 0, 0]
def cK91 : List Nat := [0, 340, 207, 611, 0, 343, 611, 0, 0]
def cK92 : List Nat := [0, 0, 0, 0, 0, 0, 181, 0, 0, 0, 173, 0, 0, 134, 0, 0, 0, 0, 0, 0, 0, 0, 0, 0, 0, 0]
def cK93 : List Nat := [0, 340, 207, 0, 628, 0, 0, 0, 0, 727, 0, 0, 343, 180, 0, 0, 633, 0]
def cK94 : List Nat := [0, 340, 207, 0, 628, 0, 0, 0, 0, 0, 0, 0, 0, 0, 340, 207, 184, 0, 0, 343, 0, 340, 207, 731, 0, 343, 0, 0, 650, 761, 0, 0, 343, 180, 0, 0, 762, 0, 0, 0, 0, 0, 0, 0, 0, 0, 0, 0]
def cK95 : List Nat := [0, 0, 0, 0, 0, 0, 0, 0, 0, 0, 0, 0, 0, 0, 0, 0, 344, 0, 340, 207, 0, 767, 0, 0, 0, 344, 299, 0, 0, 344, 301, 0, 0, 344, 0, 0, 0, 818, 0]
def cK96 : List Nat := [0, 0, 302, 0, 771, 298, 0, 0, 0, 772, 0, 0, 0, 294, 781, 782, 0, 788, 0]
def cK97 : List Nat := [0, 294, 0, 776, 0, 0, 777, 0, 0, 0, 0, 297, 0, 771, 300, 0]
def cK98 : List Nat := [0, 181, 0, 0, 185, 0, 0, 0, 0, 0]
def cK99 : List Nat := [0, 0, 0, 0, 785, 0, 0, 0, 0, 786, 0, 0, 0, 0, 786, 0, 0, 0, 0, 0, 0, 0, 0, 787, 0, 0, 0, 0, 0, 0, 0, 0, 0, 0, 0, 0, 0, 0, 0, 0, 0, 0]
def cK100_0 : List Nat := [0, 0, 297, 0, 0, 0, 0, 0, 0, 0, 792, 0, 0, 0, 0, 796, 0, 0, 0, 0, 0, 294, 183, 0, 0, 0, 0, 0, 294, 187, 0, 0, 0, 0, 0, 800, 0, 0, 295, 0, 0, 0, 0, 0, 0, 0, 0, 0, 0, 0]
def cK100_1 : List Nat := [0, 0, 807, 0, 0, 0, 0, 0]
def cK101 : List Nat := [0, 0, 298, 0, 0, 302, 0, 0, 0, 298, 0, 0, 0, 300, 0, 0, 0, 0, 0]
def cK102 : List Nat := [0, 0, 298, 0, 0, 300, 0, 0, 0, 0, 297, 0, 0, 0, 0, 0, 296, 0, 0, 295, 0, 0, 0, 0, 0, 0]
def cK103 : List Nat := [0, 0, 0, 0, 297, 0, 0, 0, 804, 0, 792, 0]
def cK104_0 : List Nat := [0, 294, 174, 0, 0, 0, 0, 294, 179, 0, 0, 0, 0, 129, 0, 0, 153, 0, 0, 811, 0, 0, 160, 0, 0, 812, 0, 0, 0, 0, 0, 0, 0, 0, 294, 0, 0, 813, 0, 0, 0, 0, 0, 0, 812, 0, 0, 0, 0, 0]
def cK104_1 : List Nat := [0, 0, 0, 0, 0, 129, 0, 788, 0, 0, 129, 0, 0, 0, 0, 814, 0]
def cK105 : List Nat := [0, 0, 152, 0, 152, 0, 0, 152, 0, 0, 0, 151, 0, 152, 0, 0, 0, 0, 0, 0, 159, 0]
def cK106 : List Nat := [0, 0, 0, 0, 297, 0, 0, 0, 0, 0, 296, 0, 0, 0, 0, 0]
def cK107 : List Nat := [0, 0, 0, 0, 0, 0, 0, 0, 0, 0, 0, 0, 0, 344, 0, 340, 207, 0, 826, 0, 0, 0, 0, 0, 0, 344, 0, 0, 0, 818, 0, 0, 0, 0, 0]
def cK108 : List Nat := [0, 0, 302, 0, 0, 298, 0, 0, 0, 772, 0, 0, 0, 294, 781, 782, 0, 788, 0, 298, 0, 0, 0, 0, 0]
def cK109 : List Nat := [0, 340, 207, 0, 619, 0, 0, 0, 0, 340, 207, 0, 620, 0, 0, 0, 0, 0, 0, 0, 340, 207, 188, 0, 0, 340, 207, 180, 0, 0, 0, 834, 0, 0, 0, 0, 0, 0, 0, 0, 0, 0, 0]
def cK110 : List Nat := [0, 0, 0, 0, 152, 0, 0, 151, 0, 0, 0, 0, 0, 0, 0, 0, 0, 0]
def cK111 : List Nat := [0, 710, 0, 0, 0, 0, 0, 0, 0, 0, 0, 340, 207, 0, 628, 0, 0, 0, 0, 0, 0, 0, 0, 0, 0, 0, 340, 0, 0, 0, 842, 0, 0, 340, 216, 0, 0, 0]
def cK112 : List Nat := [0, 215, 0, 0, 0, 0, 0, 212, 0, 215, 0, 0, 0, 213, 0, 215, 0, 0, 0, 214, 0, 215, 0, 0, 0, 0, 215, 0, 0, 215, 0, 0]
def cK113 : List Nat := [0, 0, 0, 0, 340, 216, 0, 0, 0, 0, 340, 216, 0, 0, 340, 0, 216, 0, 0]
def cK114_0 : List Nat := [0, 340, 207, 0, 619, 0, 0, 0, 0, 0, 0, 0, 0, 0, 340, 207, 184, 0, 0, 343, 0, 340, 207, 731, 0, 343, 0, 0, 340, 207, 0, 620, 854, 0, 0, 0, 340, 211, 732, 0, 0, 340, 0, 343, 858, 0, 0, 0, 0, 0]
def cK114_1 : List Nat := [0, 0, 0, 0, 0, 0]
def cK115 : List Nat := [0, 0, 190, 0, 0, 191, 0]
def cK116 : List Nat := [0, 0, 0, 0, 215, 0, 0, 212, 0, 0, 0, 0, 0, 862, 0, 0, 177, 0, 0, 0, 213, 0, 0, 863, 0, 214, 0, 0, 0, 0, 0, 0, 0, 0, 0]
def cK117 : List Nat := [0, 0, 0, 0, 0, 0, 340, 211, 0, 0, 343, 0, 340, 207, 731, 0, 0, 0, 732, 0, 0, 343, 0, 677, 0, 0, 0, 340, 211, 732, 0, 0, 340, 0, 343, 858, 0, 0, 0, 0, 0, 0, 0, 0, 0, 0, 0]
def cK118 : List Nat := [0, 0, 0, 0, 0, 0, 0, 0, 340, 211, 0, 0, 0, 0, 0, 0, 349, 0, 0, 350, 0, 0, 0, 872, 0, 0, 0, 349, 0, 0, 350, 0]
def cK119 : List Nat := [0, 0, 340, 211, 0, 0, 0, 0, 0, 0, 876, 0, 0, 0, 0, 0, 340, 211, 0, 0, 0, 0, 0, 0, 0, 0, 345, 0, 0, 0, 0, 0, 0, 0, 0, 0, 0, 0, 0, 872, 0, 0, 0]
def cK120_0 : List Nat := [0, 343, 0, 340, 207, 731, 0, 0, 0, 0, 0, 0, 343, 0, 340, 209, 0, 345, 0, 0, 0, 736, 0, 0, 0, 0, 340, 0, 343, 858, 0, 0, 0, 349, 0, 0, 349, 0, 0, 350, 0, 0, 0, 0, 345, 0, 0, 0, 0, 0]
def cK120_1 : List Nat := [0, 0, 0, 350, 0]
def cK121_0 : List Nat := [0, 0, 0, 0, 0, 0, 340, 207, 0, 628, 0, 0, 0, 0, 0, 0, 884, 0, 0, 340, 885, 0, 0, 0, 0, 0, 0, 0, 0, 0, 0, 0, 0, 0, 890, 0, 0, 0, 0, 0, 0, 0, 893, 0, 0, 343, 180, 0, 0, 762]
def cK121_1 : List Nat := [0, 0, 0, 0, 0, 0, 0, 0, 0, 0, 897, 0, 901, 0]
def cK122 : List Nat := [0, 0, 0, 0, 0, 0, 210, 0, 0, 0, 208, 0, 0, 10005, 0, 0, 0, 0, 0, 0, 0, 0, 0, 0]
def cK123 : List Nat := [0, 0, 0, 0, 0, 0, 0, 0, 0, 0, 0, 0, 0, 0, 0, 0, 0, 0, 0, 0, 0, 0, 0, 0, 0, 0, 0, 0]
def cK124 : List Nat := [0, 343, 0, 340, 207, 731, 0, 0, 0, 0, 0, 0, 340, 211, 0, 0, 340, 209, 0, 0, 0, 0, 529, 0, 0, 343, 0, 677, 0, 0, 0, 0, 0, 0, 0, 0, 0, 343, 0, 736, 0, 0, 0, 0, 0]
def cK125 : List Nat := [0, 0, 0, 0, 0, 0, 0, 0, 900, 0, 0, 0, 0, 0, 0]
def cK126 : List Nat := [0, 0, 0, 0, 0, 0, 0, 0, 0, 0, 0, 0, 0, 0, 0, 0, 0, 0, 0, 0, 0, 0, 0, 0, 0, 0, 0, 884, 0, 0, 0, 0, 0, 0, 0, 0, 0, 0, 0]
def cK127_0 : List Nat := [0, 0, 0, 0, 0, 0, 0, 0, 0, 0, 884, 0, 0, 340, 885, 0, 0, 0, 0, 0, 0, 0, 0, 0, 0, 0, 0, 0, 890, 0, 0, 0, 0, 0, 0, 0, 893, 0, 0, 0, 745, 0, 0, 0, 0, 0, 0, 0, 0, 897]
def cK127_1 : List Nat := [0, 901, 0]
def cK128_0 : List Nat := [0, 0, 0, 0, 0, 0, 0, 0, 0, 0, 0, 0, 0, 0, 340, 207, 912, 0, 0, 0, 0, 343, 0, 340, 207, 731, 0, 0, 0, 0, 0, 0, 0, 0, 913, 0, 0, 0, 0, 0, 343, 0, 0, 0, 0, 0, 914, 0, 0, 0]
def cK128_1 : List Nat := [0, 0, 343, 693, 0, 0, 343, 598, 0]
def cK129 : List Nat := [0, 0, 0, 0, 0, 0, 0, 0, 0, 0, 0, 0, 0, 740, 0, 0, 918, 0, 0, 0, 0, 0, 0, 181, 0, 0, 0, 0, 0, 185, 0, 741, 0, 0]
def cK130 : List Nat := [0, 0, 0, 0, 0, 0, 0, 0, 342, 0, 0, 0, 0, 0, 0, 0, 0, 341, 0, 0, 0, 340, 569, 0, 342, 0, 0, 0, 0, 0]
def cK131 : List Nat := [0, 0, 0, 0, 0, 0, 0, 0, 342, 0, 0, 0, 0, 0, 0, 340, 0, 341, 0, 0, 569, 0, 340, 207, 693, 0]
def cK132 : List Nat := [0, 931, 0, 0, 934, 0, 0, 0, 0, 0, 0, 0, 0, 0, 0, 0, 346, 0, 0, 0, 0, 937, 0, 0]
def cK133 : List Nat := [0, 0, 0, 0, 0, 0, 0, 0, 0]
def cK134 : List Nat := [0, 0, 0, 0, 0, 0, 0, 0, 0]
def cK135 : List Nat := [0, 0, 329, 0, 0, 327, 0, 0, 0, 0, 0, 0, 326, 0, 0, 0, 0, 0, 0]
def cK136 : List Nat := [0, 931, 0, 0, 0, 0, 346, 0, 0, 0, 0, 0, 330, 0, 945, 0, 0, 0, 0, 0, 0, 0, 0, 0, 0, 949, 0, 0]
def cK137 : List Nat := [0, 329, 0, 0, 0, 0, 0, 329, 0, 0, 0, 0, 0, 0, 0, 0, 327, 0, 0, 0, 0, 0]
def cK138 : List Nat := [0, 0, 0, 0, 327, 0, 0, 326, 0, 0, 329, 0, 0, 0, 0, 0, 329, 0, 0, 0, 0, 0, 0, 0, 0]
def cK139_0 : List Nat := [0, 931, 0, 0, 934, 0, 0, 0, 0, 0, 0, 0, 0, 0, 346, 0, 0, 0, 0, 343, 0, 340, 207, 731, 0, 0, 0, 0, 0, 0, 0, 0, 0, 0, 0, 0, 0, 0, 0, 0, 0, 0, 0, 0, 957, 0, 0, 0, 0, 343]
def cK139_1 : List Nat := [0, 0, 962, 0, 0, 0, 0, 962, 650, 761, 0, 0, 0, 0, 0, 0, 0, 0, 0, 340, 207, 0, 343, 731, 0, 0, 348, 0, 0]
def cK140 : List Nat := [0, 0, 0, 961, 0, 0, 0, 0, 0, 0, 0, 0, 0, 0, 961, 0]
def cK141 : List Nat := [0, 0, 0, 0, 327, 0, 0, 326, 0, 0, 0, 0, 0]
def cK142 : List Nat := [0, 348, 0]
def cK143 : List Nat := [0, 0, 0, 340, 207, 693, 0, 0, 340, 216, 0, 0, 342, 0, 0, 0, 0, 0, 0, 0, 342, 0, 0, 0, 0, 0, 0, 0, 0, 0, 339, 240, 0, 0, 346, 0, 0, 330, 0, 0, 0, 0, 0, 346, 0, 0, 328, 0, 0, 0]
def cK144_0 : List Nat := [0, 979, 0, 0, 0, 988, 0, 0, 0, 989, 0, 0, 0, 990, 0, 0, 0, 993, 0, 0, 0, 999, 0, 0, 0, 1000, 0, 0, 0, 1012, 0, 0, 0, 1016, 0, 0, 0, 1017, 0, 0, 0, 1018, 0, 0, 0, 1020, 0, 0, 0, 0]
def cK144_1 : List Nat := [0, 0, 1016, 0, 0, 0, 0, 0, 0, 980, 0, 984, 0]
def cK145 : List Nat := [0, 0, 0, 0, 0, 0, 993, 0, 0, 0, 0, 0, 0, 0, 0, 0, 0, 0, 999, 0, 0, 0, 0, 0, 0, 0, 994, 0, 0, 995, 0, 0, 996, 0, 0, 997, 0, 0, 998, 0]
def cK146_0 : List Nat := [0, 0, 0, 0, 0, 0, 988, 0, 0, 993, 0, 0, 0, 0, 0, 0, 0, 994, 991, 0, 0, 995, 992, 0, 0, 0, 0, 992, 0, 0, 988, 0, 0, 0, 0, 0, 0, 0, 0, 999, 0, 0, 0, 0, 0, 0, 990, 0, 0, 0]
def cK146_1 : List Nat := [0, 990, 0, 0, 0, 0]
def cK147 : List Nat := [0, 0, 0, 1092, 1093, 0, 0, 0, 0, 1001, 0, 0, 0, 0, 0, 1000, 0, 1001, 0, 0, 0, 0, 1001, 0, 0, 1001, 0, 1001, 0]
def cK148 : List Nat := [0, 0, 0, 0, 0, 0, 0, 0, 0, 0, 0, 0]
def cK149 : List Nat := [0, 0, 0, 0, 1001, 0, 1093, 0, 0, 0, 0, 1001, 0, 0, 0, 1001, 0, 0]
def cK150_0 : List Nat := [0, 0, 0, 0, 1006, 0, 0, 1002, 0, 980, 0, 1104, 0, 1006, 0, 0, 1004, 0, 0, 1120, 0, 0, 0, 1006, 0, 0, 0, 997, 0, 994, 0, 0, 998, 0, 995, 0, 0, 0, 0, 0, 1116, 0, 0, 1001, 0, 1006, 0, 0, 0, 1007]
def cK150_1 : List Nat := [0, 0, 0, 984, 0, 0]
def cK151_0 : List Nat := [0, 1006, 0, 0, 0, 0, 1002, 1108, 0, 0, 0, 0, 1002, 0, 0, 1002, 0, 0, 0, 1002, 1003, 0, 0, 1002, 1108, 0, 0, 0, 0, 0, 1004, 0, 0, 0, 1112, 1113, 1093, 0, 0, 0, 1004, 0, 0, 1002, 1108, 0, 1112, 1113, 1093, 0]
def cK151_1 : List Nat := [0, 0, 1002, 0, 0, 1002, 0, 0, 0, 1114, 1115, 1093, 0, 0, 0, 1004, 0, 0, 1005, 0, 0, 1002, 1108, 0, 1114, 1115, 1093, 0, 0, 0, 1002, 0, 1003, 0, 0, 0, 0, 0, 1005, 0, 0, 0, 1002, 1108, 0, 0, 0, 0, 0, 1005]
def cK151_2 : List Nat := [1005, 0, 0, 1002, 0, 0, 1002, 0, 0, 0, 1002, 0, 1003, 0, 0, 0, 0, 0, 0, 0, 1116, 0, 0, 0, 1004, 0, 0, 0, 0, 0, 0, 0, 0, 1116, 0, 0, 1002, 0, 0, 1002, 0]
def cK152 : List Nat := [0, 0, 1001, 0, 0, 1000, 0, 0, 0, 0, 0]
def cK153 : List Nat := [0, 0, 0, 1006, 0, 0, 0, 1006, 0, 0, 1003, 1007, 0]
def cK154_0 : List Nat := [0, 1004, 0, 0, 0, 1124, 0, 0, 0, 0, 0, 0, 0, 0, 0, 0, 0, 1116, 0, 0, 0, 0, 0, 995, 0, 0, 0, 0, 0, 0, 0, 0, 0, 0, 994, 0, 0, 0, 0, 0, 0, 1116, 0, 0, 0, 0, 0, 996, 0, 0]
def cK154_1 : List Nat := [0, 0, 0, 1116, 0, 0, 996, 0, 0, 0, 0, 0, 0, 0, 996, 0, 1104, 0, 1006, 0, 0, 0, 0, 1136, 0, 1006, 0, 0, 0, 1004, 0, 0, 0, 0, 0, 0, 1116, 0, 1104, 0]
def cK155_0 : List Nat := [0, 0, 0, 0, 0, 1128, 0, 0, 0, 0, 0, 1132, 0, 0, 0, 0, 0, 0, 0, 0, 1128, 0, 0, 0, 0, 0, 1132, 0, 0, 0, 0, 0, 0, 0, 0, 1128, 0, 0, 0, 0, 0, 1132, 0, 0, 0, 0, 0, 0, 0, 0]
def cK155_1 : List Nat := [1128, 0, 0, 0, 0, 0, 0, 0, 0, 1128, 0, 0, 0, 0, 0, 1132, 0, 0, 0, 0, 0, 0, 0, 0, 1128, 0, 0, 0, 0, 0, 0, 0, 0, 1128, 0, 0, 0, 0, 0, 1132, 0, 0, 0, 0, 0]
def cK156 : List Nat := [0, 1002, 0, 1003, 0, 0, 0, 0, 0, 1003, 1108, 0, 0, 0, 0, 1003, 0, 0, 1108, 0, 0, 0, 0, 1003, 0, 0, 1108, 0, 0, 0, 0, 0, 0]
def cK157 : List Nat := [0, 0, 1003, 0, 0, 1108, 0, 0, 0, 0, 0, 0, 1003, 0, 0, 1108, 0, 0, 0, 0, 0, 0, 1003, 0, 0, 1108, 0, 0, 0, 0, 0, 0]
def cK158 : List Nat := [0, 0, 0, 1140, 0, 0, 1152, 0, 0, 1156, 0, 0, 0, 1166, 0]
def cK159_0 : List Nat := [0, 0, 0, 995, 0, 0, 0, 0, 1006, 0, 0, 1004, 0, 0, 0, 0, 993, 0, 0, 0, 0, 0, 0, 0, 0, 0, 0, 1116, 0, 0, 0, 1144, 0, 0, 1006, 0, 0, 993, 0, 0, 0, 0, 993, 0, 0, 0, 0, 0, 0, 0]
def cK159_1 : List Nat := [0, 993, 0, 0, 0, 0, 0, 0, 0, 0, 0, 0, 0, 995, 0, 0, 995, 0]
def cK160 : List Nat := [0, 0, 0, 1148, 0, 0, 1104, 0, 0]
def cK161 : List Nat := [0, 1006, 0, 0, 0, 1004, 0, 0, 0, 0, 0, 0, 1116, 0, 1006, 0, 0, 0, 1005, 0, 0, 0, 0, 0, 1093, 0, 1116, 0, 1006, 0, 0, 1005, 0, 0, 0]
def cK162_0 : List Nat := [0, 0, 0, 1144, 0, 0, 0, 1006, 0, 0, 0, 998, 0, 0, 0, 0, 998, 998, 0, 0, 0, 1148, 0, 0, 1006, 0, 0, 0, 999, 0, 0, 0, 0, 0, 0, 0, 0, 0, 0, 0, 1116, 0, 999, 0, 0, 0, 0, 0, 0, 0]
def cK162_1 : List Nat := [0, 0, 1104, 0]
def cK163_0 : List Nat := [0, 1006, 0, 0, 1004, 0, 0, 0, 0, 993, 0, 0, 0, 0, 0, 0, 0, 0, 1116, 0, 1006, 0, 0, 0, 1005, 1160, 0, 1116, 0, 1006, 0, 0, 993, 0, 0, 993, 0, 0, 0, 0, 1005, 0, 0, 993, 0, 0, 0, 0, 0, 0]
def cK163_1 : List Nat := [0, 0, 1005, 0, 0, 0, 1005, 0, 0, 0, 997, 0, 0, 1005, 0, 0, 0, 0, 997, 997, 0, 0, 1005, 0, 0, 0, 1005, 0, 0, 0, 998, 0, 0, 1005, 0, 0, 0, 0, 998, 998, 0, 1104, 0, 0]
def cK164 : List Nat := [0, 0, 1163, 1164, 1093, 0, 0, 0, 0, 0, 0, 1165, 1093, 0, 0, 0, 0, 0, 0, 0, 0, 0, 0]
def cK165 : List Nat := [0, 0, 994, 0, 0, 0, 993, 0, 0, 0, 0, 0, 0, 993, 0, 0, 0, 0, 0, 0, 1144, 0, 0, 993, 0, 0, 0, 0, 0, 0, 1144, 0, 0, 0, 994, 0, 0, 994, 0]
def cK166 : List Nat := [0, 1006, 0]
def cK167_0 : List Nat := [0, 1178, 0, 0, 0, 0, 0, 0, 0, 0, 992, 0, 0, 0, 0, 0, 1182, 0, 0, 0, 0, 0, 0, 0, 0, 0, 0, 991, 0, 0, 0, 0, 0, 1186, 0, 0, 0, 0, 0, 0, 0, 991, 0, 0, 992, 0, 0, 988, 0, 0]
def cK167_1 : List Nat := [0, 0, 0, 0, 1190, 0, 0, 0, 0, 0]
def cK168 : List Nat := [0, 0, 0, 0, 0, 0, 989, 0, 0, 988, 0, 0, 0, 0, 0, 0, 0, 1008, 0]
def cK169 : List Nat := [0, 989, 0, 0, 0, 0, 0, 0, 0, 0, 0]
def cK170 : List Nat := [0, 989, 0, 0, 0, 0, 0, 0, 0]
def cK171 : List Nat := [0, 0, 0, 0, 0, 0, 992, 0, 0, 0, 0, 1194, 1206, 0, 0, 0, 0, 0, 0, 0, 0]
def cK172 : List Nat := [0, 0, 1198, 0, 0, 0, 0, 0, 1182, 0, 0, 1198, 0, 0, 0, 0, 0, 0, 0, 0, 0]
def cK173 : List Nat := [0, 0, 0, 1182, 0, 0, 0, 0, 0, 0, 0, 0, 1182, 0, 0, 1202, 0]
def cK174 : List Nat := [0, 0, 0, 0, 0, 1182, 0]
def cK175 : List Nat := [0, 0, 0, 0, 0, 0]
def cK176 : List Nat := [0, 0, 1213, 0, 0, 0, 0, 1217, 1093, 0, 0, 0, 0, 1178, 0, 0, 0, 0, 0, 0, 1186, 0, 0, 0, 1218, 0]
def cK177 : List Nat := [0, 0, 0, 0, 991, 0, 0, 0, 1093, 0]
def cK178 : List Nat := [0, 0, 1008, 0, 0, 0, 1009, 1222, 0, 0, 0, 1222, 0]
def cK179 : List Nat := [0, 0, 0, 1186, 0, 0, 0, 0, 0, 1186, 0, 0, 0, 0, 1186, 0]
def cK180_0 : List Nat := [0, 0, 1230, 0, 0, 0, 0, 1178, 0, 0, 0, 0, 0, 1182, 0, 0, 0, 1198, 0, 0, 0, 0, 1182, 0, 0, 0, 0, 1182, 0, 0, 0, 0, 0, 0, 1234, 1093, 0, 0, 0, 0, 0, 0, 0, 0, 0, 1182, 0, 0, 0, 0]
def cK180_1 : List Nat := [0, 0, 1202, 0, 0, 0]
def cK181 : List Nat := [0, 0, 0, 0, 992, 0, 0, 0, 1093, 0]
def cK182 : List Nat := [0, 0, 0, 0, 988, 0, 0, 0, 0, 0, 1093, 0, 0, 988, 0, 0, 0, 0, 0, 0, 0]
def cK183 : List Nat := [0, 0, 1213, 0, 0, 0, 1230, 0, 0, 0, 0, 1178, 0, 0, 0, 1243, 0]
def cK184 : List Nat := [0, 0, 0, 0, 1182, 0, 0, 0, 0, 0, 0, 0, 1186, 0, 0, 0, 0, 0, 0, 0, 0, 0, 0, 0, 0, 0, 0, 0]
def cK185 : List Nat := [0, 0, 1213, 0, 0, 0, 1230, 0, 0, 0, 0, 1178, 0, 0, 0, 1251, 0, 0, 0, 0, 0, 0, 0, 0, 1255, 0, 0, 1263, 0, 0, 1198, 0]
def cK186 : List Nat := [0, 0, 0, 1186, 0, 0, 0, 0, 0, 1182, 0, 0, 0, 0, 0, 1182, 0, 0, 0, 0, 0, 0, 0, 0, 1186, 0, 0, 0, 1243, 0, 0, 0, 0, 0, 0, 0, 0, 0]
def cK187_0 : List Nat := [0, 0, 0, 1243, 0, 0, 0, 1198, 0, 0, 0, 0, 1182, 0, 0, 0, 0, 0, 0, 0, 0, 0, 0, 989, 0, 0, 0, 0, 0, 0, 0, 0, 0, 0, 0, 0, 0, 989, 0, 0, 0, 0, 0, 0, 0, 0, 0, 0, 0, 0]
def cK187_1 : List Nat := [0, 0, 0, 1186, 0, 0, 0, 0, 0, 1182, 0, 0, 0, 0, 0, 0, 0, 0, 0, 0, 0, 0, 0, 0, 0, 0, 0, 1218, 0, 0, 0, 0, 0, 0, 1218, 1259, 0, 0, 0, 0, 0, 0, 0, 0, 0, 0, 1259, 0, 0, 0]
def cK187_2 : List Nat := [0, 1259, 0, 0]
def cK188 : List Nat := [0, 989, 0, 0, 0, 0, 0, 0, 0, 0, 0, 0]
def cK189 : List Nat := [0, 0, 0, 0, 0, 0, 988, 0, 0, 989, 0, 0, 0, 0, 0, 0]
def cK190 : List Nat := [0, 0, 0, 1271, 1093, 0, 0, 0, 0, 1178, 0, 0, 0, 0, 1272, 0, 1263, 0, 1280, 0]
def cK191 : List Nat := [0, 0, 0, 0, 992, 0, 0, 0, 0, 0, 0, 1276, 0, 0, 0, 0, 0, 1259, 0, 0, 0, 0, 0, 1198, 0, 0, 0, 0, 0, 0, 0, 1182, 0, 0, 1259, 0, 0, 0, 0]
def cK192_0 : List Nat := [0, 0, 0, 1182, 0, 0, 0, 0, 0, 0, 0, 0, 0, 0, 0, 0, 0, 0, 0, 0, 0, 0, 0, 0, 0, 0, 0, 1202, 0, 0, 0, 0, 0, 0, 0, 0, 0, 0, 0, 0, 1259, 0, 0, 0, 0, 0, 0, 1259, 0, 0]
def cK192_1 : List Nat := [0, 0, 1259, 0]
def cK193 : List Nat := [0, 0, 0, 0, 0, 0, 992, 0, 0, 0, 0, 0, 1182, 0, 0, 0, 0, 0, 0]
def cK194 : List Nat := [0, 0, 1230, 0, 0, 0, 0, 1178, 0, 0, 1198, 0, 0, 0, 0, 0, 0, 0, 0, 0, 0, 1182, 0, 0, 1259, 0, 0, 0, 0, 1259, 0, 1263, 0, 0, 1198, 0]
def cK195 : List Nat := [0, 0, 1213, 0, 0, 0, 0, 1165, 1093, 0, 0, 0, 0, 0, 1292, 0, 1093, 0, 0, 0, 0, 0, 0, 0, 0, 1295, 0, 0, 0]
def cK196 : List Nat := [0, 0, 0, 0, 0, 0, 0, 0, 0, 0, 0, 0, 0, 0, 0, 0]
def cK197 : List Nat := [0, 988, 0, 0, 0, 0, 988, 0, 0, 0, 0, 0]
def cK198 : List Nat := [0, 0, 1230, 0, 0, 0, 0, 1234, 1093, 0, 0, 0, 0, 0, 0, 0, 0, 0, 0, 0, 0, 988, 0, 0, 0, 0, 988, 0, 0, 0, 0, 0, 0, 0, 0, 0, 0, 0, 0, 0, 0, 0, 0, 0, 0, 0, 0, 0, 0, 0]
def cK199 : List Nat := [0, 0, 1307, 0, 0, 0, 0, 988, 0, 0, 0, 0, 0, 0, 0, 988, 0, 0, 988, 0, 0, 0, 0, 0, 0, 988, 0, 0, 0, 0, 0, 0, 0, 988, 0, 0, 0]
def cK200 : List Nat := [0, 0, 1163, 1164, 1093, 0, 0, 0, 0, 0, 0, 0, 1213, 0, 0, 0, 0, 0, 1230, 0, 0, 0, 0, 0]
def cK201 : List Nat := [0, 0, 0, 0, 988, 0, 0, 0, 1093, 0, 0, 0, 0, 1295, 0, 0, 0]
def cK202_0 : List Nat := [0, 0, 0, 1217, 1093, 0, 0, 0, 0, 1178, 0, 0, 1010, 0, 0, 0, 0, 0, 0, 988, 0, 0, 0, 0, 0, 988, 0, 0, 0, 0, 1319, 0, 1011, 0, 0, 0, 0, 0, 0, 0, 0, 0, 0, 0, 0, 0, 0, 0, 0, 991]
def cK202_1 : List Nat := [0, 0, 0, 0, 0, 1186, 0, 0, 0, 0, 1206, 0, 0, 0, 0, 0, 0, 0, 0, 0, 1010, 0, 0, 0, 0, 0, 1190, 0, 0, 0, 0, 0, 0, 0, 0, 0, 0, 1280, 0, 0, 0]
def cK203 : List Nat := [0, 0, 1011, 0, 0, 0, 0, 0, 1272, 0, 0, 0, 0, 0, 0, 0, 0, 1251, 0, 0, 0, 1010, 0, 0, 0, 0, 0, 0, 0, 1255, 0, 1010, 0, 0, 0, 1011, 0]
def cK204 : List Nat := [0, 0, 1230, 0, 0, 0, 0, 1178, 0, 1327, 0, 0, 1198, 0]
def cK205 : List Nat := [0, 0, 1010, 0, 0, 0, 0, 988, 0, 0, 0, 0, 0, 988, 0, 0, 0, 0, 1319, 0, 0, 0]
def cK206 : List Nat := [0, 0, 1230, 0, 0, 0, 0, 0, 0, 0, 0, 0, 991, 0, 0, 1178, 0, 0, 0, 1251, 0, 0, 0, 0, 1255, 0, 0, 0, 0, 1194, 0, 0, 0, 0, 1206, 0, 0, 0, 0, 0, 0, 0, 0]
def cK207_0 : List Nat := [0, 0, 0, 1165, 1093, 0, 0, 1339, 0, 0, 0, 0, 0, 0, 1271, 1093, 0, 0, 0, 0, 1342, 0, 0, 0, 0, 0, 1346, 0, 0, 0, 0, 0, 0, 0, 0, 0, 0, 1347, 0, 0, 0, 0, 1351, 0, 1190, 1359, 0, 0, 0, 0]
def cK207_1 : List Nat := [0, 0, 0, 0, 1010, 0, 0, 0, 0, 0, 0, 0, 0, 0, 0, 0, 0, 0, 0, 0, 1010, 0, 0, 0, 0, 0, 0, 0, 0, 0, 0, 0, 0, 1339, 0, 0, 0, 0, 0, 0, 0, 0, 0, 0, 0, 0, 0, 0, 0, 0]
def cK207_2 : List Nat := [0, 0, 1362, 0, 0, 0]
def cK208 : List Nat := [0, 0, 0, 0, 1093, 0]
def cK209 : List Nat := [0, 991, 0, 992, 0, 0]
def cK210 : List Nat := [0, 0, 0, 0, 0, 0, 0, 0, 0, 1342, 0, 0, 0, 0, 0, 0]
def cK211 : List Nat := [0, 0, 1347, 0, 0, 1178, 0, 0, 1010, 0, 0, 0, 0, 0, 0, 0, 1342, 0, 0, 0, 0, 0, 0, 0, 0, 1342, 0, 1355, 1319, 0, 0, 0]
def cK212 : List Nat := [0, 0, 0, 992, 0, 0, 0, 0, 992, 0, 0, 0]
def cK213 : List Nat := [0, 0, 0, 0, 0, 0, 0, 0, 0, 0, 0, 0, 0, 0, 0, 0, 0, 0, 0]
def cK214 : List Nat := [0, 0, 0, 0, 0, 0, 0, 0, 1347, 0, 0, 1342, 0, 1355, 0]
def cK215_0 : List Nat := [0, 0, 0, 0, 0, 0, 0, 1271, 1093, 0, 0, 0, 0, 0, 0, 0, 1342, 0, 0, 0, 0, 0, 0, 0, 0, 0, 0, 1347, 0, 0, 0, 0, 1351, 0, 1190, 0, 0, 0, 0, 0, 0, 0, 0, 0, 0, 0, 0, 0, 0, 0]
def cK215_1 : List Nat := [0, 1362, 0, 0, 0, 0, 0, 0, 0, 0, 0]
def cK216_0 : List Nat := [0, 0, 1213, 0, 0, 0, 0, 1178, 0, 0, 0, 0, 0, 0, 992, 0, 0, 0, 0, 0, 0, 0, 0, 0, 1182, 0, 0, 0, 0, 0, 0, 1202, 0, 0, 1218, 0, 0, 0, 0, 0, 0, 0, 0, 0, 1206, 0, 0, 0, 0, 0]
def cK216_1 : List Nat := [0, 0, 0]
def cK217_0 : List Nat := [0, 0, 1230, 0, 0, 0, 0, 1234, 1093, 0, 0, 0, 0, 0, 0, 0, 1234, 1093, 0, 0, 0, 0, 988, 0, 0, 0, 0, 0, 0, 0, 0, 0, 988, 0, 0, 0, 0, 0, 0, 988, 0, 0, 0, 0, 988, 0, 0, 0, 0, 0]
def cK217_1 : List Nat := [0, 988, 0, 0, 0, 0, 0, 0, 988, 0, 0, 0, 0, 0, 0, 0, 988, 0, 0, 0]
def cK218 : List Nat := [0, 0, 0, 0, 988, 0, 0, 0, 1093, 0, 0, 0, 0, 1295, 0, 0, 0]
def cK219 : List Nat := [0, 0, 1213, 0, 0, 0, 0, 0, 0, 0, 0, 0, 991, 0, 0, 1178, 0, 0, 1008, 0, 0, 1009, 0, 1327, 0, 0, 1386, 1206, 0, 0, 0, 0, 0, 0, 0, 0, 1008, 0, 0]
def cK220_0 : List Nat := [0, 0, 0, 0, 0, 0, 988, 0, 0, 0, 0, 988, 0, 0, 0, 0, 0, 0, 0, 0, 988, 0, 0, 0, 0, 0, 0, 0, 0, 0, 0, 0, 0, 0, 1182, 0, 0, 0, 0, 1202, 0, 0, 0, 0, 0, 0, 0, 988, 0, 0]
def cK220_1 : List Nat := [0, 0, 0, 0, 0, 0, 0, 0, 0, 0, 0, 0, 0, 0, 0]
def cK221_0 : List Nat := [0, 0, 0, 0, 0, 0, 988, 0, 0, 0, 0, 1178, 0, 0, 0, 0, 988, 0, 0, 0, 0, 0, 0, 0, 0, 1319, 0, 0, 988, 0, 0, 0, 0, 0, 988, 0, 0, 0, 0, 1319, 0, 0, 0, 0, 1386, 1206, 0, 0, 0, 0]
def cK221_1 : List Nat := [0, 0, 0, 0]
def cK222_0 : List Nat := [0, 1339, 0, 0, 0, 0, 988, 0, 0, 0, 0, 0, 0, 0, 0, 0, 0, 0, 0, 0, 0, 0, 0, 0, 0, 0, 0, 0, 0, 0, 0, 0, 0, 0, 0, 0, 0, 0, 0, 1398, 0, 0, 1178, 0, 0, 0, 0, 0, 0, 0]
def cK222_1 : List Nat := [988, 0, 0, 1012, 0, 0, 0, 0, 1319, 0, 0, 0, 1386, 0, 0, 0, 1206, 0, 0, 0, 0, 0, 0, 0, 0, 0, 1012, 0, 0, 0, 0, 0, 0, 0, 0, 0, 0, 0, 0, 0, 0, 0, 0, 0]
def cK223 : List Nat := [0, 988, 0, 0, 0, 0, 0, 0, 0, 0, 0, 0, 0, 0, 0, 0, 1012, 0, 0, 0, 0, 0, 0, 0, 0, 0, 0, 0, 0, 1012, 0, 0, 0, 0, 0, 0, 0, 0, 0, 0, 0, 0, 0, 0, 0, 0, 0, 0]
def cK224 : List Nat := [0, 0, 0, 1406, 1093, 0, 0, 0, 1230, 0, 0, 1339, 0, 1407, 0, 0, 0, 0, 1408, 0, 1013, 0, 1015, 0, 1412, 0]
def cK225_0 : List Nat := [0, 988, 0, 0, 0, 0, 0, 1013, 0, 0, 1014, 0, 0, 1015, 0, 0, 0, 0, 0, 0, 0, 0, 988, 0, 0, 0, 0, 0, 0, 0, 0, 0, 0, 0, 0, 1206, 0, 0, 0, 0, 0, 0, 1015, 0, 0, 0, 0, 1406, 0, 1015]
def cK225_1 : List Nat := [0, 0, 0, 0, 0, 0, 0, 0, 0, 0, 0, 0, 0, 0, 0, 0, 0, 1178, 0, 0, 1010, 0, 0, 0, 0, 0, 0, 0, 0, 0, 0, 0, 0, 0, 0, 0, 0, 0, 0, 0, 0, 0, 0, 0, 0, 0, 0, 0, 0, 0]
def cK225_2 : List Nat := [0, 0, 0, 0, 0, 0, 0, 0, 0, 0, 0, 0, 988, 0, 0, 0, 0, 1319, 0, 0, 0, 0, 1013, 0, 0, 1194, 0, 0, 0, 0, 0, 1013, 0, 0, 1014, 0, 0, 1010, 0, 0, 0, 1014, 0, 0, 0]
def cK226 : List Nat := [0, 0, 1415, 0, 0, 0, 0, 0, 0, 0, 0, 0, 0, 0]
def cK227 : List Nat := [0, 0, 0, 0, 0, 0, 0, 0, 0, 0, 0, 0, 0, 0, 0, 0, 0, 0, 0]
def cK228 : List Nat := [0, 0, 0, 1406, 1093, 0, 0, 1339, 0, 1407, 0, 0, 0, 0, 1408, 0, 1014, 0, 1015, 0, 1412, 0]
def cK229_0 : List Nat := [0, 0, 0, 1426, 1093, 0, 0, 1339, 0, 0, 0, 0, 991, 0, 0, 992, 0, 0, 0, 0, 0, 0, 1178, 0, 0, 0, 0, 0, 0, 1427, 0, 0, 0, 0, 0, 0, 0, 0, 0, 0, 0, 0, 0, 0, 0, 0, 0, 0, 0, 0]
def cK229_1 : List Nat := [0, 0, 0, 991, 0, 0, 0, 0, 0, 0, 992, 0, 0, 0, 0, 0, 0, 0, 0, 1319, 0, 0, 0, 0, 0, 1280, 0, 0, 1190, 0]
def cK230 : List Nat := [0, 0, 0, 0, 1093, 0, 0, 0, 0, 990, 0, 0, 1206, 0, 0, 990, 0, 0, 0, 0, 0, 0, 0, 0, 0, 0, 1432, 0, 0]
def cK231 : List Nat := [0, 0, 0, 0, 0, 0, 988, 0, 0, 0, 0, 988, 0, 0, 0, 0, 0, 0, 0, 0]
def cK232 : List Nat := [0, 0, 0, 0, 1093, 0, 0, 0, 0, 990, 0, 0, 0, 0, 0, 0, 0, 0, 0, 0, 0, 0, 1432, 0, 1178, 0, 1280, 0]
def cK233 : List Nat := [0, 0, 1444, 0, 0, 0, 0, 0, 0, 0, 0, 0, 0, 0, 1016, 0, 0, 0, 0, 1017, 0, 0, 0, 0, 0, 0, 0, 0, 0, 1018, 0, 0, 0, 0, 0, 0, 0, 0, 0, 0, 0]
def cK234 : List Nat := [0, 0, 0, 1165, 1093, 0, 0, 0, 0, 1271, 1093, 0, 0, 0, 0, 0]
def cK235_0 : List Nat := [0, 0, 1444, 0, 0, 0, 0, 1016, 0, 0, 0, 0, 0, 0, 0, 0, 0, 0, 1017, 0, 0, 0, 0, 0, 1093, 0, 0, 0, 0, 1018, 0, 0, 0, 0, 0, 0, 1016, 0, 0, 0, 0, 0, 0, 0, 1016, 0, 0, 0, 0, 0]
def cK235_1 : List Nat := [0, 0, 0, 0, 0, 0]
def cK236_0 : List Nat := [0, 0, 1444, 0, 0, 0, 0, 1455, 1093, 0, 0, 0, 0, 0, 0, 0, 0, 0, 1020, 0, 0, 988, 0, 0, 0, 0, 0, 0, 0, 0, 0, 0, 0, 0, 0, 0, 0, 0, 0, 0, 0, 0, 0, 0, 0, 0, 0, 0, 0, 0]
def cK236_1 : List Nat := [0, 0, 0, 0, 0, 0, 0, 1016, 0, 0, 0, 0, 0, 0, 0, 1016, 0, 0, 0, 0, 0, 0, 0, 0, 0, 0, 0, 0, 1017, 0, 0, 0, 0, 0, 0, 0, 0, 0, 0, 0, 0, 0, 0, 0, 0, 0, 0, 0, 0, 0]
def cK236_2 : List Nat := [0, 0, 0, 0, 1018, 0, 0, 0, 1018, 0, 0, 0, 0, 1456, 0, 0, 0, 0, 0, 0, 0, 0, 0, 0, 0, 0, 988, 0, 0, 1020, 0, 0, 0, 0, 0, 0, 0, 0, 0, 0, 0, 0, 0, 0, 1019, 0, 0]
def cK237 : List Nat := [0, 1019, 0]
def cK238 : List Nat := [0, 1178, 0, 0, 0, 1280, 0, 0, 988, 0, 0, 0, 0, 990, 0, 0, 1206, 0, 990, 0, 0, 1206, 0, 0, 0, 1001, 0, 0, 1016, 0, 0, 0, 0, 0, 0, 0, 1017, 0, 0, 0, 0, 0]
end
section
/-! TABLES: what is checked of the links -/
def wIn (k : Nat) (w : Cond) : Bool := decide (lw_tbl[k]? = some w) && goodWord w
theorem wIn_spec {k : Nat} {w : Cond} (h : wIn k w = true) : w ∈ gw := by
  simp only [wIn, Bool.and_eq_true, decide_eq_true_eq] at h
  exact List.mem_filter.mpr ⟨List.mem_of_getElem? h.1, h.2⟩
/-- the word that an instruction's link is -/
def eW (own : String) (E : MI) : Option Cond := match E.2.1 with
  | .getfield idx => if E.2.2.2.1 = 99 then (if E.2.2.2.2.1 = 0 then some (.fieldLink own idx "java/lang/String" "value" "[B") else some (.fieldLink own idx "java/lang/String" "coder" "B")) else (tCls[E.2.2.2.1]?).map fun q => .fieldLink own idx (q.2.1 E.2.2.2.2.1).1 (q.2.1 E.2.2.2.2.1).2.1 (q.2.1 E.2.2.2.2.1).2.2.1
  | .putfield idx => (tCls[E.2.2.2.1]?).map fun q => .fieldLink own idx (q.2.1 E.2.2.2.2.1).1 (q.2.1 E.2.2.2.2.1).2.1 (q.2.1 E.2.2.2.2.1).2.2.1
  | .getstatic idx => if E.2.2.2.1 = 0 then some (.fieldLink own idx "java/lang/String" "COMPACT_STRINGS" "Z") else some (.fieldLink own idx "jdk/internal/util/Preconditions" "SIOOBE_FORMATTER" "Ljava/util/function/BiFunction;")
  | .ldc idx => some (.constant own idx (Int32.ofInt E.2.2.2.2.2))
  | .ldc_w idx => some (.constant own idx (Int32.ofInt E.2.2.2.2.2))
  | .ldc2_w idx => some (.constantLong own idx (Int64.ofInt E.2.2.2.2.2))
  | .new idx => (tCls[E.2.2.2.1]?).map fun q => .classLink own idx q.1
  | .anewarray idx => if E.2.2.2.1 = 3 then some (.classLink own idx "DoorPaints$Visitor") else if E.2.2.2.1 = 4 then some (.classLink own idx "DoorPaints$Door") else if E.2.2.2.1 = 5 then some (.classLink own idx "DoorPaints$Told") else if E.2.2.2.1 = 6 then some (.classLink own idx "DoorPaints$Sheet") else none
  | .invokestatic idx => if E.2.2.2.1 = 9998 then some (.methodLink own idx Lib.Math.max.name) else (tMT[E.2.2.2.1]?).map fun M => .methodLink own idx M.1
  | .invokevirtual idx => (tMT[E.2.2.2.1]?).map fun M => .methodLink own idx M.1
  | .invokespecial idx => if E.2.2.2.1 = 9999 then some (.methodLink own idx Lib.objectInit) else (tMT[E.2.2.2.1]?).map fun M => .methodLink own idx M.1
  | _ => none
def eWin (own : String) (E : MI) (k : Nat) : Bool := match eW own E with
  | some w => wIn k w
  | none => false
/-- a call of a nest mate: its row in tNest -/
def eNest (own : String) (E : MI) (idx k : Nat) : Bool := match tNest[k]?, tMT[E.2.2.2.1]? with
  | some q, some M => decide (q.1 = own ∧ q.2.1 = idx ∧ q.2.2.1 = M.1)
  | _, _ => false
def eKd (E : MI) (kd np : Nat) : Bool := match tKd[E.2.2.2.1]? with
  | some q => decide (0 < E.2.2.2.1 ∧ E.2.2.2.1 < 9000 ∧ q.1 = kd ∧ q.2.2.2.2.2 = np)
  | none => false
def eCl (E : MI) : Bool := match tMT[E.2.2.2.1]? with
  | some M => decide (E.2.2.2.2.2 = 99 ∧ M.1.cls = "java/lang/String") || (decide (0 ≤ E.2.2.2.2.2) && (match tCls[E.2.2.2.2.2.toNat]? with | some q => decide (q.1 = M.1.cls) | none => false))
  | none => false
def eB (own nm : String) (E : MI) (k : Nat) : Bool := match E.2.1 with
  | .getfield _ => eWin own E k && (if E.2.2.2.1 = 99 then decide (E.2.2.2.2.1 ≤ 1) else (match tCls[E.2.2.2.1]? with | some q => decide (E.2.2.2.2.1 < q.2.2) | none => false))
  | .putfield _ => eWin own E k && (match tCls[E.2.2.2.1]? with | some q => decide (E.2.2.2.2.1 < q.2.2) && (!(q.2.1 E.2.2.2.2.1).2.2.2 || decide (nm = "<init>" ∧ (q.2.1 E.2.2.2.2.1).1 = own)) | none => false)
  | .getstatic _ => eWin own E k && (if E.2.2.2.1 = 0 then decide (E.2.2.2.2.2 = 1) else decide (E.2.2.2.2.1 = 100))
  | .ldc idx => if E.2.2.2.1 = 0 then eWin own E k else decide (¬ E.2.2.2.2.1 = 100) && decide (tStr[k - 20000]? = some (own, idx, E.2.2.2.2.1))
  | .ldc_w _ => eWin own E k
  | .ldc2_w _ => eWin own E k
  | .new _ => eWin own E k
  | .anewarray _ => eWin own E k
  | .aastore => (match tCls[E.2.2.2.1]? with | some q => decide ((E.2.2.2.2.1 = 3 ∧ q.1 = "DoorPaints$Visitor") ∨ (E.2.2.2.2.1 = 4 ∧ q.1 = "DoorPaints$Door") ∨ (E.2.2.2.2.1 = 5 ∧ q.1 = "DoorPaints$Told") ∨ (E.2.2.2.2.1 = 6 ∧ q.1 = "DoorPaints$Sheet")) | none => false)
  | .invokestatic idx => if E.2.2.2.1 = 9998 then decide (E.2.2.2.2.1 = 2) && eWin own E k else eKd E 0 E.2.2.2.2.1 && (if k < 10000 then eWin own E k else eNest own E idx (k - 10000))
  | .invokespecial idx => if E.2.2.2.1 = 9999 then decide (E.2.2.2.2.1 = 1) && eWin own E k else eKd E 2 (E.2.2.2.2.1 - 1) && (if k < 10000 then eWin own E k else eNest own E idx (k - 10000))
  | .invokevirtual _ => eKd E 1 (E.2.2.2.2.1 - 1) && eWin own E k && eCl E
  | _ => true
def kOK (own nm : String) : List MI → List Nat → Bool
  | [], [] => true
  | E :: L, k :: K => eB own nm E k && kOK own nm L K
  | _, _ => false
def kAll (own nm : String) (L : List MI) : Prop := ∀ E ∈ L, ∃ k, eB own nm E k = true
theorem kOK_of {own nm : String} : ∀ {L : List MI} {K : List Nat}, kOK own nm L K = true → kAll own nm L
  | [], _, _ => fun E h => absurd h List.not_mem_nil
  | E :: L, [], h => by simp [kOK] at h
  | E :: L, k :: K, h => by
    simp only [kOK, Bool.and_eq_true] at h
    intro E' h'
    rcases List.mem_cons.mp h' with rfl | h'
    · exact ⟨k, h.1⟩
    · exact kOK_of h.2 E' h'
theorem kOK_app {own nm : String} {L L2 : List MI} {K : List Nat} (h : kOK own nm L K = true) (h2 : kAll own nm L2) : kAll own nm (L ++ L2) := by
  intro E hE
  rcases List.mem_append.mp hE with h' | h'
  · exact kOK_of h E h'
  · exact h2 E h'
end
section
/-! TABLES: the links stand in the tables (written by a program) -/
theorem lk0_0 : kOK "DoorPaintsLaw" "law" cL0_0 cK0_0 = true := by decide +kernel
theorem lk0_1 : kOK "DoorPaintsLaw" "law" cL0_1 cK0_1 = true := by decide +kernel
theorem lk0_2 : kOK "DoorPaintsLaw" "law" cL0_2 cK0_2 = true := by decide +kernel
theorem lk0_3 : kOK "DoorPaintsLaw" "law" cL0_3 cK0_3 = true := by decide +kernel
theorem lk0_4 : kOK "DoorPaintsLaw" "law" cL0_4 cK0_4 = true := by decide +kernel
theorem lk0_5 : kOK "DoorPaintsLaw" "law" cL0_5 cK0_5 = true := by decide +kernel
theorem lk0_6 : kOK "DoorPaintsLaw" "law" cL0_6 cK0_6 = true := by decide +kernel
theorem lk0_7 : kOK "DoorPaintsLaw" "law" cL0_7 cK0_7 = true := by decide +kernel
theorem lk0_8 : kOK "DoorPaintsLaw" "law" cL0_8 cK0_8 = true := by decide +kernel
theorem lk0_9 : kOK "DoorPaintsLaw" "law" cL0_9 cK0_9 = true := by decide +kernel
theorem lk0_10 : kOK "DoorPaintsLaw" "law" cL0_10 cK0_10 = true := by decide +kernel
theorem lk0_11 : kOK "DoorPaintsLaw" "law" cL0_11 cK0_11 = true := by decide +kernel
theorem lk0_12 : kOK "DoorPaintsLaw" "law" cL0_12 cK0_12 = true := by decide +kernel
theorem lk0_13 : kOK "DoorPaintsLaw" "law" cL0_13 cK0_13 = true := by decide +kernel
theorem lk0_14 : kOK "DoorPaintsLaw" "law" cL0_14 cK0_14 = true := by decide +kernel
theorem lk0_15 : kOK "DoorPaintsLaw" "law" cL0_15 cK0_15 = true := by decide +kernel
theorem lk0_16 : kOK "DoorPaintsLaw" "law" cL0_16 cK0_16 = true := by decide +kernel
theorem lk0_17 : kOK "DoorPaintsLaw" "law" cL0_17 cK0_17 = true := by decide +kernel
theorem lk0 : kAll "DoorPaintsLaw" "law" cL0 := kOK_app lk0_0 (kOK_app lk0_1 (kOK_app lk0_2 (kOK_app lk0_3 (kOK_app lk0_4 (kOK_app lk0_5 (kOK_app lk0_6 (kOK_app lk0_7 (kOK_app lk0_8 (kOK_app lk0_9 (kOK_app lk0_10 (kOK_app lk0_11 (kOK_app lk0_12 (kOK_app lk0_13 (kOK_app lk0_14 (kOK_app lk0_15 (kOK_app lk0_16 (kOK_of lk0_17)))))))))))))))))
theorem lk1_0 : kOK "DoorPaints" "<init>" cL1_0 cK1_0 = true := by decide +kernel
theorem lk1_1 : kOK "DoorPaints" "<init>" cL1_1 cK1_1 = true := by decide +kernel
theorem lk1 : kAll "DoorPaints" "<init>" cL1 := kOK_app lk1_0 (kOK_of lk1_1)
theorem lk2 : kAll "DoorPaints$Reader" "<init>" cL2 := kOK_of (by decide +kernel : kOK "DoorPaints$Reader" "<init>" cL2 cK2 = true)
theorem lk3 : kAll "DoorPaints$Told" "<init>" cL3 := kOK_of (by decide +kernel : kOK "DoorPaints$Told" "<init>" cL3 cK3 = true)
theorem lk4 : kAll "DoorPaints$Town" "<init>" cL4 := kOK_of (by decide +kernel : kOK "DoorPaints$Town" "<init>" cL4 cK4 = true)
theorem lk5 : kAll "DoorPaints$Visitor" "<init>" cL5 := kOK_of (by decide +kernel : kOK "DoorPaints$Visitor" "<init>" cL5 cK5 = true)
theorem lk6 : kAll "DoorPaints$Door" "<init>" cL6 := kOK_of (by decide +kernel : kOK "DoorPaints$Door" "<init>" cL6 cK6 = true)
theorem lk7 : kAll "DoorPaints$Tape" "<init>" cL7 := kOK_of (by decide +kernel : kOK "DoorPaints$Tape" "<init>" cL7 cK7 = true)
theorem lk8 : kAll "DoorPaints$Search" "<init>" cL8 := kOK_of (by decide +kernel : kOK "DoorPaints$Search" "<init>" cL8 cK8 = true)
theorem lk9 : kAll "DoorPaints$Sheet" "<init>" cL9 := kOK_of (by decide +kernel : kOK "DoorPaints$Sheet" "<init>" cL9 cK9 = true)
theorem lk10 : kAll "DoorPaints" "feed" cL10 := kOK_of (by decide +kernel : kOK "DoorPaints" "feed" cL10 cK10 = true)
theorem lk11 : kAll "DoorPaints$Tape" "append" cL11 := kOK_of (by decide +kernel : kOK "DoorPaints$Tape" "append" cL11 cK11 = true)
theorem lk12 : kAll "DoorPaints" "end" cL12 := kOK_of (by decide +kernel : kOK "DoorPaints" "end" cL12 cK12 = true)
theorem lk13 : kAll "DoorPaints" "text" cL13 := kOK_of (by decide +kernel : kOK "DoorPaints" "text" cL13 cK13 = true)
theorem lk14_0 : kOK "DoorPaints$Reader" "readAll" cL14_0 cK14_0 = true := by decide +kernel
theorem lk14_1 : kOK "DoorPaints$Reader" "readAll" cL14_1 cK14_1 = true := by decide +kernel
theorem lk14 : kAll "DoorPaints$Reader" "readAll" cL14 := kOK_app lk14_0 (kOK_of lk14_1)
theorem lk15 : kAll "DoorPaints$Told" "clear" cL15 := kOK_of (by decide +kernel : kOK "DoorPaints$Told" "clear" cL15 cK15 = true)
theorem lk16 : kAll "DoorPaints$Town" "clear" cL16 := kOK_of (by decide +kernel : kOK "DoorPaints$Town" "clear" cL16 cK16 = true)
theorem lk17 : kAll "DoorPaints$Door" "clear" cL17 := kOK_of (by decide +kernel : kOK "DoorPaints$Door" "clear" cL17 cK17 = true)
theorem lk18 : kAll "DoorPaints$Tape" "rewind" cL18 := kOK_of (by decide +kernel : kOK "DoorPaints$Tape" "rewind" cL18 cK18 = true)
theorem lk19_0 : kOK "DoorPaints$Tape" "advance" cL19_0 cK19_0 = true := by decide +kernel
theorem lk19_1 : kOK "DoorPaints$Tape" "advance" cL19_1 cK19_1 = true := by decide +kernel
theorem lk19 : kAll "DoorPaints$Tape" "advance" cL19 := kOK_app lk19_0 (kOK_of lk19_1)
theorem lk20 : kAll "DoorPaints$Tape" "skip" cL20 := kOK_of (by decide +kernel : kOK "DoorPaints$Tape" "skip" cL20 cK20 = true)
theorem lk21 : kAll "DoorPaints$Tape" "takeNumber" cL21 := kOK_of (by decide +kernel : kOK "DoorPaints$Tape" "takeNumber" cL21 cK21 = true)
theorem lk22 : kAll "DoorPaints$Reader" "readLine" cL22 := kOK_of (by decide +kernel : kOK "DoorPaints$Reader" "readLine" cL22 cK22 = true)
theorem lk23 : kAll "DoorPaints$Reader" "stands" cL23 := kOK_of (by decide +kernel : kOK "DoorPaints$Reader" "stands" cL23 cK23 = true)
theorem lk24 : kAll "DoorPaints$Reader" "fail" cL24 := kOK_of (by decide +kernel : kOK "DoorPaints$Reader" "fail" cL24 cK24 = true)
theorem lk25 : kAll "DoorPaints$Tape" "nameIs" cL25 := kOK_of (by decide +kernel : kOK "DoorPaints$Tape" "nameIs" cL25 cK25 = true)
theorem lk26 : kAll "java/lang/String" "length" cL26 := kOK_of (by decide +kernel : kOK "java/lang/String" "length" cL26 cK26 = true)
theorem lk27 : kAll "java/lang/String" "coder" cL27 := kOK_of (by decide +kernel : kOK "java/lang/String" "coder" cL27 cK27 = true)
theorem lk28 : kAll "java/lang/String" "charAt" cL28 := kOK_of (by decide +kernel : kOK "java/lang/String" "charAt" cL28 cK28 = true)
theorem lk29 : kAll "java/lang/String" "isLatin1" cL29 := kOK_of (by decide +kernel : kOK "java/lang/String" "isLatin1" cL29 cK29 = true)
theorem lk30 : kAll "java/lang/StringLatin1" "charAt" cL30 := kOK_of (by decide +kernel : kOK "java/lang/StringLatin1" "charAt" cL30 cK30 = true)
theorem lk31 : kAll "java/lang/String" "checkIndex" cL31 := kOK_of (by decide +kernel : kOK "java/lang/String" "checkIndex" cL31 cK31 = true)
theorem lk32 : kAll "jdk/internal/util/Preconditions" "checkIndex" cL32 := kOK_of (by decide +kernel : kOK "jdk/internal/util/Preconditions" "checkIndex" cL32 cK32 = true)
theorem lk33_0 : kOK "DoorPaints$Reader" "readDoor" cL33_0 cK33_0 = true := by decide +kernel
theorem lk33_1 : kOK "DoorPaints$Reader" "readDoor" cL33_1 cK33_1 = true := by decide +kernel
theorem lk33 : kAll "DoorPaints$Reader" "readDoor" cL33 := kOK_app lk33_0 (kOK_of lk33_1)
theorem lk34 : kAll "DoorPaints$Reader" "numberStands" cL34 := kOK_of (by decide +kernel : kOK "DoorPaints$Reader" "numberStands" cL34 cK34 = true)
theorem lk35 : kAll "DoorPaints$Door" "addLayer" cL35 := kOK_of (by decide +kernel : kOK "DoorPaints$Door" "addLayer" cL35 cK35 = true)
theorem lk36 : kAll "DoorPaints$Reader" "endLine" cL36 := kOK_of (by decide +kernel : kOK "DoorPaints$Reader" "endLine" cL36 cK36 = true)
theorem lk37 : kAll "DoorPaints$Reader" "readNot" cL37 := kOK_of (by decide +kernel : kOK "DoorPaints$Reader" "readNot" cL37 cK37 = true)
end
section
/-! TABLES: the links stand in the tables (written by a program) -/
theorem lk38 : kAll "DoorPaints$Door" "forbids" cL38 := kOK_of (by decide +kernel : kOK "DoorPaints$Door" "forbids" cL38 cK38 = true)
theorem lk39 : kAll "DoorPaints$Door" "forbid" cL39 := kOK_of (by decide +kernel : kOK "DoorPaints$Door" "forbid" cL39 cK39 = true)
theorem lk40_0 : kOK "DoorPaints$Reader" "readPlan" cL40_0 cK40_0 = true := by decide +kernel
theorem lk40_1 : kOK "DoorPaints$Reader" "readPlan" cL40_1 cK40_1 = true := by decide +kernel
theorem lk40 : kAll "DoorPaints$Reader" "readPlan" cL40 := kOK_app lk40_0 (kOK_of lk40_1)
theorem lk41 : kAll "DoorPaints" "isAct" cL41 := kOK_of (by decide +kernel : kOK "DoorPaints" "isAct" cL41 cK41 = true)
theorem lk42 : kAll "DoorPaints" "isSkyAct" cL42 := kOK_of (by decide +kernel : kOK "DoorPaints" "isSkyAct" cL42 cK42 = true)
theorem lk43 : kAll "DoorPaints$Told" "addAct" cL43 := kOK_of (by decide +kernel : kOK "DoorPaints$Told" "addAct" cL43 cK43 = true)
theorem lk44 : kAll "DoorPaints$Reader" "kindNamed" cL44 := kOK_of (by decide +kernel : kOK "DoorPaints$Reader" "kindNamed" cL44 cK44 = true)
theorem lk45_0 : kOK "DoorPaints$Reader" "readVisitor" cL45_0 cK45_0 = true := by decide +kernel
theorem lk45_1 : kOK "DoorPaints$Reader" "readVisitor" cL45_1 cK45_1 = true := by decide +kernel
theorem lk45 : kAll "DoorPaints$Reader" "readVisitor" cL45 := kOK_app lk45_0 (kOK_of lk45_1)
theorem lk46 : kAll "DoorPaints$Town" "addVisitor" cL46 := kOK_of (by decide +kernel : kOK "DoorPaints$Town" "addVisitor" cL46 cK46 = true)
theorem lk47 : kAll "DoorPaints$Told" "isWhole" cL47 := kOK_of (by decide +kernel : kOK "DoorPaints$Told" "isWhole" cL47 cK47 = true)
theorem lk48 : kAll "DoorPaints$Town" "knows" cL48 := kOK_of (by decide +kernel : kOK "DoorPaints$Town" "knows" cL48 cK48 = true)
theorem lk49 : kAll "DoorPaints$Town" "hasVisitor" cL49 := kOK_of (by decide +kernel : kOK "DoorPaints$Town" "hasVisitor" cL49 cK49 = true)
theorem lk50 : kAll "DoorPaints$Town" "hasDoor" cL50 := kOK_of (by decide +kernel : kOK "DoorPaints$Town" "hasDoor" cL50 cK50 = true)
theorem lk51_0 : kOK "DoorPaints$Told" "become" cL51_0 cK51_0 = true := by decide +kernel
theorem lk51_1 : kOK "DoorPaints$Told" "become" cL51_1 cK51_1 = true := by decide +kernel
theorem lk51 : kAll "DoorPaints$Told" "become" cL51 := kOK_app lk51_0 (kOK_of lk51_1)
theorem lk52 : kAll "DoorPaints$Town" "become" cL52 := kOK_of (by decide +kernel : kOK "DoorPaints$Town" "become" cL52 cK52 = true)
theorem lk53 : kAll "DoorPaints$Visitor" "become" cL53 := kOK_of (by decide +kernel : kOK "DoorPaints$Visitor" "become" cL53 cK53 = true)
theorem lk54 : kAll "DoorPaints$Door" "become" cL54 := kOK_of (by decide +kernel : kOK "DoorPaints$Door" "become" cL54 cK54 = true)
theorem lk55 : kAll "DoorPaints" "fault" cL55 := kOK_of (by decide +kernel : kOK "DoorPaints" "fault" cL55 cK55 = true)
theorem lk56 : kAll "DoorPaints" "rule" cL56 := kOK_of (by decide +kernel : kOK "DoorPaints" "rule" cL56 cK56 = true)
theorem lk57 : kAll "DoorPaints$Town" "wetBits" cL57 := kOK_of (by decide +kernel : kOK "DoorPaints$Town" "wetBits" cL57 cK57 = true)
theorem lk58 : kAll "DoorPaints$Town" "wrongBits" cL58 := kOK_of (by decide +kernel : kOK "DoorPaints$Town" "wrongBits" cL58 cK58 = true)
theorem lk59 : kAll "DoorPaints$Door" "isWrong" cL59 := kOK_of (by decide +kernel : kOK "DoorPaints$Door" "isWrong" cL59 cK59 = true)
theorem lk60 : kAll "DoorPaints$Door" "shown" cL60 := kOK_of (by decide +kernel : kOK "DoorPaints$Door" "shown" cL60 cK60 = true)
theorem lk61 : kAll "DoorPaints$Town" "allPaint" cL61 := kOK_of (by decide +kernel : kOK "DoorPaints$Town" "allPaint" cL61 cK61 = true)
theorem lk62 : kAll "DoorPaints" "visitor" cL62 := kOK_of (by decide +kernel : kOK "DoorPaints" "visitor" cL62 cK62 = true)
theorem lk63 : kAll "DoorPaints$Town" "brushOf" cL63 := kOK_of (by decide +kernel : kOK "DoorPaints$Town" "brushOf" cL63 cK63 = true)
theorem lk64 : kAll "DoorPaints" "door" cL64 := kOK_of (by decide +kernel : kOK "DoorPaints" "door" cL64 cK64 = true)
theorem lk65 : kAll "DoorPaints$Door" "layerAt" cL65 := kOK_of (by decide +kernel : kOK "DoorPaints$Door" "layerAt" cL65 cK65 = true)
theorem lk66 : kAll "DoorPaints" "plan" cL66 := kOK_of (by decide +kernel : kOK "DoorPaints" "plan" cL66 cK66 = true)
theorem lk67 : kAll "DoorPaints" "uses" cL67 := kOK_of (by decide +kernel : kOK "DoorPaints" "uses" cL67 cK67 = true)
theorem lk68 : kAll "DoorPaints$Town" "costOf" cL68 := kOK_of (by decide +kernel : kOK "DoorPaints$Town" "costOf" cL68 cK68 = true)
theorem lk69 : kAll "DoorPaints" "visit" cL69 := kOK_of (by decide +kernel : kOK "DoorPaints" "visit" cL69 cK69 = true)
theorem lk70_0 : kOK "DoorPaints$Town" "receive" cL70_0 cK70_0 = true := by decide +kernel
theorem lk70_1 : kOK "DoorPaints$Town" "receive" cL70_1 cK70_1 = true := by decide +kernel
theorem lk70 : kAll "DoorPaints$Town" "receive" cL70 := kOK_app lk70_0 (kOK_of lk70_1)
theorem lk71 : kAll "DoorPaints$Door" "takesNoLayer" cL71 := kOK_of (by decide +kernel : kOK "DoorPaints$Door" "takesNoLayer" cL71 cK71 = true)
theorem lk72 : kAll "DoorPaints$Visitor" "markSleeve" cL72 := kOK_of (by decide +kernel : kOK "DoorPaints$Visitor" "markSleeve" cL72 cK72 = true)
theorem lk73 : kAll "DoorPaints" "isColour" cL73 := kOK_of (by decide +kernel : kOK "DoorPaints" "isColour" cL73 cK73 = true)
theorem lk74 : kAll "DoorPaints$Door" "paintWith" cL74 := kOK_of (by decide +kernel : kOK "DoorPaints$Door" "paintWith" cL74 cK74 = true)
theorem lk75 : kAll "DoorPaints" "sky" cL75 := kOK_of (by decide +kernel : kOK "DoorPaints" "sky" cL75 cK75 = true)
theorem lk76 : kAll "DoorPaints$Town" "weather" cL76 := kOK_of (by decide +kernel : kOK "DoorPaints$Town" "weather" cL76 cK76 = true)
theorem lk77 : kAll "DoorPaints$Door" "rainOn" cL77 := kOK_of (by decide +kernel : kOK "DoorPaints$Door" "rainOn" cL77 cK77 = true)
theorem lk78 : kAll "DoorPaints$Door" "loseTop" cL78 := kOK_of (by decide +kernel : kOK "DoorPaints$Door" "loseTop" cL78 cK78 = true)
theorem lk79 : kAll "DoorPaints$Door" "shineOn" cL79 := kOK_of (by decide +kernel : kOK "DoorPaints$Door" "shineOn" cL79 cK79 = true)
theorem lk80 : kAll "DoorPaints$Town" "allLayers" cL80 := kOK_of (by decide +kernel : kOK "DoorPaints$Town" "allLayers" cL80 cK80 = true)
theorem lk81 : kAll "DoorPaints" "scrape" cL81 := kOK_of (by decide +kernel : kOK "DoorPaints" "scrape" cL81 cK81 = true)
theorem lk82_0 : kOK "DoorPaints" "alter" cL82_0 cK82_0 = true := by decide +kernel
theorem lk82_1 : kOK "DoorPaints" "alter" cL82_1 cK82_1 = true := by decide +kernel
theorem lk82 : kAll "DoorPaints" "alter" cL82 := kOK_app lk82_0 (kOK_of lk82_1)
theorem lk83 : kAll "DoorPaints" "ought" cL83 := kOK_of (by decide +kernel : kOK "DoorPaints" "ought" cL83 cK83 = true)
theorem lk84 : kAll "DoorPaints" "plans" cL84 := kOK_of (by decide +kernel : kOK "DoorPaints" "plans" cL84 cK84 = true)
theorem lk85 : kAll "DoorPaints" "cut" cL85 := kOK_of (by decide +kernel : kOK "DoorPaints" "cut" cL85 cK85 = true)
theorem lk86 : kAll "DoorPaints" "runs" cL86 := kOK_of (by decide +kernel : kOK "DoorPaints" "runs" cL86 cK86 = true)
theorem lk87 : kAll "DoorPaints" "rehearse" cL87 := kOK_of (by decide +kernel : kOK "DoorPaints" "rehearse" cL87 cK87 = true)
theorem lk88 : kAll "DoorPaints" "actInTrial" cL88 := kOK_of (by decide +kernel : kOK "DoorPaints" "actInTrial" cL88 cK88 = true)
theorem lk89 : kAll "DoorPaints$Town" "undergo" cL89 := kOK_of (by decide +kernel : kOK "DoorPaints$Town" "undergo" cL89 cK89 = true)
theorem lk90 : kAll "DoorPaints" "isRefusal" cL90 := kOK_of (by decide +kernel : kOK "DoorPaints" "isRefusal" cL90 cK90 = true)
theorem lk91 : kAll "DoorPaints" "takenInTrial" cL91 := kOK_of (by decide +kernel : kOK "DoorPaints" "takenInTrial" cL91 cK91 = true)
theorem lk92 : kAll "DoorPaints$Town" "markedBits" cL92 := kOK_of (by decide +kernel : kOK "DoorPaints$Town" "markedBits" cL92 cK92 = true)
theorem lk93 : kAll "DoorPaints" "ahead" cL93 := kOK_of (by decide +kernel : kOK "DoorPaints" "ahead" cL93 cK93 = true)
end
section
/-! TABLES: the links stand in the tables (written by a program) -/
theorem lk94 : kAll "DoorPaints" "clears" cL94 := kOK_of (by decide +kernel : kOK "DoorPaints" "clears" cL94 cK94 = true)
theorem lk95 : kAll "DoorPaints" "best" cL95 := kOK_of (by decide +kernel : kOK "DoorPaints" "best" cL95 cK95 = true)
theorem lk96 : kAll "DoorPaints$Search" "forBest" cL96 := kOK_of (by decide +kernel : kOK "DoorPaints$Search" "forBest" cL96 cK96 = true)
theorem lk97 : kAll "DoorPaints$Search" "begin" cL97 := kOK_of (by decide +kernel : kOK "DoorPaints$Search" "begin" cL97 cK97 = true)
theorem lk98 : kAll "DoorPaints$Town" "hasVisits" cL98 := kOK_of (by decide +kernel : kOK "DoorPaints$Town" "hasVisits" cL98 cK98 = true)
theorem lk99 : kAll "java/lang/Integer" "bitCount" cL99 := kOK_of (by decide +kernel : kOK "java/lang/Integer" "bitCount" cL99 cK99 = true)
theorem lk100_0 : kOK "DoorPaints$Search" "tryFrom" cL100_0 cK100_0 = true := by decide +kernel
theorem lk100_1 : kOK "DoorPaints$Search" "tryFrom" cL100_1 cK100_1 = true := by decide +kernel
theorem lk100 : kAll "DoorPaints$Search" "tryFrom" cL100 := kOK_app lk100_0 (kOK_of lk100_1)
theorem lk101 : kAll "DoorPaints$Search" "isBetter" cL101 := kOK_of (by decide +kernel : kOK "DoorPaints$Search" "isBetter" cL101 cK101 = true)
theorem lk102 : kAll "DoorPaints$Search" "take" cL102 := kOK_of (by decide +kernel : kOK "DoorPaints$Search" "take" cL102 cK102 = true)
theorem lk103 : kAll "DoorPaints$Search" "mayImprove" cL103 := kOK_of (by decide +kernel : kOK "DoorPaints$Search" "mayImprove" cL103 cK103 = true)
theorem lk104_0 : kOK "DoorPaints$Search" "tryVisit" cL104_0 cK104_0 = true := by decide +kernel
theorem lk104_1 : kOK "DoorPaints$Search" "tryVisit" cL104_1 cK104_1 = true := by decide +kernel
theorem lk104 : kAll "DoorPaints$Search" "tryVisit" cL104 := kOK_app lk104_0 (kOK_of lk104_1)
theorem lk105 : kAll "DoorPaints$Door" "restore" cL105 := kOK_of (by decide +kernel : kOK "DoorPaints$Door" "restore" cL105 cK105 = true)
theorem lk106 : kAll "DoorPaints$Search" "visitAt" cL106 := kOK_of (by decide +kernel : kOK "DoorPaints$Search" "visitAt" cL106 cK106 = true)
theorem lk107 : kAll "DoorPaints" "few" cL107 := kOK_of (by decide +kernel : kOK "DoorPaints" "few" cL107 cK107 = true)
theorem lk108 : kAll "DoorPaints$Search" "clearsAll" cL108 := kOK_of (by decide +kernel : kOK "DoorPaints$Search" "clearsAll" cL108 cK108 = true)
theorem lk109 : kAll "DoorPaints" "reads" cL109 := kOK_of (by decide +kernel : kOK "DoorPaints" "reads" cL109 cK109 = true)
theorem lk110 : kAll "DoorPaints$Door" "hasLayerOf" cL110 := kOK_of (by decide +kernel : kOK "DoorPaints$Door" "hasLayerOf" cL110 cK110 = true)
theorem lk111 : kAll "DoorPaints" "see" cL111 := kOK_of (by decide +kernel : kOK "DoorPaints" "see" cL111 cK111 = true)
theorem lk112 : kAll "DoorPaints$Told" "addSeen" cL112 := kOK_of (by decide +kernel : kOK "DoorPaints$Told" "addSeen" cL112 cK112 = true)
theorem lk113 : kAll "DoorPaints" "forget" cL113 := kOK_of (by decide +kernel : kOK "DoorPaints" "forget" cL113 cK113 = true)
theorem lk114_0 : kOK "DoorPaints" "pots" cL114_0 cK114_0 = true := by decide +kernel
theorem lk114_1 : kOK "DoorPaints" "pots" cL114_1 cK114_1 = true := by decide +kernel
theorem lk114 : kAll "DoorPaints" "pots" cL114 := kOK_app lk114_0 (kOK_of lk114_1)
theorem lk115 : kAll "DoorPaints$Town" "lend" cL115 := kOK_of (by decide +kernel : kOK "DoorPaints$Town" "lend" cL115 cK115 = true)
theorem lk116 : kAll "DoorPaints$Told" "agreesWith" cL116 := kOK_of (by decide +kernel : kOK "DoorPaints$Told" "agreesWith" cL116 cK116 = true)
theorem lk117 : kAll "DoorPaints" "rained" cL117 := kOK_of (by decide +kernel : kOK "DoorPaints" "rained" cL117 cK117 = true)
theorem lk118 : kAll "DoorPaints" "orders" cL118 := kOK_of (by decide +kernel : kOK "DoorPaints" "orders" cL118 cK118 = true)
theorem lk119 : kAll "DoorPaints" "arrange" cL119 := kOK_of (by decide +kernel : kOK "DoorPaints" "arrange" cL119 cK119 = true)
theorem lk120_0 : kOK "DoorPaints" "judgeOrder" cL120_0 cK120_0 = true := by decide +kernel
theorem lk120_1 : kOK "DoorPaints" "judgeOrder" cL120_1 cK120_1 = true := by decide +kernel
theorem lk120 : kAll "DoorPaints" "judgeOrder" cL120 := kOK_app lk120_0 (kOK_of lk120_1)
theorem lk121_0 : kOK "DoorPaints" "luck" cL121_0 cK121_0 = true := by decide +kernel
theorem lk121_1 : kOK "DoorPaints" "luck" cL121_1 cK121_1 = true := by decide +kernel
theorem lk121 : kAll "DoorPaints" "luck" cL121 := kOK_app lk121_0 (kOK_of lk121_1)
theorem lk122 : kAll "DoorPaints$Told" "visitsPlanned" cL122 := kOK_of (by decide +kernel : kOK "DoorPaints$Told" "visitsPlanned" cL122 cK122 = true)
theorem lk123 : kAll "DoorPaints" "weightOf" cL123 := kOK_of (by decide +kernel : kOK "DoorPaints" "weightOf" cL123 cK123 = true)
theorem lk124 : kAll "DoorPaints" "actChosen" cL124 := kOK_of (by decide +kernel : kOK "DoorPaints" "actChosen" cL124 cK124 = true)
theorem lk125 : kAll "DoorPaints" "powerOfTen" cL125 := kOK_of (by decide +kernel : kOK "DoorPaints" "powerOfTen" cL125 cK125 = true)
theorem lk126 : kAll "DoorPaints" "ofFraction" cL126 := kOK_of (by decide +kernel : kOK "DoorPaints" "ofFraction" cL126 cK126 = true)
theorem lk127_0 : kOK "DoorPaints" "mean" cL127_0 cK127_0 = true := by decide +kernel
theorem lk127_1 : kOK "DoorPaints" "mean" cL127_1 cK127_1 = true := by decide +kernel
theorem lk127 : kAll "DoorPaints" "mean" cL127 := kOK_app lk127_0 (kOK_of lk127_1)
theorem lk128_0 : kOK "DoorPaints" "drift" cL128_0 cK128_0 = true := by decide +kernel
theorem lk128_1 : kOK "DoorPaints" "drift" cL128_1 cK128_1 = true := by decide +kernel
theorem lk128 : kAll "DoorPaints" "drift" cL128 := kOK_app lk128_0 (kOK_of lk128_1)
theorem lk129 : kAll "DoorPaints$Town" "actBySeed" cL129 := kOK_of (by decide +kernel : kOK "DoorPaints$Town" "actBySeed" cL129 cK129 = true)
theorem lk130 : kAll "DoorPaints" "keep" cL130 := kOK_of (by decide +kernel : kOK "DoorPaints" "keep" cL130 cK130 = true)
theorem lk131 : kAll "DoorPaints" "back" cL131 := kOK_of (by decide +kernel : kOK "DoorPaints" "back" cL131 cK131 = true)
theorem lk132 : kAll "DoorPaints" "sheet" cL132 := kOK_of (by decide +kernel : kOK "DoorPaints" "sheet" cL132 cK132 = true)
theorem lk133 : kAll "DoorPaints" "isSheet" cL133 := kOK_of (by decide +kernel : kOK "DoorPaints" "isSheet" cL133 cK133 = true)
theorem lk134 : kAll "DoorPaints" "isLane" cL134 := kOK_of (by decide +kernel : kOK "DoorPaints" "isLane" cL134 cK134 = true)
theorem lk135 : kAll "DoorPaints$Sheet" "renew" cL135 := kOK_of (by decide +kernel : kOK "DoorPaints$Sheet" "renew" cL135 cK135 = true)
theorem lk136 : kAll "DoorPaints" "lay" cL136 := kOK_of (by decide +kernel : kOK "DoorPaints" "lay" cL136 cK136 = true)
theorem lk137 : kAll "DoorPaints$Sheet" "faultAt" cL137 := kOK_of (by decide +kernel : kOK "DoorPaints$Sheet" "faultAt" cL137 cK137 = true)
theorem lk138 : kAll "DoorPaints$Sheet" "put" cL138 := kOK_of (by decide +kernel : kOK "DoorPaints$Sheet" "put" cL138 cK138 = true)
theorem lk139_0 : kOK "DoorPaints" "read" cL139_0 cK139_0 = true := by decide +kernel
theorem lk139_1 : kOK "DoorPaints" "read" cL139_1 cK139_1 = true := by decide +kernel
theorem lk139 : kAll "DoorPaints" "read" cL139 := kOK_app lk139_0 (kOK_of lk139_1)
theorem lk140 : kAll "DoorPaints$Sheet" "faultOfPair" cL140 := kOK_of (by decide +kernel : kOK "DoorPaints$Sheet" "faultOfPair" cL140 cK140 = true)
theorem lk141 : kAll "DoorPaints$Sheet" "cellAt" cL141 := kOK_of (by decide +kernel : kOK "DoorPaints$Sheet" "cellAt" cL141 cK141 = true)
theorem lk142 : kAll "DoorPaints" "torn" cL142 := kOK_of (by decide +kernel : kOK "DoorPaints" "torn" cL142 cK142 = true)
theorem lk143 : kAll "DoorPaints" "count" cL143 := kOK_of (by decide +kernel : kOK "DoorPaints" "count" cL143 cK143 = true)
theorem lk144_0 : kOK "DoorPaintsModel" "<init>" cL144_0 cK144_0 = true := by decide +kernel
theorem lk144_1 : kOK "DoorPaintsModel" "<init>" cL144_1 cK144_1 = true := by decide +kernel
theorem lk144 : kAll "DoorPaintsModel" "<init>" cL144 := kOK_app lk144_0 (kOK_of lk144_1)
end
section
/-! TABLES: the links stand in the tables (written by a program) -/
theorem lk145 : kAll "DoorPaintsModel" "firstDraft" cL145 := kOK_of (by decide +kernel : kOK "DoorPaintsModel" "firstDraft" cL145 cK145 = true)
theorem lk146_0 : kOK "DoorPaintsModel" "keepDraft" cL146_0 cK146_0 = true := by decide +kernel
theorem lk146_1 : kOK "DoorPaintsModel" "keepDraft" cL146_1 cK146_1 = true := by decide +kernel
theorem lk146 : kAll "DoorPaintsModel" "keepDraft" cL146 := kOK_app lk146_0 (kOK_of lk146_1)
theorem lk147 : kAll "DoorPaintsModel" "feed" cL147 := kOK_of (by decide +kernel : kOK "DoorPaintsModel" "feed" cL147 cK147 = true)
theorem lk148 : kAll "DoorPaintsModel" "in" cL148 := kOK_of (by decide +kernel : kOK "DoorPaintsModel" "in" cL148 cK148 = true)
theorem lk149 : kAll "DoorPaintsModel" "end" cL149 := kOK_of (by decide +kernel : kOK "DoorPaintsModel" "end" cL149 cK149 = true)
theorem lk150_0 : kOK "DoorPaintsModel" "text" cL150_0 cK150_0 = true := by decide +kernel
theorem lk150_1 : kOK "DoorPaintsModel" "text" cL150_1 cK150_1 = true := by decide +kernel
theorem lk150 : kAll "DoorPaintsModel" "text" cL150 := kOK_app lk150_0 (kOK_of lk150_1)
theorem lk151_0 : kOK "DoorPaintsModel" "next" cL151_0 cK151_0 = true := by decide +kernel
theorem lk151_1 : kOK "DoorPaintsModel" "next" cL151_1 cK151_1 = true := by decide +kernel
theorem lk151_2 : kOK "DoorPaintsModel" "next" cL151_2 cK151_2 = true := by decide +kernel
theorem lk151 : kAll "DoorPaintsModel" "next" cL151 := kOK_app lk151_0 (kOK_app lk151_1 (kOK_of lk151_2))
theorem lk152 : kAll "DoorPaintsModel" "byteAt" cL152 := kOK_of (by decide +kernel : kOK "DoorPaintsModel" "byteAt" cL152 cK152 = true)
theorem lk153 : kAll "DoorPaintsModel" "needs" cL153 := kOK_of (by decide +kernel : kOK "DoorPaintsModel" "needs" cL153 cK153 = true)
theorem lk154_0 : kOK "DoorPaintsModel" "readLine" cL154_0 cK154_0 = true := by decide +kernel
theorem lk154_1 : kOK "DoorPaintsModel" "readLine" cL154_1 cK154_1 = true := by decide +kernel
theorem lk154 : kAll "DoorPaintsModel" "readLine" cL154 := kOK_app lk154_0 (kOK_of lk154_1)
theorem lk155_0 : kOK "DoorPaintsModel" "lineNow" cL155_0 cK155_0 = true := by decide +kernel
theorem lk155_1 : kOK "DoorPaintsModel" "lineNow" cL155_1 cK155_1 = true := by decide +kernel
theorem lk155 : kAll "DoorPaintsModel" "lineNow" cL155 := kOK_app lk155_0 (kOK_of lk155_1)
theorem lk156 : kAll "DoorPaintsModel" "is" cL156 := kOK_of (by decide +kernel : kOK "DoorPaintsModel" "is" cL156 cK156 = true)
theorem lk157 : kAll "DoorPaintsModel" "ends" cL157 := kOK_of (by decide +kernel : kOK "DoorPaintsModel" "ends" cL157 cK157 = true)
theorem lk158 : kAll "DoorPaintsModel" "readLineOf" cL158 := kOK_of (by decide +kernel : kOK "DoorPaintsModel" "readLineOf" cL158 cK158 = true)
theorem lk159_0 : kOK "DoorPaintsModel" "readDoor" cL159_0 cK159_0 = true := by decide +kernel
theorem lk159_1 : kOK "DoorPaintsModel" "readDoor" cL159_1 cK159_1 = true := by decide +kernel
theorem lk159 : kAll "DoorPaintsModel" "readDoor" cL159 := kOK_app lk159_0 (kOK_of lk159_1)
theorem lk160 : kAll "DoorPaintsModel" "readNumber" cL160 := kOK_of (by decide +kernel : kOK "DoorPaintsModel" "readNumber" cL160 cK160 = true)
theorem lk161 : kAll "DoorPaintsModel" "looked" cL161 := kOK_of (by decide +kernel : kOK "DoorPaintsModel" "looked" cL161 cK161 = true)
theorem lk162_0 : kOK "DoorPaintsModel" "readNot" cL162_0 cK162_0 = true := by decide +kernel
theorem lk162_1 : kOK "DoorPaintsModel" "readNot" cL162_1 cK162_1 = true := by decide +kernel
theorem lk162 : kAll "DoorPaintsModel" "readNot" cL162 := kOK_app lk162_0 (kOK_of lk162_1)
theorem lk163_0 : kOK "DoorPaintsModel" "readPlan" cL163_0 cK163_0 = true := by decide +kernel
theorem lk163_1 : kOK "DoorPaintsModel" "readPlan" cL163_1 cK163_1 = true := by decide +kernel
theorem lk163 : kAll "DoorPaintsModel" "readPlan" cL163 := kOK_app lk163_0 (kOK_of lk163_1)
theorem lk164 : kAll "DoorPaintsModel" "isActLike" cL164 := kOK_of (by decide +kernel : kOK "DoorPaintsModel" "isActLike" cL164 cK164 = true)
theorem lk165 : kAll "DoorPaintsModel" "readVisitor" cL165 := kOK_of (by decide +kernel : kOK "DoorPaintsModel" "readVisitor" cL165 cK165 = true)
theorem lk166 : kAll "DoorPaintsModel" "fault" cL166 := kOK_of (by decide +kernel : kOK "DoorPaintsModel" "fault" cL166 cK166 = true)
theorem lk167_0 : kOK "DoorPaintsModel" "rule" cL167_0 cK167_0 = true := by decide +kernel
theorem lk167_1 : kOK "DoorPaintsModel" "rule" cL167_1 cK167_1 = true := by decide +kernel
theorem lk167 : kAll "DoorPaintsModel" "rule" cL167 := kOK_app lk167_0 (kOK_of lk167_1)
theorem lk168 : kAll "DoorPaintsModel" "starts" cL168 := kOK_of (by decide +kernel : kOK "DoorPaintsModel" "starts" cL168 cK168 = true)
theorem lk169 : kAll "DoorPaintsModel" "ofDoor" cL169 := kOK_of (by decide +kernel : kOK "DoorPaintsModel" "ofDoor" cL169 cK169 = true)
theorem lk170 : kAll "DoorPaintsModel" "of" cL170 := kOK_of (by decide +kernel : kOK "DoorPaintsModel" "of" cL170 cK170 = true)
theorem lk171 : kAll "DoorPaintsModel" "wrong" cL171 := kOK_of (by decide +kernel : kOK "DoorPaintsModel" "wrong" cL171 cK171 = true)
theorem lk172 : kAll "DoorPaintsModel" "isWrong" cL172 := kOK_of (by decide +kernel : kOK "DoorPaintsModel" "isWrong" cL172 cK172 = true)
theorem lk173 : kAll "DoorPaintsModel" "showsOf" cL173 := kOK_of (by decide +kernel : kOK "DoorPaintsModel" "showsOf" cL173 cK173 = true)
theorem lk174 : kAll "DoorPaintsModel" "layerOf" cL174 := kOK_of (by decide +kernel : kOK "DoorPaintsModel" "layerOf" cL174 cK174 = true)
theorem lk175 : kAll "DoorPaintsModel" "flag" cL175 := kOK_of (by decide +kernel : kOK "DoorPaintsModel" "flag" cL175 cK175 = true)
theorem lk176 : kAll "DoorPaintsModel" "visitor" cL176 := kOK_of (by decide +kernel : kOK "DoorPaintsModel" "visitor" cL176 cK176 = true)
theorem lk177 : kAll "DoorPaintsModel" "isVisitor" cL177 := kOK_of (by decide +kernel : kOK "DoorPaintsModel" "isVisitor" cL177 cK177 = true)
theorem lk178 : kAll "DoorPaintsModel" "brushOf" cL178 := kOK_of (by decide +kernel : kOK "DoorPaintsModel" "brushOf" cL178 cK178 = true)
theorem lk179 : kAll "DoorPaintsModel" "ownBrush" cL179 := kOK_of (by decide +kernel : kOK "DoorPaintsModel" "ownBrush" cL179 cK179 = true)
theorem lk180_0 : kOK "DoorPaintsModel" "door" cL180_0 cK180_0 = true := by decide +kernel
theorem lk180_1 : kOK "DoorPaintsModel" "door" cL180_1 cK180_1 = true := by decide +kernel
theorem lk180 : kAll "DoorPaintsModel" "door" cL180 := kOK_app lk180_0 (kOK_of lk180_1)
theorem lk181 : kAll "DoorPaintsModel" "isDoor" cL181 := kOK_of (by decide +kernel : kOK "DoorPaintsModel" "isDoor" cL181 cK181 = true)
theorem lk182 : kAll "DoorPaintsModel" "plan" cL182 := kOK_of (by decide +kernel : kOK "DoorPaintsModel" "plan" cL182 cK182 = true)
theorem lk183 : kAll "DoorPaintsModel" "uses" cL183 := kOK_of (by decide +kernel : kOK "DoorPaintsModel" "uses" cL183 cK183 = true)
theorem lk184 : kAll "DoorPaintsModel" "usesOf" cL184 := kOK_of (by decide +kernel : kOK "DoorPaintsModel" "usesOf" cL184 cK184 = true)
theorem lk185 : kAll "DoorPaintsModel" "visit" cL185 := kOK_of (by decide +kernel : kOK "DoorPaintsModel" "visit" cL185 cK185 = true)
theorem lk186 : kAll "DoorPaintsModel" "keepsOut" cL186 := kOK_of (by decide +kernel : kOK "DoorPaintsModel" "keepsOut" cL186 cK186 = true)
theorem lk187_0 : kOK "DoorPaintsModel" "visits" cL187_0 cK187_0 = true := by decide +kernel
theorem lk187_1 : kOK "DoorPaintsModel" "visits" cL187_1 cK187_1 = true := by decide +kernel
theorem lk187_2 : kOK "DoorPaintsModel" "visits" cL187_2 cK187_2 = true := by decide +kernel
theorem lk187 : kAll "DoorPaintsModel" "visits" cL187 := kOK_app lk187_0 (kOK_app lk187_1 (kOK_of lk187_2))
theorem lk188 : kAll "DoorPaintsModel" "becomesDoor" cL188 := kOK_of (by decide +kernel : kOK "DoorPaintsModel" "becomesDoor" cL188 cK188 = true)
theorem lk189 : kAll "DoorPaintsModel" "settles" cL189 := kOK_of (by decide +kernel : kOK "DoorPaintsModel" "settles" cL189 cK189 = true)
theorem lk190 : kAll "DoorPaintsModel" "sky" cL190 := kOK_of (by decide +kernel : kOK "DoorPaintsModel" "sky" cL190 cK190 = true)
theorem lk191 : kAll "DoorPaintsModel" "goesBy" cL191 := kOK_of (by decide +kernel : kOK "DoorPaintsModel" "goesBy" cL191 cK191 = true)
theorem lk192_0 : kOK "DoorPaintsModel" "rains" cL192_0 cK192_0 = true := by decide +kernel
theorem lk192_1 : kOK "DoorPaintsModel" "rains" cL192_1 cK192_1 = true := by decide +kernel
theorem lk192 : kAll "DoorPaintsModel" "rains" cL192 := kOK_app lk192_0 (kOK_of lk192_1)
theorem lk193 : kAll "DoorPaintsModel" "layers" cL193 := kOK_of (by decide +kernel : kOK "DoorPaintsModel" "layers" cL193 cK193 = true)
theorem lk194 : kAll "DoorPaintsModel" "scrape" cL194 := kOK_of (by decide +kernel : kOK "DoorPaintsModel" "scrape" cL194 cK194 = true)
theorem lk195 : kAll "DoorPaintsModel" "alter" cL195 := kOK_of (by decide +kernel : kOK "DoorPaintsModel" "alter" cL195 cK195 = true)
theorem lk196 : kAll "DoorPaintsModel" "mostOf" cL196 := kOK_of (by decide +kernel : kOK "DoorPaintsModel" "mostOf" cL196 cK196 = true)
theorem lk197 : kAll "DoorPaintsModel" "becomes" cL197 := kOK_of (by decide +kernel : kOK "DoorPaintsModel" "becomes" cL197 cK197 = true)
theorem lk198 : kAll "DoorPaintsModel" "ought" cL198 := kOK_of (by decide +kernel : kOK "DoorPaintsModel" "ought" cL198 cK198 = true)
theorem lk199 : kAll "DoorPaintsModel" "plans" cL199 := kOK_of (by decide +kernel : kOK "DoorPaintsModel" "plans" cL199 cK199 = true)
end
section
/-! TABLES: the links stand in the tables (written by a program) -/
theorem lk200 : kAll "DoorPaintsModel" "isAct" cL200 := kOK_of (by decide +kernel : kOK "DoorPaintsModel" "isAct" cL200 cK200 = true)
theorem lk201 : kAll "DoorPaintsModel" "cut" cL201 := kOK_of (by decide +kernel : kOK "DoorPaintsModel" "cut" cL201 cK201 = true)
theorem lk202_0 : kOK "DoorPaintsModel" "runs" cL202_0 cK202_0 = true := by decide +kernel
theorem lk202_1 : kOK "DoorPaintsModel" "runs" cL202_1 cK202_1 = true := by decide +kernel
theorem lk202 : kAll "DoorPaintsModel" "runs" cL202 := kOK_app lk202_0 (kOK_of lk202_1)
theorem lk203 : kAll "DoorPaintsModel" "acts" cL203 := kOK_of (by decide +kernel : kOK "DoorPaintsModel" "acts" cL203 cK203 = true)
theorem lk204 : kAll "DoorPaintsModel" "ahead" cL204 := kOK_of (by decide +kernel : kOK "DoorPaintsModel" "ahead" cL204 cK204 = true)
theorem lk205 : kAll "DoorPaintsModel" "plansGo" cL205 := kOK_of (by decide +kernel : kOK "DoorPaintsModel" "plansGo" cL205 cK205 = true)
theorem lk206 : kAll "DoorPaintsModel" "clears" cL206 := kOK_of (by decide +kernel : kOK "DoorPaintsModel" "clears" cL206 cK206 = true)
theorem lk207_0 : kOK "DoorPaintsModel" "best" cL207_0 cK207_0 = true := by decide +kernel
theorem lk207_1 : kOK "DoorPaintsModel" "best" cL207_1 cK207_1 = true := by decide +kernel
theorem lk207_2 : kOK "DoorPaintsModel" "best" cL207_2 cK207_2 = true := by decide +kernel
theorem lk207 : kAll "DoorPaintsModel" "best" cL207 := kOK_app lk207_0 (kOK_app lk207_1 (kOK_of lk207_2))
theorem lk208 : kAll "DoorPaintsModel" "isPart" cL208 := kOK_of (by decide +kernel : kOK "DoorPaintsModel" "isPart" cL208 cK208 = true)
theorem lk209 : kAll "DoorPaintsModel" "kindsOfVisit" cL209 := kOK_of (by decide +kernel : kOK "DoorPaintsModel" "kindsOfVisit" cL209 cK209 = true)
theorem lk210 : kAll "DoorPaintsModel" "rowsOf" cL210 := kOK_of (by decide +kernel : kOK "DoorPaintsModel" "rowsOf" cL210 cK210 = true)
theorem lk211 : kAll "DoorPaintsModel" "goesRow" cL211 := kOK_of (by decide +kernel : kOK "DoorPaintsModel" "goesRow" cL211 cK211 = true)
theorem lk212 : kAll "DoorPaintsModel" "actAt" cL212 := kOK_of (by decide +kernel : kOK "DoorPaintsModel" "actAt" cL212 cK212 = true)
theorem lk213 : kAll "DoorPaintsModel" "bitsOf" cL213 := kOK_of (by decide +kernel : kOK "DoorPaintsModel" "bitsOf" cL213 cK213 = true)
theorem lk214 : kAll "DoorPaintsModel" "visitIn" cL214 := kOK_of (by decide +kernel : kOK "DoorPaintsModel" "visitIn" cL214 cK214 = true)
theorem lk215_0 : kOK "DoorPaintsModel" "few" cL215_0 cK215_0 = true := by decide +kernel
theorem lk215_1 : kOK "DoorPaintsModel" "few" cL215_1 cK215_1 = true := by decide +kernel
theorem lk215 : kAll "DoorPaintsModel" "few" cL215 := kOK_app lk215_0 (kOK_of lk215_1)
theorem lk216_0 : kOK "DoorPaintsModel" "reads" cL216_0 cK216_0 = true := by decide +kernel
theorem lk216_1 : kOK "DoorPaintsModel" "reads" cL216_1 cK216_1 = true := by decide +kernel
theorem lk216 : kAll "DoorPaintsModel" "reads" cL216 := kOK_app lk216_0 (kOK_of lk216_1)
theorem lk217_0 : kOK "DoorPaintsModel" "see" cL217_0 cK217_0 = true := by decide +kernel
theorem lk217_1 : kOK "DoorPaintsModel" "see" cL217_1 cK217_1 = true := by decide +kernel
theorem lk217 : kAll "DoorPaintsModel" "see" cL217 := kOK_app lk217_0 (kOK_of lk217_1)
theorem lk218 : kAll "DoorPaintsModel" "forget" cL218 := kOK_of (by decide +kernel : kOK "DoorPaintsModel" "forget" cL218 cK218 = true)
theorem lk219 : kAll "DoorPaintsModel" "pots" cL219 := kOK_of (by decide +kernel : kOK "DoorPaintsModel" "pots" cL219 cK219 = true)
theorem lk220_0 : kOK "DoorPaintsModel" "isSo" cL220_0 cK220_0 = true := by decide +kernel
theorem lk220_1 : kOK "DoorPaintsModel" "isSo" cL220_1 cK220_1 = true := by decide +kernel
theorem lk220 : kAll "DoorPaintsModel" "isSo" cL220 := kOK_app lk220_0 (kOK_of lk220_1)
theorem lk221_0 : kOK "DoorPaintsModel" "rained" cL221_0 cK221_0 = true := by decide +kernel
theorem lk221_1 : kOK "DoorPaintsModel" "rained" cL221_1 cK221_1 = true := by decide +kernel
theorem lk221 : kAll "DoorPaintsModel" "rained" cL221 := kOK_app lk221_0 (kOK_of lk221_1)
theorem lk222_0 : kOK "DoorPaintsModel" "orders" cL222_0 cK222_0 = true := by decide +kernel
theorem lk222_1 : kOK "DoorPaintsModel" "orders" cL222_1 cK222_1 = true := by decide +kernel
theorem lk222 : kAll "DoorPaintsModel" "orders" cL222 := kOK_app lk222_0 (kOK_of lk222_1)
theorem lk223 : kAll "DoorPaintsModel" "isOrder" cL223 := kOK_of (by decide +kernel : kOK "DoorPaintsModel" "isOrder" cL223 cK223 = true)
theorem lk224 : kAll "DoorPaintsModel" "luck" cL224 := kOK_of (by decide +kernel : kOK "DoorPaintsModel" "luck" cL224 cK224 = true)
theorem lk225_0 : kOK "DoorPaintsModel" "findOdds" cL225_0 cK225_0 = true := by decide +kernel
theorem lk225_1 : kOK "DoorPaintsModel" "findOdds" cL225_1 cK225_1 = true := by decide +kernel
theorem lk225_2 : kOK "DoorPaintsModel" "findOdds" cL225_2 cK225_2 = true := by decide +kernel
theorem lk225 : kAll "DoorPaintsModel" "findOdds" cL225 := kOK_app lk225_0 (kOK_app lk225_1 (kOK_of lk225_2))
theorem lk226 : kAll "DoorPaintsModel" "told" cL226 := kOK_of (by decide +kernel : kOK "DoorPaintsModel" "told" cL226 cK226 = true)
theorem lk227 : kAll "DoorPaintsModel" "common" cL227 := kOK_of (by decide +kernel : kOK "DoorPaintsModel" "common" cL227 cK227 = true)
theorem lk228 : kAll "DoorPaintsModel" "mean" cL228 := kOK_of (by decide +kernel : kOK "DoorPaintsModel" "mean" cL228 cK228 = true)
theorem lk229_0 : kOK "DoorPaintsModel" "drift" cL229_0 cK229_0 = true := by decide +kernel
theorem lk229_1 : kOK "DoorPaintsModel" "drift" cL229_1 cK229_1 = true := by decide +kernel
theorem lk229 : kAll "DoorPaintsModel" "drift" cL229 := kOK_app lk229_0 (kOK_of lk229_1)
theorem lk230 : kAll "DoorPaintsModel" "keep" cL230 := kOK_of (by decide +kernel : kOK "DoorPaintsModel" "keep" cL230 cK230 = true)
theorem lk231 : kAll "DoorPaintsModel" "copies" cL231 := kOK_of (by decide +kernel : kOK "DoorPaintsModel" "copies" cL231 cK231 = true)
theorem lk232 : kAll "DoorPaintsModel" "back" cL232 := kOK_of (by decide +kernel : kOK "DoorPaintsModel" "back" cL232 cK232 = true)
theorem lk233 : kAll "DoorPaintsModel" "sheet" cL233 := kOK_of (by decide +kernel : kOK "DoorPaintsModel" "sheet" cL233 cK233 = true)
theorem lk234 : kAll "DoorPaintsModel" "isSheet" cL234 := kOK_of (by decide +kernel : kOK "DoorPaintsModel" "isSheet" cL234 cK234 = true)
theorem lk235_0 : kOK "DoorPaintsModel" "lay" cL235_0 cK235_0 = true := by decide +kernel
theorem lk235_1 : kOK "DoorPaintsModel" "lay" cL235_1 cK235_1 = true := by decide +kernel
theorem lk235 : kAll "DoorPaintsModel" "lay" cL235 := kOK_app lk235_0 (kOK_of lk235_1)
theorem lk236_0 : kOK "DoorPaintsModel" "read" cL236_0 cK236_0 = true := by decide +kernel
theorem lk236_1 : kOK "DoorPaintsModel" "read" cL236_1 cK236_1 = true := by decide +kernel
theorem lk236_2 : kOK "DoorPaintsModel" "read" cL236_2 cK236_2 = true := by decide +kernel
theorem lk236 : kAll "DoorPaintsModel" "read" cL236 := kOK_app lk236_0 (kOK_app lk236_1 (kOK_of lk236_2))
theorem lk237 : kAll "DoorPaintsModel" "torn" cL237 := kOK_of (by decide +kernel : kOK "DoorPaintsModel" "torn" cL237 cK237 = true)
theorem lk238 : kAll "DoorPaintsModel" "count" cL238 := kOK_of (by decide +kernel : kOK "DoorPaintsModel" "count" cL238 cK238 = true)
end
section
/-! TABLES: the methods' own words -/
def gK (mi : Nat) : Bool := match tMT[mi]?, tKd[mi]? with
  | some M, some q => wIn q.2.1 (.code M.1 M.2.1 M.2.2.1 M.2.2.2.1) && decide (M.2.2.1 ≤ 45) && plainName M.1.cls && wIn q.2.2.2.2.1 (.initialized M.1.cls) && decide (M.1.cls ≠ "java/lang/invoke/MethodHandle" ∧ M.1.cls ≠ "java/lang/invoke/VarHandle") && decide ((parseMethodDescriptor M.1.desc).map (fun d => d.parameters.length) = some q.2.2.2.2.2) &&
    (if q.1 = 0 then wIn q.2.2.1 (.static M.1) else if q.1 = 1 then wIn q.2.2.1 (.instanceMethod M.1) && wIn q.2.2.2.1 (.selects M.1.cls M.1 M.1) else wIn q.2.2.1 (.instanceMethod M.1) && decide (M.1.name = "<init>" ∧ M.2.2.2.1 = none))
  | _, _ => false
theorem gk0 : (List.range' 1 29).all gK = true := by decide +kernel
theorem gk1 : (List.range' 30 30).all gK = true := by decide +kernel
theorem gk2 : (List.range' 60 30).all gK = true := by decide +kernel
theorem gk3 : (List.range' 90 30).all gK = true := by decide +kernel
theorem gk4 : (List.range' 120 30).all gK = true := by decide +kernel
theorem gk5 : (List.range' 150 30).all gK = true := by decide +kernel
theorem gk6 : (List.range' 180 30).all gK = true := by decide +kernel
theorem gk7 : (List.range' 210 29).all gK = true := by decide +kernel
theorem tMT_len : tMT.length = 239 := by decide +kernel
theorem gK_all {mi : Nat} (h0 : 0 < mi) (h1 : mi < 239) : gK mi = true := by
  have key : ∀ a n, (List.range' a n).all gK = true → a ≤ mi → mi < a + n → gK mi = true := fun a n h g1 g2 => List.all_eq_true.mp h mi (List.mem_range'_1.mpr ⟨g1, g2⟩)
  rcases Nat.lt_or_ge mi 30 with q | q
  · exact key 1 29 gk0 (by omega) (by omega)
  rcases Nat.lt_or_ge mi 60 with q1 | q1
  · exact key 30 30 gk1 (by omega) (by omega)
  rcases Nat.lt_or_ge mi 90 with q2 | q2
  · exact key 60 30 gk2 (by omega) (by omega)
  rcases Nat.lt_or_ge mi 120 with q3 | q3
  · exact key 90 30 gk3 (by omega) (by omega)
  rcases Nat.lt_or_ge mi 150 with q4 | q4
  · exact key 120 30 gk4 (by omega) (by omega)
  rcases Nat.lt_or_ge mi 180 with q5 | q5
  · exact key 150 30 gk5 (by omega) (by omega)
  rcases Nat.lt_or_ge mi 210 with q6 | q6
  · exact key 180 30 gk6 (by omega) (by omega)
  · exact key 210 29 gk7 (by omega) (by omega)
theorem wi_int : Cond.arrayClass .int ∈ gw := List.mem_filter.mpr ⟨by decide +kernel, rfl⟩
theorem wi_bool : Cond.arrayClass .boolean ∈ gw := List.mem_filter.mpr ⟨by decide +kernel, rfl⟩
theorem wi_oi : Cond.instanceMethod Lib.objectInit ∈ gw := List.mem_filter.mpr ⟨by decide +kernel, by decide +kernel⟩
theorem wi_ml : Cond.static Lib.Math.max.name ∈ gw := List.mem_filter.mpr ⟨by decide +kernel, by decide +kernel⟩
theorem wi_mi : Cond.initialized "java/lang/Math" ∈ gw := List.mem_filter.mpr ⟨by decide +kernel, by decide +kernel⟩
theorem wi_mc : Cond.code Lib.Math.max.name Lib.Math.max.code 2 (some .int) ∈ gw := List.mem_filter.mpr ⟨by decide +kernel, by decide +kernel⟩
theorem wi_oc : Cond.code Lib.objectInit ⟨#[0xb1]⟩ 1 none ∈ gw := List.mem_filter.mpr ⟨by decide +kernel, by decide +kernel⟩
/-- the classes' tables hold what they should -/
def cB (ci : Nat) : Bool := match tCls[ci]? with
  | some q => (u_ws q.1 q.2.1 q.2.2).all (fun w => decide (w ∈ lw_tbl) && goodWord w) && (List.range q.2.2).all (fun k => decide (parseFieldDescriptor (q.2.1 k).2.2.1 = some (tFty ci k)) && decide ((tDfl ci)[k]? = some (defaultValue (tFty ci k))) && (List.range q.2.2).all (fun b => decide (k = b) || decide ((q.2.1 k).2.1 ≠ (q.2.1 b).2.1))) && decide ((tDfl ci).length = q.2.2) && decide (Cond.instantiable q.1 q.2.2 ∈ lw_tbl) && decide (Cond.initialized q.1 ∈ lw_tbl)
  | none => true
theorem cB_0 : cB 0 = true := by decide +kernel
theorem cB_1 : cB 1 = true := by decide +kernel
theorem cB_2 : cB 2 = true := by decide +kernel
theorem cB_3 : cB 3 = true := by decide +kernel
theorem cB_4 : cB 4 = true := by decide +kernel
theorem cB_5 : cB 5 = true := by decide +kernel
theorem cB_6 : cB 6 = true := by decide +kernel
theorem cB_7 : cB 7 = true := by decide +kernel
theorem cB_8 : cB 8 = true := by decide +kernel
theorem cB_9 : cB 9 = true := by decide +kernel
end
section
/-! TABLES: every method is as `sim` asks -/
section Asm
theorem kd_of {mi : Nat} {M : MM} {q : Nat × Nat × Nat × Nat × Nat × Nat} (h0 : 0 < mi) (hM : tMT[mi]? = some M) (hq : tKd[mi]? = some q) : callOK gw M ∧ Cond.initialized M.1.cls ∈ gw ∧ (M.1.cls ≠ "java/lang/invoke/MethodHandle" ∧ M.1.cls ≠ "java/lang/invoke/VarHandle") ∧ (parseMethodDescriptor M.1.desc).map (fun d => d.parameters.length) = some q.2.2.2.2.2 ∧ (q.1 = 0 → Cond.static M.1 ∈ gw) ∧ (q.1 = 1 → Cond.instanceMethod M.1 ∈ gw ∧ Cond.selects M.1.cls M.1 M.1 ∈ gw) ∧ (q.1 = 2 → Cond.instanceMethod M.1 ∈ gw ∧ M.1.name = "<init>" ∧ M.2.2.2.1 = none) := by
  have hlt : mi < 239 := by have := (List.getElem?_eq_some_iff.mp hM).1; rw [tMT_len] at this; exact this
  have h := gK_all h0 hlt
  unfold gK at h
  rw [hM, hq] at h
  simp only [Bool.and_eq_true, decide_eq_true_eq] at h
  obtain ⟨⟨⟨⟨⟨⟨h1, h2⟩, h3⟩, h4⟩, h5⟩, h6⟩, h7⟩ := h
  refine ⟨⟨wIn_spec h1, h2, h3⟩, wIn_spec h4, h5, h6, fun e => ?_, fun e => ?_, fun e => ?_⟩
  · rw [if_pos e] at h7; exact wIn_spec h7
  · rw [if_neg (by omega), if_pos e] at h7
    simp only [Bool.and_eq_true] at h7
    exact ⟨wIn_spec h7.1, wIn_spec h7.2⟩
  · rw [if_neg (by omega), if_neg (by omega)] at h7
    simp only [Bool.and_eq_true, decide_eq_true_eq] at h7
    exact ⟨wIn_spec h7.1, h7.2.1, h7.2.2⟩
theorem eWin_spec {own : String} {E : MI} {k : Nat} {w : Cond} (h : eWin own E k = true) (hw : eW own E = some w) : w ∈ gw := by
  unfold eWin at h
  rw [hw] at h
  exact wIn_spec h
theorem eKd_spec {E : MI} {kd np : Nat} (h : eKd E kd np = true) : ∃ q M, tKd[E.2.2.2.1]? = some q ∧ tMT[E.2.2.2.1]? = some M ∧ 0 < E.2.2.2.1 ∧ E.2.2.2.1 < 9000 ∧ q.1 = kd ∧ q.2.2.2.2.2 = np := by
  unfold eKd at h
  split at h
  · rename_i q hq
    simp only [decide_eq_true_eq] at h
    have hlt : E.2.2.2.1 < tMT.length := by
      have h1 := (List.getElem?_eq_some_iff.mp hq).1
      have h2 : tKd.length = 239 := by decide +kernel
      rw [tMT_len]; omega
    exact ⟨q, tMT[E.2.2.2.1], hq, List.getElem?_eq_getElem hlt, h.1, h.2.1, h.2.2.1, h.2.2.2⟩
  · cases h
theorem eNest_spec {own : String} {E : MI} {idx k : Nat} {M : MM} (h : eNest own E idx k = true) (hM : tMT[E.2.2.2.1]? = some M) : ∃ host, (own, idx, M.1, host) ∈ tNest := by
  unfold eNest at h
  rw [hM] at h
  split at h
  · rename_i q M' hq hM'
    cases hM'
    simp only [decide_eq_true_eq] at h
    obtain ⟨a, b, c, d⟩ := q
    simp only at h
    obtain ⟨rfl, rfl, rfl⟩ := h
    exact ⟨d, List.mem_of_getElem? hq⟩
  · cases h
theorem body_of {M : MM} (hd : dOK M.2.1 M.2.2.1 M.2.2.2.2 = true) (hk : kAll M.1.cls M.1.name M.2.2.2.2) : bodyOK tCls tFty tMT gw tStr tNest M := by
  intro E hE
  have h1 := List.all_eq_true.mp hd E hE
  simp only [Bool.and_eq_true, decide_eq_true_eq, Bool.or_eq_true, beq_iff_eq] at h1
  obtain ⟨⟨g1, g2⟩, g3⟩ := h1
  obtain ⟨k, hb⟩ := hk E hE
  obtain ⟨pc, i, len, a, b, z⟩ := E
  unfold eB at hb
  simp only at hb g1 g2 g3
  refine ⟨⟨g1, g2, g3, ?_, ?_, ?_, ?_⟩, ?_⟩
  · intro idx he
    simp only at he
    subst he
    simp only [Bool.and_eq_true] at hb
    obtain ⟨hb1, hb2⟩ := hb
    unfold fldOK
    simp only
    split at hb2
    · rename_i h99
      simp only [decide_eq_true_eq] at hb2
      refine Or.inr ⟨h99, ?_⟩
      rcases (show b = 0 ∨ b = 1 by omega) with rfl | rfl
      · exact Or.inl ⟨rfl, eWin_spec hb1 (by unfold eW; simp only [if_pos h99, if_true])⟩
      · exact Or.inr ⟨rfl, eWin_spec hb1 (by unfold eW; simp only [if_pos h99]; rfl)⟩
    · rename_i h99
      split at hb2
      · rename_i q hq
        simp only [decide_eq_true_eq] at hb2
        obtain ⟨C, T, N⟩ := q
        exact Or.inl ⟨C, T, N, hq, hb2, eWin_spec hb1 (by unfold eW; simp only [if_neg h99, hq]; rfl)⟩
      · cases hb2
  · intro idx he
    simp only at he
    subst he
    simp only [Bool.and_eq_true] at hb
    obtain ⟨hb1, hb2⟩ := hb
    split at hb2
    · rename_i q hq
      simp only [Bool.and_eq_true, decide_eq_true_eq, Bool.or_eq_true, Bool.not_eq_true'] at hb2
      obtain ⟨C, T, N⟩ := q
      refine ⟨Or.inl ⟨C, T, N, hq, hb2.1, eWin_spec hb1 (by unfold eW; simp only [hq]; rfl)⟩, fun C' T' N' hq' => ?_⟩
      simp only at hq' ⊢
      cases hq.symm.trans hq'
      cases hf : (T b).2.2.2 with
      | false => exact Or.inl rfl
      | true =>
        rcases hb2.2 with q | q
        · rw [hf] at q; cases q
        · exact Or.inr ⟨rfl, q⟩
    · cases hb2
  · unfold newOK
    simp only
    split
    · simp only at hb
      cases hq : tCls[a]? with
      | none => unfold eWin eW at hb; simp only [hq] at hb; cases hb
      | some q => exact ⟨q, rfl, eWin_spec hb (by unfold eW; simp only [hq]; rfl)⟩
    · exact ⟨wi_int, wi_bool⟩
    · simp only at hb
      rename_i idx
      by_cases h3 : a = 3
      · exact Or.inl ⟨h3, eWin_spec hb (by unfold eW; simp only [if_pos h3])⟩
      by_cases h4 : a = 4
      · exact Or.inr (Or.inl ⟨h4, eWin_spec hb (by unfold eW; simp only [if_neg h3, if_pos h4])⟩)
      by_cases h5 : a = 5
      · exact Or.inr (Or.inr (Or.inl ⟨h5, eWin_spec hb (by unfold eW; simp only [if_neg h3, if_neg h4, if_pos h5])⟩))
      by_cases h6 : a = 6
      · exact Or.inr (Or.inr (Or.inr ⟨h6, eWin_spec hb (by unfold eW; simp only [if_neg h3, if_neg h4, if_neg h5, if_pos h6])⟩))
      · unfold eWin eW at hb
        simp only [if_neg h3, if_neg h4, if_neg h5, if_neg h6] at hb
        cases hb
    · simp only at hb
      split at hb
      · rename_i q hq
        simp only [decide_eq_true_eq] at hb
        exact ⟨q, hq, hb⟩
      · cases hb
    · trivial
  · unfold cstOK
    simp only
    split
    · rename_i idx
      simp only at hb
      split at hb
      · rename_i h0
        exact Or.inl ⟨h0, eWin_spec hb rfl⟩
      · rename_i h0
        simp only [Bool.and_eq_true, decide_eq_true_eq] at hb
        exact Or.inr ⟨h0, hb.1, List.mem_of_getElem? hb.2⟩
    · exact eWin_spec hb rfl
    · exact eWin_spec hb rfl
    · rename_i idx
      simp only [Bool.and_eq_true] at hb
      obtain ⟨hb1, hb2⟩ := hb
      split at hb2
      · rename_i h0
        exact Or.inl ⟨h0, by simpa using hb2, eWin_spec hb1 (by unfold eW; simp only [if_pos h0])⟩
      · rename_i h0
        exact Or.inr ⟨h0, by simpa using hb2, eWin_spec hb1 (by unfold eW; simp only [if_neg h0])⟩
    · trivial
  · unfold invOK
    simp only
    split
    · rename_i idx
      simp only at hb
      split at hb
      · rename_i h98
        simp only [Bool.and_eq_true, decide_eq_true_eq] at hb
        exact ⟨by omega, Or.inl ⟨h98, hb.1, eWin_spec hb.2 (by unfold eW; simp only [if_pos h98]), wi_ml, wi_mi, wi_mc⟩⟩
      · rename_i h98
        simp only [Bool.and_eq_true] at hb
        obtain ⟨q, Mc, k1, k2, k3, k4, k5, k6⟩ := eKd_spec hb.1
        simp only at k1 k2 k3 k4
        obtain ⟨-, e2, e3, e4, e5, -, -⟩ := kd_of k3 k2 k1
        refine ⟨by omega, Or.inr ⟨Mc, k2, ?_, e5 k5, e2, e3.1, e3.2, by rw [e4, k6]⟩⟩
        have hb2 := hb.2
        split at hb2
        · exact Or.inl (eWin_spec hb2 (by unfold eW; simp only [if_neg h98, k2]; rfl))
        · exact Or.inr (eNest_spec hb2 k2)
    · rename_i idx
      simp only at hb
      split at hb
      · rename_i h99
        simp only [Bool.and_eq_true, decide_eq_true_eq] at hb
        exact Or.inl ⟨h99, hb.1, eWin_spec hb.2 (by unfold eW; simp only [if_pos h99]), wi_oi, wi_oc⟩
      · rename_i h99
        simp only [Bool.and_eq_true] at hb
        obtain ⟨q, Mc, k1, k2, k3, k4, k5, k6⟩ := eKd_spec hb.1
        simp only at k1 k2 k3 k4
        obtain ⟨-, e2, e3, e4, -, -, e7⟩ := kd_of k3 k2 k1
        obtain ⟨e8, e9, e10⟩ := e7 k5
        refine Or.inr ⟨by omega, Mc, k2, e10, e9, ?_, e8, e2, e3.1, e3.2, by rw [e4, k6]⟩
        have hb2 := hb.2
        split at hb2
        · exact Or.inl (eWin_spec hb2 (by unfold eW; simp only [if_neg h99, k2]; rfl))
        · exact Or.inr (eNest_spec hb2 k2)
    · rename_i idx
      simp only [Bool.and_eq_true] at hb
      obtain ⟨⟨hb1, hb2⟩, hb3⟩ := hb
      obtain ⟨q, Mc, k1, k2, k3, k4, k5, k6⟩ := eKd_spec hb1
      simp only at k1 k2 k3 k4
      obtain ⟨-, e2, e3, e4, -, e6, -⟩ := kd_of k3 k2 k1
      obtain ⟨e7, e8⟩ := e6 k5
      refine ⟨by omega, Mc, k2, eWin_spec hb2 (by unfold eW; simp only [k2]; rfl), e7, e8, e2, e3.1, e3.2, by rw [e4, k6], ?_⟩
      unfold eCl at hb3
      simp only [k2, Bool.or_eq_true, decide_eq_true_eq, Bool.and_eq_true] at hb3
      rcases hb3 with hb3 | ⟨hb4, hb5⟩
      · exact Or.inr hb3
      · split at hb5
        · rename_i qq hqq
          simp only [decide_eq_true_eq] at hb5
          exact Or.inl ⟨z.toNat, qq, by omega, hqq, hb5⟩
        · cases hb5
    · trivial

theorem bo0 : bodyOK tCls tFty tMT gw tStr tNest cM0 := body_of dk0 lk0
theorem bo1 : bodyOK tCls tFty tMT gw tStr tNest cM1 := body_of dk1 lk1
theorem bo2 : bodyOK tCls tFty tMT gw tStr tNest cM2 := body_of dk2 lk2
theorem bo3 : bodyOK tCls tFty tMT gw tStr tNest cM3 := body_of dk3 lk3
theorem bo4 : bodyOK tCls tFty tMT gw tStr tNest cM4 := body_of dk4 lk4
theorem bo5 : bodyOK tCls tFty tMT gw tStr tNest cM5 := body_of dk5 lk5
theorem bo6 : bodyOK tCls tFty tMT gw tStr tNest cM6 := body_of dk6 lk6
theorem bo7 : bodyOK tCls tFty tMT gw tStr tNest cM7 := body_of dk7 lk7
theorem bo8 : bodyOK tCls tFty tMT gw tStr tNest cM8 := body_of dk8 lk8
theorem bo9 : bodyOK tCls tFty tMT gw tStr tNest cM9 := body_of dk9 lk9
theorem bo10 : bodyOK tCls tFty tMT gw tStr tNest cM10 := body_of dk10 lk10
theorem bo11 : bodyOK tCls tFty tMT gw tStr tNest cM11 := body_of dk11 lk11
theorem bo12 : bodyOK tCls tFty tMT gw tStr tNest cM12 := body_of dk12 lk12
theorem bo13 : bodyOK tCls tFty tMT gw tStr tNest cM13 := body_of dk13 lk13
theorem bo14 : bodyOK tCls tFty tMT gw tStr tNest cM14 := body_of dk14 lk14
theorem bo15 : bodyOK tCls tFty tMT gw tStr tNest cM15 := body_of dk15 lk15
theorem bo16 : bodyOK tCls tFty tMT gw tStr tNest cM16 := body_of dk16 lk16
theorem bo17 : bodyOK tCls tFty tMT gw tStr tNest cM17 := body_of dk17 lk17
theorem bo18 : bodyOK tCls tFty tMT gw tStr tNest cM18 := body_of dk18 lk18
theorem bo19 : bodyOK tCls tFty tMT gw tStr tNest cM19 := body_of dk19 lk19
theorem bo20 : bodyOK tCls tFty tMT gw tStr tNest cM20 := body_of dk20 lk20
theorem bo21 : bodyOK tCls tFty tMT gw tStr tNest cM21 := body_of dk21 lk21
theorem bo22 : bodyOK tCls tFty tMT gw tStr tNest cM22 := body_of dk22 lk22
theorem bo23 : bodyOK tCls tFty tMT gw tStr tNest cM23 := body_of dk23 lk23
theorem bo24 : bodyOK tCls tFty tMT gw tStr tNest cM24 := body_of dk24 lk24
theorem bo25 : bodyOK tCls tFty tMT gw tStr tNest cM25 := body_of dk25 lk25
theorem bo26 : bodyOK tCls tFty tMT gw tStr tNest cM26 := body_of dk26 lk26
theorem bo27 : bodyOK tCls tFty tMT gw tStr tNest cM27 := body_of dk27 lk27
theorem bo28 : bodyOK tCls tFty tMT gw tStr tNest cM28 := body_of dk28 lk28
theorem bo29 : bodyOK tCls tFty tMT gw tStr tNest cM29 := body_of dk29 lk29
theorem bo30 : bodyOK tCls tFty tMT gw tStr tNest cM30 := body_of dk30 lk30
theorem bo31 : bodyOK tCls tFty tMT gw tStr tNest cM31 := body_of dk31 lk31
theorem bo32 : bodyOK tCls tFty tMT gw tStr tNest cM32 := body_of dk32 lk32
theorem bo33 : bodyOK tCls tFty tMT gw tStr tNest cM33 := body_of dk33 lk33
theorem bo34 : bodyOK tCls tFty tMT gw tStr tNest cM34 := body_of dk34 lk34
theorem bo35 : bodyOK tCls tFty tMT gw tStr tNest cM35 := body_of dk35 lk35
theorem bo36 : bodyOK tCls tFty tMT gw tStr tNest cM36 := body_of dk36 lk36
theorem bo37 : bodyOK tCls tFty tMT gw tStr tNest cM37 := body_of dk37 lk37
theorem bo38 : bodyOK tCls tFty tMT gw tStr tNest cM38 := body_of dk38 lk38
theorem bo39 : bodyOK tCls tFty tMT gw tStr tNest cM39 := body_of dk39 lk39
theorem bo40 : bodyOK tCls tFty tMT gw tStr tNest cM40 := body_of dk40 lk40
theorem bo41 : bodyOK tCls tFty tMT gw tStr tNest cM41 := body_of dk41 lk41
theorem bo42 : bodyOK tCls tFty tMT gw tStr tNest cM42 := body_of dk42 lk42
theorem bo43 : bodyOK tCls tFty tMT gw tStr tNest cM43 := body_of dk43 lk43
theorem bo44 : bodyOK tCls tFty tMT gw tStr tNest cM44 := body_of dk44 lk44
theorem bo45 : bodyOK tCls tFty tMT gw tStr tNest cM45 := body_of dk45 lk45
theorem bo46 : bodyOK tCls tFty tMT gw tStr tNest cM46 := body_of dk46 lk46
theorem bo47 : bodyOK tCls tFty tMT gw tStr tNest cM47 := body_of dk47 lk47
theorem bo48 : bodyOK tCls tFty tMT gw tStr tNest cM48 := body_of dk48 lk48
theorem bo49 : bodyOK tCls tFty tMT gw tStr tNest cM49 := body_of dk49 lk49
theorem bo50 : bodyOK tCls tFty tMT gw tStr tNest cM50 := body_of dk50 lk50
theorem bo51 : bodyOK tCls tFty tMT gw tStr tNest cM51 := body_of dk51 lk51
theorem bo52 : bodyOK tCls tFty tMT gw tStr tNest cM52 := body_of dk52 lk52
theorem bo53 : bodyOK tCls tFty tMT gw tStr tNest cM53 := body_of dk53 lk53
theorem bo54 : bodyOK tCls tFty tMT gw tStr tNest cM54 := body_of dk54 lk54
theorem bo55 : bodyOK tCls tFty tMT gw tStr tNest cM55 := body_of dk55 lk55
theorem bo56 : bodyOK tCls tFty tMT gw tStr tNest cM56 := body_of dk56 lk56
theorem bo57 : bodyOK tCls tFty tMT gw tStr tNest cM57 := body_of dk57 lk57
theorem bo58 : bodyOK tCls tFty tMT gw tStr tNest cM58 := body_of dk58 lk58
theorem bo59 : bodyOK tCls tFty tMT gw tStr tNest cM59 := body_of dk59 lk59
theorem bo60 : bodyOK tCls tFty tMT gw tStr tNest cM60 := body_of dk60 lk60
theorem bo61 : bodyOK tCls tFty tMT gw tStr tNest cM61 := body_of dk61 lk61
theorem bo62 : bodyOK tCls tFty tMT gw tStr tNest cM62 := body_of dk62 lk62
theorem bo63 : bodyOK tCls tFty tMT gw tStr tNest cM63 := body_of dk63 lk63
theorem bo64 : bodyOK tCls tFty tMT gw tStr tNest cM64 := body_of dk64 lk64
theorem bo65 : bodyOK tCls tFty tMT gw tStr tNest cM65 := body_of dk65 lk65
theorem bo66 : bodyOK tCls tFty tMT gw tStr tNest cM66 := body_of dk66 lk66
theorem bo67 : bodyOK tCls tFty tMT gw tStr tNest cM67 := body_of dk67 lk67
theorem bo68 : bodyOK tCls tFty tMT gw tStr tNest cM68 := body_of dk68 lk68
theorem bo69 : bodyOK tCls tFty tMT gw tStr tNest cM69 := body_of dk69 lk69
theorem bo70 : bodyOK tCls tFty tMT gw tStr tNest cM70 := body_of dk70 lk70
theorem bo71 : bodyOK tCls tFty tMT gw tStr tNest cM71 := body_of dk71 lk71
theorem bo72 : bodyOK tCls tFty tMT gw tStr tNest cM72 := body_of dk72 lk72
theorem bo73 : bodyOK tCls tFty tMT gw tStr tNest cM73 := body_of dk73 lk73
theorem bo74 : bodyOK tCls tFty tMT gw tStr tNest cM74 := body_of dk74 lk74
theorem bo75 : bodyOK tCls tFty tMT gw tStr tNest cM75 := body_of dk75 lk75
theorem bo76 : bodyOK tCls tFty tMT gw tStr tNest cM76 := body_of dk76 lk76
theorem bo77 : bodyOK tCls tFty tMT gw tStr tNest cM77 := body_of dk77 lk77
theorem bo78 : bodyOK tCls tFty tMT gw tStr tNest cM78 := body_of dk78 lk78
theorem bo79 : bodyOK tCls tFty tMT gw tStr tNest cM79 := body_of dk79 lk79
theorem bo80 : bodyOK tCls tFty tMT gw tStr tNest cM80 := body_of dk80 lk80
theorem bo81 : bodyOK tCls tFty tMT gw tStr tNest cM81 := body_of dk81 lk81
theorem bo82 : bodyOK tCls tFty tMT gw tStr tNest cM82 := body_of dk82 lk82
theorem bo83 : bodyOK tCls tFty tMT gw tStr tNest cM83 := body_of dk83 lk83
theorem bo84 : bodyOK tCls tFty tMT gw tStr tNest cM84 := body_of dk84 lk84
theorem bo85 : bodyOK tCls tFty tMT gw tStr tNest cM85 := body_of dk85 lk85
theorem bo86 : bodyOK tCls tFty tMT gw tStr tNest cM86 := body_of dk86 lk86
theorem bo87 : bodyOK tCls tFty tMT gw tStr tNest cM87 := body_of dk87 lk87
theorem bo88 : bodyOK tCls tFty tMT gw tStr tNest cM88 := body_of dk88 lk88
theorem bo89 : bodyOK tCls tFty tMT gw tStr tNest cM89 := body_of dk89 lk89
theorem bo90 : bodyOK tCls tFty tMT gw tStr tNest cM90 := body_of dk90 lk90
theorem bo91 : bodyOK tCls tFty tMT gw tStr tNest cM91 := body_of dk91 lk91
theorem bo92 : bodyOK tCls tFty tMT gw tStr tNest cM92 := body_of dk92 lk92
theorem bo93 : bodyOK tCls tFty tMT gw tStr tNest cM93 := body_of dk93 lk93
theorem bo94 : bodyOK tCls tFty tMT gw tStr tNest cM94 := body_of dk94 lk94
theorem bo95 : bodyOK tCls tFty tMT gw tStr tNest cM95 := body_of dk95 lk95
theorem bo96 : bodyOK tCls tFty tMT gw tStr tNest cM96 := body_of dk96 lk96
theorem bo97 : bodyOK tCls tFty tMT gw tStr tNest cM97 := body_of dk97 lk97
theorem bo98 : bodyOK tCls tFty tMT gw tStr tNest cM98 := body_of dk98 lk98
theorem bo99 : bodyOK tCls tFty tMT gw tStr tNest cM99 := body_of dk99 lk99
theorem bo100 : bodyOK tCls tFty tMT gw tStr tNest cM100 := body_of dk100 lk100
theorem bo101 : bodyOK tCls tFty tMT gw tStr tNest cM101 := body_of dk101 lk101
theorem bo102 : bodyOK tCls tFty tMT gw tStr tNest cM102 := body_of dk102 lk102
theorem bo103 : bodyOK tCls tFty tMT gw tStr tNest cM103 := body_of dk103 lk103
theorem bo104 : bodyOK tCls tFty tMT gw tStr tNest cM104 := body_of dk104 lk104
theorem bo105 : bodyOK tCls tFty tMT gw tStr tNest cM105 := body_of dk105 lk105
theorem bo106 : bodyOK tCls tFty tMT gw tStr tNest cM106 := body_of dk106 lk106
theorem bo107 : bodyOK tCls tFty tMT gw tStr tNest cM107 := body_of dk107 lk107
theorem bo108 : bodyOK tCls tFty tMT gw tStr tNest cM108 := body_of dk108 lk108
theorem bo109 : bodyOK tCls tFty tMT gw tStr tNest cM109 := body_of dk109 lk109
theorem bo110 : bodyOK tCls tFty tMT gw tStr tNest cM110 := body_of dk110 lk110
theorem bo111 : bodyOK tCls tFty tMT gw tStr tNest cM111 := body_of dk111 lk111
theorem bo112 : bodyOK tCls tFty tMT gw tStr tNest cM112 := body_of dk112 lk112
theorem bo113 : bodyOK tCls tFty tMT gw tStr tNest cM113 := body_of dk113 lk113
theorem bo114 : bodyOK tCls tFty tMT gw tStr tNest cM114 := body_of dk114 lk114
theorem bo115 : bodyOK tCls tFty tMT gw tStr tNest cM115 := body_of dk115 lk115
theorem bo116 : bodyOK tCls tFty tMT gw tStr tNest cM116 := body_of dk116 lk116
theorem bo117 : bodyOK tCls tFty tMT gw tStr tNest cM117 := body_of dk117 lk117
theorem bo118 : bodyOK tCls tFty tMT gw tStr tNest cM118 := body_of dk118 lk118
theorem bo119 : bodyOK tCls tFty tMT gw tStr tNest cM119 := body_of dk119 lk119
theorem bo120 : bodyOK tCls tFty tMT gw tStr tNest cM120 := body_of dk120 lk120
theorem bo121 : bodyOK tCls tFty tMT gw tStr tNest cM121 := body_of dk121 lk121
theorem bo122 : bodyOK tCls tFty tMT gw tStr tNest cM122 := body_of dk122 lk122
theorem bo123 : bodyOK tCls tFty tMT gw tStr tNest cM123 := body_of dk123 lk123
theorem bo124 : bodyOK tCls tFty tMT gw tStr tNest cM124 := body_of dk124 lk124
theorem bo125 : bodyOK tCls tFty tMT gw tStr tNest cM125 := body_of dk125 lk125
theorem bo126 : bodyOK tCls tFty tMT gw tStr tNest cM126 := body_of dk126 lk126
theorem bo127 : bodyOK tCls tFty tMT gw tStr tNest cM127 := body_of dk127 lk127
theorem bo128 : bodyOK tCls tFty tMT gw tStr tNest cM128 := body_of dk128 lk128
theorem bo129 : bodyOK tCls tFty tMT gw tStr tNest cM129 := body_of dk129 lk129
theorem bo130 : bodyOK tCls tFty tMT gw tStr tNest cM130 := body_of dk130 lk130
theorem bo131 : bodyOK tCls tFty tMT gw tStr tNest cM131 := body_of dk131 lk131
theorem bo132 : bodyOK tCls tFty tMT gw tStr tNest cM132 := body_of dk132 lk132
theorem bo133 : bodyOK tCls tFty tMT gw tStr tNest cM133 := body_of dk133 lk133
theorem bo134 : bodyOK tCls tFty tMT gw tStr tNest cM134 := body_of dk134 lk134
theorem bo135 : bodyOK tCls tFty tMT gw tStr tNest cM135 := body_of dk135 lk135
theorem bo136 : bodyOK tCls tFty tMT gw tStr tNest cM136 := body_of dk136 lk136
theorem bo137 : bodyOK tCls tFty tMT gw tStr tNest cM137 := body_of dk137 lk137
theorem bo138 : bodyOK tCls tFty tMT gw tStr tNest cM138 := body_of dk138 lk138
theorem bo139 : bodyOK tCls tFty tMT gw tStr tNest cM139 := body_of dk139 lk139
theorem bo140 : bodyOK tCls tFty tMT gw tStr tNest cM140 := body_of dk140 lk140
theorem bo141 : bodyOK tCls tFty tMT gw tStr tNest cM141 := body_of dk141 lk141
theorem bo142 : bodyOK tCls tFty tMT gw tStr tNest cM142 := body_of dk142 lk142
theorem bo143 : bodyOK tCls tFty tMT gw tStr tNest cM143 := body_of dk143 lk143
theorem bo144 : bodyOK tCls tFty tMT gw tStr tNest cM144 := body_of dk144 lk144
theorem bo145 : bodyOK tCls tFty tMT gw tStr tNest cM145 := body_of dk145 lk145
theorem bo146 : bodyOK tCls tFty tMT gw tStr tNest cM146 := body_of dk146 lk146
theorem bo147 : bodyOK tCls tFty tMT gw tStr tNest cM147 := body_of dk147 lk147
theorem bo148 : bodyOK tCls tFty tMT gw tStr tNest cM148 := body_of dk148 lk148
theorem bo149 : bodyOK tCls tFty tMT gw tStr tNest cM149 := body_of dk149 lk149
theorem bo150 : bodyOK tCls tFty tMT gw tStr tNest cM150 := body_of dk150 lk150
theorem bo151 : bodyOK tCls tFty tMT gw tStr tNest cM151 := body_of dk151 lk151
theorem bo152 : bodyOK tCls tFty tMT gw tStr tNest cM152 := body_of dk152 lk152
theorem bo153 : bodyOK tCls tFty tMT gw tStr tNest cM153 := body_of dk153 lk153
theorem bo154 : bodyOK tCls tFty tMT gw tStr tNest cM154 := body_of dk154 lk154
theorem bo155 : bodyOK tCls tFty tMT gw tStr tNest cM155 := body_of dk155 lk155
theorem bo156 : bodyOK tCls tFty tMT gw tStr tNest cM156 := body_of dk156 lk156
theorem bo157 : bodyOK tCls tFty tMT gw tStr tNest cM157 := body_of dk157 lk157
theorem bo158 : bodyOK tCls tFty tMT gw tStr tNest cM158 := body_of dk158 lk158
theorem bo159 : bodyOK tCls tFty tMT gw tStr tNest cM159 := body_of dk159 lk159
theorem bo160 : bodyOK tCls tFty tMT gw tStr tNest cM160 := body_of dk160 lk160
theorem bo161 : bodyOK tCls tFty tMT gw tStr tNest cM161 := body_of dk161 lk161
theorem bo162 : bodyOK tCls tFty tMT gw tStr tNest cM162 := body_of dk162 lk162
theorem bo163 : bodyOK tCls tFty tMT gw tStr tNest cM163 := body_of dk163 lk163
theorem bo164 : bodyOK tCls tFty tMT gw tStr tNest cM164 := body_of dk164 lk164
theorem bo165 : bodyOK tCls tFty tMT gw tStr tNest cM165 := body_of dk165 lk165
theorem bo166 : bodyOK tCls tFty tMT gw tStr tNest cM166 := body_of dk166 lk166
theorem bo167 : bodyOK tCls tFty tMT gw tStr tNest cM167 := body_of dk167 lk167
theorem bo168 : bodyOK tCls tFty tMT gw tStr tNest cM168 := body_of dk168 lk168
theorem bo169 : bodyOK tCls tFty tMT gw tStr tNest cM169 := body_of dk169 lk169
theorem bo170 : bodyOK tCls tFty tMT gw tStr tNest cM170 := body_of dk170 lk170
theorem bo171 : bodyOK tCls tFty tMT gw tStr tNest cM171 := body_of dk171 lk171
theorem bo172 : bodyOK tCls tFty tMT gw tStr tNest cM172 := body_of dk172 lk172
theorem bo173 : bodyOK tCls tFty tMT gw tStr tNest cM173 := body_of dk173 lk173
theorem bo174 : bodyOK tCls tFty tMT gw tStr tNest cM174 := body_of dk174 lk174
theorem bo175 : bodyOK tCls tFty tMT gw tStr tNest cM175 := body_of dk175 lk175
theorem bo176 : bodyOK tCls tFty tMT gw tStr tNest cM176 := body_of dk176 lk176
theorem bo177 : bodyOK tCls tFty tMT gw tStr tNest cM177 := body_of dk177 lk177
theorem bo178 : bodyOK tCls tFty tMT gw tStr tNest cM178 := body_of dk178 lk178
theorem bo179 : bodyOK tCls tFty tMT gw tStr tNest cM179 := body_of dk179 lk179
theorem bo180 : bodyOK tCls tFty tMT gw tStr tNest cM180 := body_of dk180 lk180
theorem bo181 : bodyOK tCls tFty tMT gw tStr tNest cM181 := body_of dk181 lk181
theorem bo182 : bodyOK tCls tFty tMT gw tStr tNest cM182 := body_of dk182 lk182
theorem bo183 : bodyOK tCls tFty tMT gw tStr tNest cM183 := body_of dk183 lk183
theorem bo184 : bodyOK tCls tFty tMT gw tStr tNest cM184 := body_of dk184 lk184
theorem bo185 : bodyOK tCls tFty tMT gw tStr tNest cM185 := body_of dk185 lk185
theorem bo186 : bodyOK tCls tFty tMT gw tStr tNest cM186 := body_of dk186 lk186
theorem bo187 : bodyOK tCls tFty tMT gw tStr tNest cM187 := body_of dk187 lk187
theorem bo188 : bodyOK tCls tFty tMT gw tStr tNest cM188 := body_of dk188 lk188
theorem bo189 : bodyOK tCls tFty tMT gw tStr tNest cM189 := body_of dk189 lk189
theorem bo190 : bodyOK tCls tFty tMT gw tStr tNest cM190 := body_of dk190 lk190
theorem bo191 : bodyOK tCls tFty tMT gw tStr tNest cM191 := body_of dk191 lk191
theorem bo192 : bodyOK tCls tFty tMT gw tStr tNest cM192 := body_of dk192 lk192
theorem bo193 : bodyOK tCls tFty tMT gw tStr tNest cM193 := body_of dk193 lk193
theorem bo194 : bodyOK tCls tFty tMT gw tStr tNest cM194 := body_of dk194 lk194
theorem bo195 : bodyOK tCls tFty tMT gw tStr tNest cM195 := body_of dk195 lk195
theorem bo196 : bodyOK tCls tFty tMT gw tStr tNest cM196 := body_of dk196 lk196
theorem bo197 : bodyOK tCls tFty tMT gw tStr tNest cM197 := body_of dk197 lk197
theorem bo198 : bodyOK tCls tFty tMT gw tStr tNest cM198 := body_of dk198 lk198
theorem bo199 : bodyOK tCls tFty tMT gw tStr tNest cM199 := body_of dk199 lk199
theorem bo200 : bodyOK tCls tFty tMT gw tStr tNest cM200 := body_of dk200 lk200
theorem bo201 : bodyOK tCls tFty tMT gw tStr tNest cM201 := body_of dk201 lk201
theorem bo202 : bodyOK tCls tFty tMT gw tStr tNest cM202 := body_of dk202 lk202
theorem bo203 : bodyOK tCls tFty tMT gw tStr tNest cM203 := body_of dk203 lk203
theorem bo204 : bodyOK tCls tFty tMT gw tStr tNest cM204 := body_of dk204 lk204
theorem bo205 : bodyOK tCls tFty tMT gw tStr tNest cM205 := body_of dk205 lk205
theorem bo206 : bodyOK tCls tFty tMT gw tStr tNest cM206 := body_of dk206 lk206
theorem bo207 : bodyOK tCls tFty tMT gw tStr tNest cM207 := body_of dk207 lk207
theorem bo208 : bodyOK tCls tFty tMT gw tStr tNest cM208 := body_of dk208 lk208
theorem bo209 : bodyOK tCls tFty tMT gw tStr tNest cM209 := body_of dk209 lk209
theorem bo210 : bodyOK tCls tFty tMT gw tStr tNest cM210 := body_of dk210 lk210
theorem bo211 : bodyOK tCls tFty tMT gw tStr tNest cM211 := body_of dk211 lk211
theorem bo212 : bodyOK tCls tFty tMT gw tStr tNest cM212 := body_of dk212 lk212
theorem bo213 : bodyOK tCls tFty tMT gw tStr tNest cM213 := body_of dk213 lk213
theorem bo214 : bodyOK tCls tFty tMT gw tStr tNest cM214 := body_of dk214 lk214
theorem bo215 : bodyOK tCls tFty tMT gw tStr tNest cM215 := body_of dk215 lk215
theorem bo216 : bodyOK tCls tFty tMT gw tStr tNest cM216 := body_of dk216 lk216
theorem bo217 : bodyOK tCls tFty tMT gw tStr tNest cM217 := body_of dk217 lk217
theorem bo218 : bodyOK tCls tFty tMT gw tStr tNest cM218 := body_of dk218 lk218
theorem bo219 : bodyOK tCls tFty tMT gw tStr tNest cM219 := body_of dk219 lk219
theorem bo220 : bodyOK tCls tFty tMT gw tStr tNest cM220 := body_of dk220 lk220
theorem bo221 : bodyOK tCls tFty tMT gw tStr tNest cM221 := body_of dk221 lk221
theorem bo222 : bodyOK tCls tFty tMT gw tStr tNest cM222 := body_of dk222 lk222
theorem bo223 : bodyOK tCls tFty tMT gw tStr tNest cM223 := body_of dk223 lk223
theorem bo224 : bodyOK tCls tFty tMT gw tStr tNest cM224 := body_of dk224 lk224
theorem bo225 : bodyOK tCls tFty tMT gw tStr tNest cM225 := body_of dk225 lk225
theorem bo226 : bodyOK tCls tFty tMT gw tStr tNest cM226 := body_of dk226 lk226
theorem bo227 : bodyOK tCls tFty tMT gw tStr tNest cM227 := body_of dk227 lk227
theorem bo228 : bodyOK tCls tFty tMT gw tStr tNest cM228 := body_of dk228 lk228
theorem bo229 : bodyOK tCls tFty tMT gw tStr tNest cM229 := body_of dk229 lk229
theorem bo230 : bodyOK tCls tFty tMT gw tStr tNest cM230 := body_of dk230 lk230
theorem bo231 : bodyOK tCls tFty tMT gw tStr tNest cM231 := body_of dk231 lk231
theorem bo232 : bodyOK tCls tFty tMT gw tStr tNest cM232 := body_of dk232 lk232
theorem bo233 : bodyOK tCls tFty tMT gw tStr tNest cM233 := body_of dk233 lk233
theorem bo234 : bodyOK tCls tFty tMT gw tStr tNest cM234 := body_of dk234 lk234
theorem bo235 : bodyOK tCls tFty tMT gw tStr tNest cM235 := body_of dk235 lk235
theorem bo236 : bodyOK tCls tFty tMT gw tStr tNest cM236 := body_of dk236 lk236
theorem bo237 : bodyOK tCls tFty tMT gw tStr tNest cM237 := body_of dk237 lk237
theorem bo238 : bodyOK tCls tFty tMT gw tStr tNest cM238 := body_of dk238 lk238
theorem bs0 : ∀ M ∈ ([cM0, cM1, cM2, cM3, cM4, cM5, cM6, cM7, cM8, cM9, cM10, cM11, cM12, cM13, cM14, cM15, cM16, cM17, cM18, cM19] : List MM), bodyOK tCls tFty tMT gw tStr tNest M := List.forall_mem_cons.mpr ⟨bo0, List.forall_mem_cons.mpr ⟨bo1, List.forall_mem_cons.mpr ⟨bo2, List.forall_mem_cons.mpr ⟨bo3, List.forall_mem_cons.mpr ⟨bo4, List.forall_mem_cons.mpr ⟨bo5, List.forall_mem_cons.mpr ⟨bo6, List.forall_mem_cons.mpr ⟨bo7, List.forall_mem_cons.mpr ⟨bo8, List.forall_mem_cons.mpr ⟨bo9, List.forall_mem_cons.mpr ⟨bo10, List.forall_mem_cons.mpr ⟨bo11, List.forall_mem_cons.mpr ⟨bo12, List.forall_mem_cons.mpr ⟨bo13, List.forall_mem_cons.mpr ⟨bo14, List.forall_mem_cons.mpr ⟨bo15, List.forall_mem_cons.mpr ⟨bo16, List.forall_mem_cons.mpr ⟨bo17, List.forall_mem_cons.mpr ⟨bo18, List.forall_mem_cons.mpr ⟨bo19, fun _ h => absurd h List.not_mem_nil⟩⟩⟩⟩⟩⟩⟩⟩⟩⟩⟩⟩⟩⟩⟩⟩⟩⟩⟩⟩
theorem bs1 : ∀ M ∈ ([cM20, cM21, cM22, cM23, cM24, cM25, cM26, cM27, cM28, cM29, cM30, cM31, cM32, cM33, cM34, cM35, cM36, cM37, cM38, cM39] : List MM), bodyOK tCls tFty tMT gw tStr tNest M := List.forall_mem_cons.mpr ⟨bo20, List.forall_mem_cons.mpr ⟨bo21, List.forall_mem_cons.mpr ⟨bo22, List.forall_mem_cons.mpr ⟨bo23, List.forall_mem_cons.mpr ⟨bo24, List.forall_mem_cons.mpr ⟨bo25, List.forall_mem_cons.mpr ⟨bo26, List.forall_mem_cons.mpr ⟨bo27, List.forall_mem_cons.mpr ⟨bo28, List.forall_mem_cons.mpr ⟨bo29, List.forall_mem_cons.mpr ⟨bo30, List.forall_mem_cons.mpr ⟨bo31, List.forall_mem_cons.mpr ⟨bo32, List.forall_mem_cons.mpr ⟨bo33, List.forall_mem_cons.mpr ⟨bo34, List.forall_mem_cons.mpr ⟨bo35, List.forall_mem_cons.mpr ⟨bo36, List.forall_mem_cons.mpr ⟨bo37, List.forall_mem_cons.mpr ⟨bo38, List.forall_mem_cons.mpr ⟨bo39, fun _ h => absurd h List.not_mem_nil⟩⟩⟩⟩⟩⟩⟩⟩⟩⟩⟩⟩⟩⟩⟩⟩⟩⟩⟩⟩
theorem bs2 : ∀ M ∈ ([cM40, cM41, cM42, cM43, cM44, cM45, cM46, cM47, cM48, cM49, cM50, cM51, cM52, cM53, cM54, cM55, cM56, cM57, cM58, cM59] : List MM), bodyOK tCls tFty tMT gw tStr tNest M := List.forall_mem_cons.mpr ⟨bo40, List.forall_mem_cons.mpr ⟨bo41, List.forall_mem_cons.mpr ⟨bo42, List.forall_mem_cons.mpr ⟨bo43, List.forall_mem_cons.mpr ⟨bo44, List.forall_mem_cons.mpr ⟨bo45, List.forall_mem_cons.mpr ⟨bo46, List.forall_mem_cons.mpr ⟨bo47, List.forall_mem_cons.mpr ⟨bo48, List.forall_mem_cons.mpr ⟨bo49, List.forall_mem_cons.mpr ⟨bo50, List.forall_mem_cons.mpr ⟨bo51, List.forall_mem_cons.mpr ⟨bo52, List.forall_mem_cons.mpr ⟨bo53, List.forall_mem_cons.mpr ⟨bo54, List.forall_mem_cons.mpr ⟨bo55, List.forall_mem_cons.mpr ⟨bo56, List.forall_mem_cons.mpr ⟨bo57, List.forall_mem_cons.mpr ⟨bo58, List.forall_mem_cons.mpr ⟨bo59, fun _ h => absurd h List.not_mem_nil⟩⟩⟩⟩⟩⟩⟩⟩⟩⟩⟩⟩⟩⟩⟩⟩⟩⟩⟩⟩
theorem bs3 : ∀ M ∈ ([cM60, cM61, cM62, cM63, cM64, cM65, cM66, cM67, cM68, cM69, cM70, cM71, cM72, cM73, cM74, cM75, cM76, cM77, cM78, cM79] : List MM), bodyOK tCls tFty tMT gw tStr tNest M := List.forall_mem_cons.mpr ⟨bo60, List.forall_mem_cons.mpr ⟨bo61, List.forall_mem_cons.mpr ⟨bo62, List.forall_mem_cons.mpr ⟨bo63, List.forall_mem_cons.mpr ⟨bo64, List.forall_mem_cons.mpr ⟨bo65, List.forall_mem_cons.mpr ⟨bo66, List.forall_mem_cons.mpr ⟨bo67, List.forall_mem_cons.mpr ⟨bo68, List.forall_mem_cons.mpr ⟨bo69, List.forall_mem_cons.mpr ⟨bo70, List.forall_mem_cons.mpr ⟨bo71, List.forall_mem_cons.mpr ⟨bo72, List.forall_mem_cons.mpr ⟨bo73, List.forall_mem_cons.mpr ⟨bo74, List.forall_mem_cons.mpr ⟨bo75, List.forall_mem_cons.mpr ⟨bo76, List.forall_mem_cons.mpr ⟨bo77, List.forall_mem_cons.mpr ⟨bo78, List.forall_mem_cons.mpr ⟨bo79, fun _ h => absurd h List.not_mem_nil⟩⟩⟩⟩⟩⟩⟩⟩⟩⟩⟩⟩⟩⟩⟩⟩⟩⟩⟩⟩
theorem bs4 : ∀ M ∈ ([cM80, cM81, cM82, cM83, cM84, cM85, cM86, cM87, cM88, cM89, cM90, cM91, cM92, cM93, cM94, cM95, cM96, cM97, cM98, cM99] : List MM), bodyOK tCls tFty tMT gw tStr tNest M := List.forall_mem_cons.mpr ⟨bo80, List.forall_mem_cons.mpr ⟨bo81, List.forall_mem_cons.mpr ⟨bo82, List.forall_mem_cons.mpr ⟨bo83, List.forall_mem_cons.mpr ⟨bo84, List.forall_mem_cons.mpr ⟨bo85, List.forall_mem_cons.mpr ⟨bo86, List.forall_mem_cons.mpr ⟨bo87, List.forall_mem_cons.mpr ⟨bo88, List.forall_mem_cons.mpr ⟨bo89, List.forall_mem_cons.mpr ⟨bo90, List.forall_mem_cons.mpr ⟨bo91, List.forall_mem_cons.mpr ⟨bo92, List.forall_mem_cons.mpr ⟨bo93, List.forall_mem_cons.mpr ⟨bo94, List.forall_mem_cons.mpr ⟨bo95, List.forall_mem_cons.mpr ⟨bo96, List.forall_mem_cons.mpr ⟨bo97, List.forall_mem_cons.mpr ⟨bo98, List.forall_mem_cons.mpr ⟨bo99, fun _ h => absurd h List.not_mem_nil⟩⟩⟩⟩⟩⟩⟩⟩⟩⟩⟩⟩⟩⟩⟩⟩⟩⟩⟩⟩
theorem bs5 : ∀ M ∈ ([cM100, cM101, cM102, cM103, cM104, cM105, cM106, cM107, cM108, cM109, cM110, cM111, cM112, cM113, cM114, cM115, cM116, cM117, cM118, cM119] : List MM), bodyOK tCls tFty tMT gw tStr tNest M := List.forall_mem_cons.mpr ⟨bo100, List.forall_mem_cons.mpr ⟨bo101, List.forall_mem_cons.mpr ⟨bo102, List.forall_mem_cons.mpr ⟨bo103, List.forall_mem_cons.mpr ⟨bo104, List.forall_mem_cons.mpr ⟨bo105, List.forall_mem_cons.mpr ⟨bo106, List.forall_mem_cons.mpr ⟨bo107, List.forall_mem_cons.mpr ⟨bo108, List.forall_mem_cons.mpr ⟨bo109, List.forall_mem_cons.mpr ⟨bo110, List.forall_mem_cons.mpr ⟨bo111, List.forall_mem_cons.mpr ⟨bo112, List.forall_mem_cons.mpr ⟨bo113, List.forall_mem_cons.mpr ⟨bo114, List.forall_mem_cons.mpr ⟨bo115, List.forall_mem_cons.mpr ⟨bo116, List.forall_mem_cons.mpr ⟨bo117, List.forall_mem_cons.mpr ⟨bo118, List.forall_mem_cons.mpr ⟨bo119, fun _ h => absurd h List.not_mem_nil⟩⟩⟩⟩⟩⟩⟩⟩⟩⟩⟩⟩⟩⟩⟩⟩⟩⟩⟩⟩
theorem bs6 : ∀ M ∈ ([cM120, cM121, cM122, cM123, cM124, cM125, cM126, cM127, cM128, cM129, cM130, cM131, cM132, cM133, cM134, cM135, cM136, cM137, cM138, cM139] : List MM), bodyOK tCls tFty tMT gw tStr tNest M := List.forall_mem_cons.mpr ⟨bo120, List.forall_mem_cons.mpr ⟨bo121, List.forall_mem_cons.mpr ⟨bo122, List.forall_mem_cons.mpr ⟨bo123, List.forall_mem_cons.mpr ⟨bo124, List.forall_mem_cons.mpr ⟨bo125, List.forall_mem_cons.mpr ⟨bo126, List.forall_mem_cons.mpr ⟨bo127, List.forall_mem_cons.mpr ⟨bo128, List.forall_mem_cons.mpr ⟨bo129, List.forall_mem_cons.mpr ⟨bo130, List.forall_mem_cons.mpr ⟨bo131, List.forall_mem_cons.mpr ⟨bo132, List.forall_mem_cons.mpr ⟨bo133, List.forall_mem_cons.mpr ⟨bo134, List.forall_mem_cons.mpr ⟨bo135, List.forall_mem_cons.mpr ⟨bo136, List.forall_mem_cons.mpr ⟨bo137, List.forall_mem_cons.mpr ⟨bo138, List.forall_mem_cons.mpr ⟨bo139, fun _ h => absurd h List.not_mem_nil⟩⟩⟩⟩⟩⟩⟩⟩⟩⟩⟩⟩⟩⟩⟩⟩⟩⟩⟩⟩
theorem bs7 : ∀ M ∈ ([cM140, cM141, cM142, cM143, cM144, cM145, cM146, cM147, cM148, cM149, cM150, cM151, cM152, cM153, cM154, cM155, cM156, cM157, cM158, cM159] : List MM), bodyOK tCls tFty tMT gw tStr tNest M := List.forall_mem_cons.mpr ⟨bo140, List.forall_mem_cons.mpr ⟨bo141, List.forall_mem_cons.mpr ⟨bo142, List.forall_mem_cons.mpr ⟨bo143, List.forall_mem_cons.mpr ⟨bo144, List.forall_mem_cons.mpr ⟨bo145, List.forall_mem_cons.mpr ⟨bo146, List.forall_mem_cons.mpr ⟨bo147, List.forall_mem_cons.mpr ⟨bo148, List.forall_mem_cons.mpr ⟨bo149, List.forall_mem_cons.mpr ⟨bo150, List.forall_mem_cons.mpr ⟨bo151, List.forall_mem_cons.mpr ⟨bo152, List.forall_mem_cons.mpr ⟨bo153, List.forall_mem_cons.mpr ⟨bo154, List.forall_mem_cons.mpr ⟨bo155, List.forall_mem_cons.mpr ⟨bo156, List.forall_mem_cons.mpr ⟨bo157, List.forall_mem_cons.mpr ⟨bo158, List.forall_mem_cons.mpr ⟨bo159, fun _ h => absurd h List.not_mem_nil⟩⟩⟩⟩⟩⟩⟩⟩⟩⟩⟩⟩⟩⟩⟩⟩⟩⟩⟩⟩
theorem bs8 : ∀ M ∈ ([cM160, cM161, cM162, cM163, cM164, cM165, cM166, cM167, cM168, cM169, cM170, cM171, cM172, cM173, cM174, cM175, cM176, cM177, cM178, cM179] : List MM), bodyOK tCls tFty tMT gw tStr tNest M := List.forall_mem_cons.mpr ⟨bo160, List.forall_mem_cons.mpr ⟨bo161, List.forall_mem_cons.mpr ⟨bo162, List.forall_mem_cons.mpr ⟨bo163, List.forall_mem_cons.mpr ⟨bo164, List.forall_mem_cons.mpr ⟨bo165, List.forall_mem_cons.mpr ⟨bo166, List.forall_mem_cons.mpr ⟨bo167, List.forall_mem_cons.mpr ⟨bo168, List.forall_mem_cons.mpr ⟨bo169, List.forall_mem_cons.mpr ⟨bo170, List.forall_mem_cons.mpr ⟨bo171, List.forall_mem_cons.mpr ⟨bo172, List.forall_mem_cons.mpr ⟨bo173, List.forall_mem_cons.mpr ⟨bo174, List.forall_mem_cons.mpr ⟨bo175, List.forall_mem_cons.mpr ⟨bo176, List.forall_mem_cons.mpr ⟨bo177, List.forall_mem_cons.mpr ⟨bo178, List.forall_mem_cons.mpr ⟨bo179, fun _ h => absurd h List.not_mem_nil⟩⟩⟩⟩⟩⟩⟩⟩⟩⟩⟩⟩⟩⟩⟩⟩⟩⟩⟩⟩
theorem bs9 : ∀ M ∈ ([cM180, cM181, cM182, cM183, cM184, cM185, cM186, cM187, cM188, cM189, cM190, cM191, cM192, cM193, cM194, cM195, cM196, cM197, cM198, cM199] : List MM), bodyOK tCls tFty tMT gw tStr tNest M := List.forall_mem_cons.mpr ⟨bo180, List.forall_mem_cons.mpr ⟨bo181, List.forall_mem_cons.mpr ⟨bo182, List.forall_mem_cons.mpr ⟨bo183, List.forall_mem_cons.mpr ⟨bo184, List.forall_mem_cons.mpr ⟨bo185, List.forall_mem_cons.mpr ⟨bo186, List.forall_mem_cons.mpr ⟨bo187, List.forall_mem_cons.mpr ⟨bo188, List.forall_mem_cons.mpr ⟨bo189, List.forall_mem_cons.mpr ⟨bo190, List.forall_mem_cons.mpr ⟨bo191, List.forall_mem_cons.mpr ⟨bo192, List.forall_mem_cons.mpr ⟨bo193, List.forall_mem_cons.mpr ⟨bo194, List.forall_mem_cons.mpr ⟨bo195, List.forall_mem_cons.mpr ⟨bo196, List.forall_mem_cons.mpr ⟨bo197, List.forall_mem_cons.mpr ⟨bo198, List.forall_mem_cons.mpr ⟨bo199, fun _ h => absurd h List.not_mem_nil⟩⟩⟩⟩⟩⟩⟩⟩⟩⟩⟩⟩⟩⟩⟩⟩⟩⟩⟩⟩
theorem bs10 : ∀ M ∈ ([cM200, cM201, cM202, cM203, cM204, cM205, cM206, cM207, cM208, cM209, cM210, cM211, cM212, cM213, cM214, cM215, cM216, cM217, cM218, cM219] : List MM), bodyOK tCls tFty tMT gw tStr tNest M := List.forall_mem_cons.mpr ⟨bo200, List.forall_mem_cons.mpr ⟨bo201, List.forall_mem_cons.mpr ⟨bo202, List.forall_mem_cons.mpr ⟨bo203, List.forall_mem_cons.mpr ⟨bo204, List.forall_mem_cons.mpr ⟨bo205, List.forall_mem_cons.mpr ⟨bo206, List.forall_mem_cons.mpr ⟨bo207, List.forall_mem_cons.mpr ⟨bo208, List.forall_mem_cons.mpr ⟨bo209, List.forall_mem_cons.mpr ⟨bo210, List.forall_mem_cons.mpr ⟨bo211, List.forall_mem_cons.mpr ⟨bo212, List.forall_mem_cons.mpr ⟨bo213, List.forall_mem_cons.mpr ⟨bo214, List.forall_mem_cons.mpr ⟨bo215, List.forall_mem_cons.mpr ⟨bo216, List.forall_mem_cons.mpr ⟨bo217, List.forall_mem_cons.mpr ⟨bo218, List.forall_mem_cons.mpr ⟨bo219, fun _ h => absurd h List.not_mem_nil⟩⟩⟩⟩⟩⟩⟩⟩⟩⟩⟩⟩⟩⟩⟩⟩⟩⟩⟩⟩
theorem bs11 : ∀ M ∈ ([cM220, cM221, cM222, cM223, cM224, cM225, cM226, cM227, cM228, cM229, cM230, cM231, cM232, cM233, cM234, cM235, cM236, cM237, cM238] : List MM), bodyOK tCls tFty tMT gw tStr tNest M := List.forall_mem_cons.mpr ⟨bo220, List.forall_mem_cons.mpr ⟨bo221, List.forall_mem_cons.mpr ⟨bo222, List.forall_mem_cons.mpr ⟨bo223, List.forall_mem_cons.mpr ⟨bo224, List.forall_mem_cons.mpr ⟨bo225, List.forall_mem_cons.mpr ⟨bo226, List.forall_mem_cons.mpr ⟨bo227, List.forall_mem_cons.mpr ⟨bo228, List.forall_mem_cons.mpr ⟨bo229, List.forall_mem_cons.mpr ⟨bo230, List.forall_mem_cons.mpr ⟨bo231, List.forall_mem_cons.mpr ⟨bo232, List.forall_mem_cons.mpr ⟨bo233, List.forall_mem_cons.mpr ⟨bo234, List.forall_mem_cons.mpr ⟨bo235, List.forall_mem_cons.mpr ⟨bo236, List.forall_mem_cons.mpr ⟨bo237, List.forall_mem_cons.mpr ⟨bo238, fun _ h => absurd h List.not_mem_nil⟩⟩⟩⟩⟩⟩⟩⟩⟩⟩⟩⟩⟩⟩⟩⟩⟩⟩⟩
set_option maxRecDepth 100000 in
theorem tMT_cut : tMT = ([cM0, cM1, cM2, cM3, cM4, cM5, cM6, cM7, cM8, cM9, cM10, cM11, cM12, cM13, cM14, cM15, cM16, cM17, cM18, cM19] : List MM) ++ ([cM20, cM21, cM22, cM23, cM24, cM25, cM26, cM27, cM28, cM29, cM30, cM31, cM32, cM33, cM34, cM35, cM36, cM37, cM38, cM39] : List MM) ++ ([cM40, cM41, cM42, cM43, cM44, cM45, cM46, cM47, cM48, cM49, cM50, cM51, cM52, cM53, cM54, cM55, cM56, cM57, cM58, cM59] : List MM) ++ ([cM60, cM61, cM62, cM63, cM64, cM65, cM66, cM67, cM68, cM69, cM70, cM71, cM72, cM73, cM74, cM75, cM76, cM77, cM78, cM79] : List MM) ++ ([cM80, cM81, cM82, cM83, cM84, cM85, cM86, cM87, cM88, cM89, cM90, cM91, cM92, cM93, cM94, cM95, cM96, cM97, cM98, cM99] : List MM) ++ ([cM100, cM101, cM102, cM103, cM104, cM105, cM106, cM107, cM108, cM109, cM110, cM111, cM112, cM113, cM114, cM115, cM116, cM117, cM118, cM119] : List MM) ++ ([cM120, cM121, cM122, cM123, cM124, cM125, cM126, cM127, cM128, cM129, cM130, cM131, cM132, cM133, cM134, cM135, cM136, cM137, cM138, cM139] : List MM) ++ ([cM140, cM141, cM142, cM143, cM144, cM145, cM146, cM147, cM148, cM149, cM150, cM151, cM152, cM153, cM154, cM155, cM156, cM157, cM158, cM159] : List MM) ++ ([cM160, cM161, cM162, cM163, cM164, cM165, cM166, cM167, cM168, cM169, cM170, cM171, cM172, cM173, cM174, cM175, cM176, cM177, cM178, cM179] : List MM) ++ ([cM180, cM181, cM182, cM183, cM184, cM185, cM186, cM187, cM188, cM189, cM190, cM191, cM192, cM193, cM194, cM195, cM196, cM197, cM198, cM199] : List MM) ++ ([cM200, cM201, cM202, cM203, cM204, cM205, cM206, cM207, cM208, cM209, cM210, cM211, cM212, cM213, cM214, cM215, cM216, cM217, cM218, cM219] : List MM) ++ ([cM220, cM221, cM222, cM223, cM224, cM225, cM226, cM227, cM228, cM229, cM230, cM231, cM232, cM233, cM234, cM235, cM236, cM237, cM238] : List MM) := rfl
theorem mem2 {P : MM → Prop} {a b : List MM} (h : ∀ M ∈ a, P M) (h2 : ∀ M ∈ b, P M) : ∀ M ∈ a ++ b, P M := fun M hM => (List.mem_append.mp hM).elim (h M) (h2 M)
set_option maxRecDepth 100000 in
theorem bo_all : ∀ M ∈ tMT, bodyOK tCls tFty tMT gw tStr tNest M := by rw [tMT_cut]; exact mem2 (mem2 (mem2 (mem2 (mem2 (mem2 (mem2 (mem2 (mem2 (mem2 (mem2 (bs0) bs1) bs2) bs3) bs4) bs5) bs6) bs7) bs8) bs9) bs10) bs11
theorem tKd_len : tKd.length = 239 := by decide +kernel
theorem tMT_ok : ∀ mi M, tMT[mi]? = some M → bodyOK tCls tFty tMT gw tStr tNest M ∧ (0 < mi → callOK gw M) := by
  intro mi M hM
  refine ⟨bo_all M (List.mem_of_getElem? hM), fun h0 => ?_⟩
  have hlt := (List.getElem?_eq_some_iff.mp hM).1
  have hlt2 : mi < tKd.length := by rw [tMT_len] at hlt; rw [tKd_len]; exact hlt
  exact (kd_of h0 hM (List.getElem?_eq_getElem hlt2)).1
theorem gw_good : ∀ w ∈ gw, goodWord w = true := fun w h => (List.mem_filter.mp h).2
theorem dv_tr : ∀ (t : FieldType) (rA : Nat → Nat) (sio : Value), trv rA sio (defaultValue t) = defaultValue t := by
  intro t rA sio
  cases t <;> rfl
theorem lay_good (C : String) (T : u_T) (k : Nat) : goodWord (u_lay C T k) = true := by
  unfold u_lay
  split <;> rfl
theorem cls_of {ci : Nat} {q : vw_C} (h : cB ci = true) (hq : tCls[ci]? = some q) : (∀ w ∈ u_ws q.1 q.2.1 q.2.2, w ∈ gw) ∧ (∀ k, k < q.2.2 → parseFieldDescriptor (q.2.1 k).2.2.1 = some (tFty ci k)) ∧ (∀ a, a < q.2.2 → ∀ b, b < q.2.2 → a ≠ b → (q.2.1 a).2.1 ≠ (q.2.1 b).2.1) ∧
    (tDfl ci).length = q.2.2 ∧ (∀ j, j < q.2.2 → (tDfl ci)[j]? = some (defaultValue (tFty ci j)) ∧ ∀ rA sio, trv rA sio (defaultValue (tFty ci j)) = defaultValue (tFty ci j)) ∧ Cond.instantiable q.1 q.2.2 ∈ gw ∧ Cond.initialized q.1 ∈ gw := by
  unfold cB at h
  rw [hq] at h
  simp only [Bool.and_eq_true, decide_eq_true_eq, List.all_eq_true, List.mem_range, Bool.or_eq_true] at h
  obtain ⟨⟨⟨⟨h1, h2⟩, h3⟩, h4⟩, h5⟩ := h
  refine ⟨fun w hw => List.mem_filter.mpr (h1 w hw), fun k hk => (h2 k hk).1.1, fun a ha b hb hne => ?_, h3, fun j hj => ⟨(h2 j hj).1.2, dv_tr _⟩, List.mem_filter.mpr ⟨h4, rfl⟩, List.mem_filter.mpr ⟨h5, rfl⟩⟩
  rcases (h2 a ha).2 b hb with e | e
  · exact absurd e hne
  · exact e
theorem tCls_len : tCls.length = 10 := rfl
theorem tCls_ok : clsOK tCls tFty tDfl gw := by
  intro ci q hq
  have hlt := (List.getElem?_eq_some_iff.mp hq).1
  rw [tCls_len] at hlt
  rcases (show ci = 0 ∨ ci = 1 ∨ ci = 2 ∨ ci = 3 ∨ ci = 4 ∨ ci = 5 ∨ ci = 6 ∨ ci = 7 ∨ ci = 8 ∨ ci = 9 by omega) with e | e | e | e | e | e | e | e | e | e <;> subst e
  · exact cls_of cB_0 hq
  · exact cls_of cB_1 hq
  · exact cls_of cB_2 hq
  · exact cls_of cB_3 hq
  · exact cls_of cB_4 hq
  · exact cls_of cB_5 hq
  · exact cls_of cB_6 hq
  · exact cls_of cB_7 hq
  · exact cls_of cB_8 hq
  · exact cls_of cB_9 hq
end Asm
end
section
/-! RUNS of the small machine as conditions: TT (a run ends so), KK (what follows in the frames below) -/
section Sem
variable {MT : List MM} {ro : Nat → Option MC} {fty : Nat → Nat → FieldType} {dfl : Nat → List Value}
theorem ex_mono : ∀ (n d mi : Nat) (F : MH) (pc : Nat) (lv : LVs) (st : List Value) (z : Option Value × MH), ex MT ro fty dfl n d mi F pc lv st = some z → ∀ n' d', n ≤ n' → d ≤ d' → ex MT ro fty dfl n' d' mi F pc lv st = some z := by
  intro n
  induction n with
  | zero => intro d mi F pc lv st z h; cases h
  | succ n ih =>
    intro d mi F pc lv st z h n' d' hn hd
    obtain ⟨n', rfl⟩ : ∃ k, n' = k + 1 := ⟨n' - 1, by omega⟩
    have hn : n ≤ n' := by omega
    rw [ex] at h
    split at h
    · cases h
    · rename_i E hE
      split at h
      · rename_i q hq
        rw [ex, hE]; simp only; rw [hq]
        exact ih _ _ _ _ _ _ _ h _ _ hn hd
      · rename_i hq
        split at h
        · rename_i v hv
          rw [ex, hE]; simp only; rw [hq]; simp only; rw [hv]
          exact h
        · rename_i hv
          split at h
          · cases h
          · rename_i q hi
            split at h
            · rename_i h9
              split at h
              · rename_i a ha
                split at h
                · rename_i hk
                  rw [ex, hE]; simp only; rw [hq]; simp only; rw [hv]; simp only; rw [hi]; simp only; rw [if_pos h9, ha]; simp only; rw [if_pos hk]
                  exact ih _ _ _ _ _ _ _ h _ _ hn hd
                · cases h
              · cases h
            · rename_i h9
              split at h
              · rename_i h8
                split at h
                · rename_i x y hxy
                  rw [ex, hE]; simp only; rw [hq]; simp only; rw [hv]; simp only; rw [hi]; simp only; rw [if_neg h9, if_pos h8, hxy]
                  exact ih _ _ _ _ _ _ _ h _ _ hn hd
                · cases h
              · rename_i h8
                split at h
                · rename_i hr
                  split at h
                  · cases h
                  · rename_i d1
                    obtain ⟨d2, rfl⟩ : ∃ k, d' = k + 1 := ⟨d' - 1, by omega⟩
                    split at h
                    · cases h
                    · rename_i z1 hz
                      rw [ex, hE]; simp only; rw [hq]; simp only; rw [hv]; simp only; rw [hi]; simp only; rw [if_neg h9, if_neg h8, if_pos hr]
                      rw [ih _ _ _ _ _ _ _ hz n' d2 hn (by omega)]
                      exact ih _ _ _ _ _ _ _ h _ _ hn hd
                · cases h
/-- a run from here ends, and so -/
def TT (MT : List MM) (ro : Nat → Option MC) (fty : Nat → Nat → FieldType) (dfl : Nat → List Value) (d mi : Nat) (F : MH) (pc : Nat) (lv : LVs) (st : List Value) (Q : Option Value → MH → Prop) : Prop := ∃ n z, ex MT ro fty dfl n d mi F pc lv st = some z ∧ Q z.1 z.2
theorem TT.imp {d mi : Nat} {F : MH} {pc : Nat} {lv : LVs} {st : List Value} {Q Q2 : Option Value → MH → Prop} (h : TT MT ro fty dfl d mi F pc lv st Q) (hq : ∀ v F1, Q v F1 → Q2 v F1) : TT MT ro fty dfl d mi F pc lv st Q2 := by
  obtain ⟨n, z, h1, h2⟩ := h
  exact ⟨n, z, h1, hq _ _ h2⟩
theorem TT.deep {d d' mi : Nat} {F : MH} {pc : Nat} {lv : LVs} {st : List Value} {Q : Option Value → MH → Prop} (h : TT MT ro fty dfl d mi F pc lv st Q) (hd : d ≤ d') : TT MT ro fty dfl d' mi F pc lv st Q := by
  obtain ⟨n, z, h1, h2⟩ := h
  exact ⟨n, z, ex_mono _ _ _ _ _ _ _ _ h1 n d' (Nat.le_refl _) hd, h2⟩
theorem TT.one {d mi : Nat} {F : MH} {pc : Nat} {lv : LVs} {st : List Value} {Q : Option Value → MH → Prop} {E : MI × Option FieldType} {q : MS} (hE : m_at MT mi pc = some E) (hq : m_one ro fty dfl E.1 F lv st = some q) (h : TT MT ro fty dfl d mi q.1 q.2.1 q.2.2.1 q.2.2.2 Q) : TT MT ro fty dfl d mi F pc lv st Q := by
  obtain ⟨n, z, h1, h2⟩ := h
  exact ⟨n + 1, z, by rw [ex, hE]; simp only; rw [hq]; exact h1, h2⟩
theorem TT.ret {d mi : Nat} {F : MH} {pc : Nat} {lv : LVs} {st : List Value} {Q : Option Value → MH → Prop} {E : MI × Option FieldType} {v : Option Value} (hE : m_at MT mi pc = some E) (hq : m_one ro fty dfl E.1 F lv st = none) (hv : m_ret E.2 E.1 st = some v) (h : Q v F) : TT MT ro fty dfl d mi F pc lv st Q :=
  ⟨1, (v, F), by rw [ex, hE]; simp only; rw [hq]; simp only; rw [hv], h⟩
theorem TT.call {d mi : Nat} {F : MH} {pc : Nat} {lv : LVs} {st : List Value} {Q : Option Value → MH → Prop} {E : MI × Option FieldType} {q : Nat × List Value × List Value} (hE : m_at MT mi pc = some E) (hq : m_one ro fty dfl E.1 F lv st = none) (hv : m_ret E.2 E.1 st = none) (hi : m_inv ro F E.1 st = some q) (h9 : ¬ q.1 = 9999) (h8 : ¬ q.1 = 9998) (hr : m_room MT q.1 q.2.1 = true)
    (h : TT MT ro fty dfl d q.1 F 0 (lv_args 0 q.2.1) [] (fun v F1 => TT MT ro fty dfl (d + 1) mi F1 (pc + 3) lv (v.toList ++ q.2.2) Q)) : TT MT ro fty dfl (d + 1) mi F pc lv st Q := by
  obtain ⟨n, z, h1, n2, z2, h2, h3⟩ := h
  refine ⟨max n n2 + 1, z2, ?_, h3⟩
  rw [ex, hE]; simp only; rw [hq]; simp only; rw [hv]; simp only; rw [hi]; simp only; rw [if_neg h9, if_neg h8, if_pos hr]
  rw [ex_mono _ _ _ _ _ _ _ _ h1 (max n n2) d (Nat.le_max_left _ _) (Nat.le_refl _)]
  exact ex_mono _ _ _ _ _ _ _ _ h2 (max n n2) (d + 1) (Nat.le_max_right _ _) (Nat.le_refl _)
theorem TT.maxi {d mi : Nat} {F : MH} {pc : Nat} {lv : LVs} {st : List Value} {Q : Option Value → MH → Prop} {E : MI × Option FieldType} {q : Nat × List Value × List Value} {x y : Int32} (hE : m_at MT mi pc = some E) (hq : m_one ro fty dfl E.1 F lv st = none) (hv : m_ret E.2 E.1 st = none) (hi : m_inv ro F E.1 st = some q) (h8 : q.1 = 9998) (ha : q.2.1 = [.int x, .int y])
    (h : TT MT ro fty dfl d mi F (pc + 3) lv (.int (if x < y then y else x) :: q.2.2) Q) : TT MT ro fty dfl d mi F pc lv st Q := by
  obtain ⟨n, z, h1, h2⟩ := h
  refine ⟨n + 1, z, ?_, h2⟩
  have h9 : ¬ q.1 = 9999 := by omega
  rw [ex, hE]; simp only; rw [hq]; simp only; rw [hv]; simp only; rw [hi]; simp only; rw [if_neg h9, if_pos h8, ha]
  exact h1
/-- a frame: method, pc, locals, stack -/
abbrev CF : Type := Nat × Nat × LVs × List Value
/-- what the frames below ask of an answer -/
def KK (MT : List MM) (ro : Nat → Option MC) (fty : Nat → Nat → FieldType) (dfl : Nat → List Value) : Nat → List CF → (Option Value → MH → Prop) → Option Value → MH → Prop
  | _, [], Q => Q
  | d, g :: fs, Q => fun v F1 => TT MT ro fty dfl (d + 1) g.1 F1 (g.2.1 + 3) g.2.2.1 (v.toList ++ g.2.2.2) (KK MT ro fty dfl (d + 1) fs Q)
def RR (MT : List MM) (ro : Nat → Option MC) (fty : Nat → Nat → FieldType) (dfl : Nat → List Value) (d : Nat) (f : CF) (fs : List CF) (F : MH) (Q : Option Value → MH → Prop) : Prop := TT MT ro fty dfl d f.1 F f.2.1 f.2.2.1 f.2.2.2 (KK MT ro fty dfl d fs Q)
end Sem
end
section
/-! SYMBOLIC RUNS, I: values, states, what they mean -/
/-- a symbolic value: its number, its kind (0 int, 1 long, 2 reference of role lo, 10 and j: int of set j), least, most, bounds of the difference from others -/
abbrev AV : Type := Nat × Nat × Int × Int × List (Nat × Int × Int)
abbrev SF : Type := Nat × Nat × List (Nat × AV) × List AV
abbrev FA : Type := Nat × Nat × Nat × AV
abbrev EA : Type := Nat × Nat × AV × AV
/-- a symbolic state: the frame that runs, those below, facts on cells, facts on places that are symbols, sums, the next number -/
abbrev SS : Type := SF × List SF × List FA × List EA × List (Nat × Nat × Nat) × Nat
def vz (v : Value) : Int := match v with
  | .int x => x.toInt
  | .long x => x.toInt
  | _ => 0
def isI (v : Value) : Prop := ∃ x, v = .int x
def isJ (v : Value) : Prop := ∃ x, v = .long x
/-- a value is of a kind, between bounds -/
def okE (Γ : Nat → Option Nat) (sets : List (List Int)) (k : Nat) (lo hi : Int) (v : Value) : Prop :=
  if k = 0 then isI v ∧ lo ≤ vz v ∧ vz v ≤ hi
  else if k = 1 then isJ v ∧ lo ≤ vz v ∧ vz v ≤ hi
  else if k = 2 then ∃ a, v = .ref a ∧ Γ a = some lo.toNat
  else if 10 ≤ k then isI v ∧ lo ≤ vz v ∧ vz v ≤ hi ∧ vz v ∈ sets.getD (k - 10) []
  else False
def okA (Γ : Nat → Option Nat) (sets : List (List Int)) (vs : List Value) (a : AV) : Prop :=
  ∃ v, vs[a.1]? = some v ∧ okE Γ sets a.2.1 a.2.2.1 a.2.2.2.1 v ∧ ∀ r ∈ a.2.2.2.2, ∃ w, vs[r.1]? = some w ∧ r.2.1 ≤ vz v - vz w ∧ vz v - vz w ≤ r.2.2
section SxA
variable {Γ : Nat → Option Nat} {sets : List (List Int)} {vs : List Value}
theorem get_app {vs t : List Value} {i : Nat} {v : Value} (h : vs[i]? = some v) : (vs ++ t)[i]? = some v := by
  have hl := (List.getElem?_eq_some_iff.mp h).1
  rw [List.getElem?_append_left hl]; exact h
theorem okA.app {a : AV} (h : okA Γ sets vs a) (t : List Value) : okA Γ sets (vs ++ t) a := by
  obtain ⟨v, h1, h2, h3⟩ := h
  exact ⟨v, get_app h1, h2, fun r hr => by obtain ⟨w, g1, g2⟩ := h3 r hr; exact ⟨w, get_app g1, g2⟩⟩
/-- kinds of numbers: bounds may be narrowed -/
theorem okE.clamp {k : Nat} {lo hi lo2 hi2 : Int} {v : Value} (h : okE Γ sets k lo hi v) (hk : ¬ k = 2) (hl : lo2 ≤ vz v) (hh : vz v ≤ hi2) : okE Γ sets k (max lo lo2) (min hi hi2) v := by
  unfold okE at h ⊢
  by_cases h0 : k = 0
  · rw [if_pos h0] at h ⊢; exact ⟨h.1, by omega, by omega⟩
  rw [if_neg h0] at h ⊢
  by_cases h1 : k = 1
  · rw [if_pos h1] at h ⊢; exact ⟨h.1, by omega, by omega⟩
  rw [if_neg h1, if_neg hk] at h ⊢
  by_cases h10 : 10 ≤ k
  · rw [if_pos h10] at h ⊢; exact ⟨h.1, by omega, by omega, h.2.2.2⟩
  · rw [if_neg h10] at h; exact h.elim
theorem okE.num {k : Nat} {lo hi : Int} {v : Value} (h : okE Γ sets k lo hi v) (hk : ¬ k = 2) : lo ≤ vz v ∧ vz v ≤ hi := by
  unfold okE at h
  by_cases h0 : k = 0
  · rw [if_pos h0] at h; exact h.2
  rw [if_neg h0] at h
  by_cases h1 : k = 1
  · rw [if_pos h1] at h; exact h.2
  rw [if_neg h1, if_neg hk] at h
  by_cases h10 : 10 ≤ k
  · rw [if_pos h10] at h; exact ⟨h.2.1, h.2.2.1⟩
  · rw [if_neg h10] at h; exact h.elim
/-- the value that is number id is between lo and hi -/
def a_cl (id : Nat) (lo hi : Int) (a : AV) : AV :=
  if a.2.1 = 2 then a
  else if a.1 = id then (a.1, a.2.1, max a.2.2.1 lo, min a.2.2.2.1 hi, a.2.2.2.2)
  else match a.2.2.2.2.find? (fun r => r.1 == id) with
    | some r => (a.1, a.2.1, max a.2.2.1 (lo + r.2.1), min a.2.2.2.1 (hi + r.2.2), a.2.2.2.2)
    | none => a
theorem a_cl_ok {id : Nat} {lo hi : Int} {a : AV} (h : okA Γ sets vs a) {w : Value} (hw : vs[id]? = some w) (h1 : lo ≤ vz w) (h2 : vz w ≤ hi) : okA Γ sets vs (a_cl id lo hi a) := by
  obtain ⟨v, g1, g2, g3⟩ := h
  unfold a_cl
  split
  · exact ⟨v, g1, g2, g3⟩
  · rename_i hk
    split
    · rename_i he
      rw [← he] at hw
      have e1 : v = w := Option.some.inj (g1.symm.trans hw)
      subst e1
      exact ⟨v, g1, g2.clamp hk h1 h2, g3⟩
    · split
      · rename_i r hr
        obtain ⟨w2, q1, q2, q3⟩ := g3 r (List.mem_of_find?_eq_some hr)
        have q4 : r.1 = id := by have := List.find?_some hr; simpa using this
        rw [q4] at q1
        have e1 : w2 = w := Option.some.inj (q1.symm.trans hw)
        subst e1
        exact ⟨v, g1, g2.clamp hk (by omega) (by omega), g3⟩
      · exact ⟨v, g1, g2, g3⟩
theorem a_cl_id (id : Nat) (lo hi : Int) (a : AV) : (a_cl id lo hi a).1 = a.1 := by
  unfold a_cl
  split
  · rfl
  · split
    · rfl
    · split <;> rfl
def i_and (a b : Int × Int) : Int × Int := (max a.1 b.1, min a.2 b.2)
/-- bounds of the difference of two values -/
def a_com (y : AV) : List (Nat × Int × Int) → Int × Int → Int × Int
  | [], b => b
  | r :: t, b => a_com y t (match y.2.2.2.2.find? (fun q => q.1 == r.1) with
    | some q => i_and b (r.2.1 - q.2.2, r.2.2 - q.2.1)
    | none => b)
def a_diff (x y : AV) : Int × Int :=
  let b0 := (x.2.2.1 - y.2.2.2.1, x.2.2.2.1 - y.2.2.1)
  let b1 := if x.1 = y.1 then i_and b0 (0, 0) else b0
  let b2 := match x.2.2.2.2.find? (fun q => q.1 == y.1) with | some q => i_and b1 (q.2.1, q.2.2) | none => b1
  let b3 := match y.2.2.2.2.find? (fun q => q.1 == x.1) with | some q => i_and b2 (-q.2.2, -q.2.1) | none => b2
  a_com y x.2.2.2.2 b3
def i_in (d : Int) (b : Int × Int) : Prop := b.1 ≤ d ∧ d ≤ b.2
theorem i_in.and {d : Int} {a b : Int × Int} (h : i_in d a) (h2 : i_in d b) : i_in d (i_and a b) := by
  unfold i_in i_and at *
  simp only
  omega
theorem a_com_ok {y : AV} {v w : Value} (hw : vs[y.1]? = some w) (hy : ∀ r ∈ y.2.2.2.2, ∃ u, vs[r.1]? = some u ∧ r.2.1 ≤ vz w - vz u ∧ vz w - vz u ≤ r.2.2) : ∀ (l : List (Nat × Int × Int)) (b : Int × Int), (∀ r ∈ l, ∃ u, vs[r.1]? = some u ∧ r.2.1 ≤ vz v - vz u ∧ vz v - vz u ≤ r.2.2) → i_in (vz v - vz w) b → i_in (vz v - vz w) (a_com y l b)
  | [], b, _, h => h
  | r :: t, b, hl, h => by
    rw [a_com]
    refine a_com_ok hw hy t _ (fun q hq => hl q (List.mem_cons_of_mem _ hq)) ?_
    split
    · rename_i q hq
      obtain ⟨u1, p1, p2, p3⟩ := hl r List.mem_cons_self
      obtain ⟨u2, q1, q2, q3⟩ := hy q (List.mem_of_find?_eq_some hq)
      have q4 : q.1 = r.1 := by have := List.find?_some hq; simpa using this
      rw [q4] at q1
      have e1 : u2 = u1 := Option.some.inj (q1.symm.trans p1)
      subst e1
      refine h.and ?_
      unfold i_in
      simp only
      omega
    · exact h
theorem a_diff_ok {x y : AV} {v w : Value} (hx : okA Γ sets vs x) (hy : okA Γ sets vs y) (hkx : ¬ x.2.1 = 2) (hky : ¬ y.2.1 = 2) (hv : vs[x.1]? = some v) (hw : vs[y.1]? = some w) : i_in (vz v - vz w) (a_diff x y) := by
  obtain ⟨v', g1, g2, g3⟩ := hx
  obtain ⟨w', k1, k2, k3⟩ := hy
  obtain rfl : v' = v := Option.some.inj (g1.symm.trans hv)
  obtain rfl : w' = w := Option.some.inj (k1.symm.trans hw)
  have n1 := g2.num hkx
  have n2 := k2.num hky
  unfold a_diff
  simp only
  refine a_com_ok hw k3 _ _ g3 ?_
  have b0 : i_in (vz v' - vz w') (x.2.2.1 - y.2.2.2.1, x.2.2.2.1 - y.2.2.1) := by unfold i_in; simp only; omega
  generalize (x.2.2.1 - y.2.2.2.1, x.2.2.2.1 - y.2.2.1) = B0 at b0 ⊢
  have b1 : i_in (vz v' - vz w') (if x.1 = y.1 then i_and B0 (0, 0) else B0) := by
    split
    · rename_i he
      rw [he] at g1
      have : v' = w' := Option.some.inj (g1.symm.trans k1)
      subst this
      exact b0.and ⟨by simp, by simp⟩
    · exact b0
  generalize (if x.1 = y.1 then i_and B0 (0, 0) else B0) = B1 at b1 ⊢
  have b2 : i_in (vz v' - vz w') (match x.2.2.2.2.find? (fun q => q.1 == y.1) with | some q => i_and B1 (q.2.1, q.2.2) | none => B1) := by
    split
    · rename_i q hq
      obtain ⟨u, p1, p2, p3⟩ := g3 q (List.mem_of_find?_eq_some hq)
      have q4 : q.1 = y.1 := by have := List.find?_some hq; simpa using this
      rw [q4] at p1
      obtain rfl : u = w' := Option.some.inj (p1.symm.trans k1)
      exact b1.and ⟨p2, p3⟩
    · exact b1
  generalize (match x.2.2.2.2.find? (fun q => q.1 == y.1) with | some q => i_and B1 (q.2.1, q.2.2) | none => B1) = B2 at b2 ⊢
  split
  · rename_i q hq
    obtain ⟨u, p1, p2, p3⟩ := k3 q (List.mem_of_find?_eq_some hq)
    have q4 : q.1 = x.1 := by have := List.find?_some hq; simpa using this
    rw [q4] at p1
    obtain rfl : u = v' := Option.some.inj (p1.symm.trans g1)
    exact b2.and ⟨by simp only; omega, by simp only; omega⟩
  · exact b2
end SxA
end
section
/-! SYMBOLIC RUNS, II: states and what they mean -/
def s_avF (f : SF) : List AV := f.2.2.1.map (fun q => q.2) ++ f.2.2.2
def s_av (S : SS) : List AV := s_avF S.1 ++ (S.2.1.flatMap s_avF ++ (S.2.2.1.map (fun q => q.2.2.2) ++ S.2.2.2.1.flatMap (fun q => [q.2.2.1, q.2.2.2])))
def s_mapF (g : AV → AV) (f : SF) : SF := (f.1, f.2.1, f.2.2.1.map (fun q => (q.1, g q.2)), f.2.2.2.map g)
def s_map (g : AV → AV) (S : SS) : SS := (s_mapF g S.1, S.2.1.map (s_mapF g), S.2.2.1.map (fun q => (q.1, q.2.1, q.2.2.1, g q.2.2.2)), S.2.2.2.1.map (fun q => (q.1, q.2.1, g q.2.2.1, g q.2.2.2)), S.2.2.2.2.1, S.2.2.2.2.2)
def cont (c : MC) : List Value := match c with
  | .inl o => o.2
  | .inr (.inl q) => q.2.map Value.int
  | .inr (.inr q) => q.2.map va_rf
def clen (c : MC) : Nat := (cont c).length
def okF (vs : List Value) (sf : SF) (cf : CF) : Prop := sf.1 = cf.1 ∧ sf.2.1 = cf.2.1 ∧ (∀ q ∈ sf.2.2.1, ∃ v, vs[q.2.1]? = some v ∧ m_get cf.2.2.1 q.1 = some v) ∧ cf.2.2.2.map some = sf.2.2.2.map (fun a => vs[a.1]?)
def okFs (vs : List Value) : List SF → List CF → Prop
  | [], [] => True
  | a :: s, b :: t => okF vs a b ∧ okFs vs s t
  | _, _ => False
def okFa (Γ : Nat → Option Nat) (ro : Nat → Option MC) (F : MH) (vs : List Value) (q : FA) : Prop :=
  ∃ a c v, vs[q.1]? = some (.ref a) ∧ Γ a = some q.2.1 ∧ m_cell ro F a = some c ∧ vs[q.2.2.2.1]? = some v ∧ (if q.2.2.1 = 5000 then v = .int (Int32.ofNat (clen c)) else (cont c)[q.2.2.1]? = some v)
def okEa (Γ : Nat → Option Nat) (ro : Nat → Option MC) (F : MH) (vs : List Value) (q : EA) : Prop :=
  ∃ a c x v, vs[q.1]? = some (.ref a) ∧ Γ a = some q.2.1 ∧ m_cell ro F a = some c ∧ vs[q.2.2.1.1]? = some (.int x) ∧ 0 ≤ x.toInt ∧ vs[q.2.2.2.1]? = some v ∧ (cont c)[x.toInt.toNat]? = some v
def okSu (vs : List Value) (q : Nat × Nat × Nat) : Prop := ∃ u v w, vs[q.1]? = some u ∧ vs[q.2.1]? = some v ∧ vs[q.2.2]? = some w ∧ vz u + vz v = vz w
def okS (Γ : Nat → Option Nat) (sets : List (List Int)) (ro : Nat → Option MC) (vs : List Value) (S : SS) (f : CF) (fs : List CF) (F : MH) : Prop :=
  (∀ a ∈ s_av S, okA Γ sets vs a) ∧ okF vs S.1 f ∧ okFs vs S.2.1 fs ∧ (∀ q ∈ S.2.2.1, okFa Γ ro F vs q) ∧ (∀ q ∈ S.2.2.2.1, okEa Γ ro F vs q) ∧ (∀ q ∈ S.2.2.2.2.1, okSu vs q) ∧ S.2.2.2.2.2 = vs.length
section SxB
variable {Γ : Nat → Option Nat} {sets : List (List Int)} {vs : List Value} {ro : Nat → Option MC}
theorem s_av_map (g : AV → AV) (S : SS) : s_av (s_map g S) = (s_av S).map g := by
  have h1 : ∀ f : SF, s_avF (s_mapF g f) = (s_avF f).map g := by
    intro f
    simp only [s_avF, s_mapF, List.map_append, List.map_map]
    rfl
  simp only [s_av, s_map, List.map_append, h1, List.flatMap_map, List.map_flatMap, List.map_map]
  rfl
theorem okF.app {sf : SF} {cf : CF} (h : okF vs sf cf) (hb : ∀ a ∈ sf.2.2.2, ∃ v, vs[a.1]? = some v) (t : List Value) : okF (vs ++ t) sf cf := by
  obtain ⟨h1, h2, h3, h4⟩ := h
  refine ⟨h1, h2, fun q hq => ?_, ?_⟩
  · obtain ⟨v, g1, g2⟩ := h3 q hq
    exact ⟨v, get_app g1, g2⟩
  · rw [h4]
    apply List.map_congr_left
    intro a ha
    obtain ⟨v, hv⟩ := hb a ha
    rw [hv, get_app hv]
theorem okF.map {sf : SF} {cf : CF} (h : okF vs sf cf) (g : AV → AV) (hg : ∀ a, (g a).1 = a.1) : okF vs (s_mapF g sf) cf := by
  obtain ⟨h1, h2, h3, h4⟩ := h
  refine ⟨h1, h2, fun q hq => ?_, ?_⟩
  · obtain ⟨q0, hq0, rfl⟩ := List.mem_map.mp hq
    obtain ⟨v, g1, g2⟩ := h3 q0 hq0
    exact ⟨v, by simp only [hg]; exact g1, g2⟩
  · rw [h4]
    simp only [s_mapF, List.map_map]
    apply List.map_congr_left
    intro a _
    simp only [Function.comp, hg]
theorem okFs.map (g : AV → AV) (hg : ∀ a, (g a).1 = a.1) : ∀ {s : List SF} {t : List CF}, okFs vs s t → okFs vs (s.map (s_mapF g)) t
  | [], [], _ => trivial
  | a :: s, b :: t, h => ⟨h.1.map g hg, okFs.map g hg h.2⟩
  | [], b :: t, h => h.elim
  | a :: s, [], h => h.elim
theorem okFs.app (x : List Value) : ∀ {s : List SF} {t : List CF}, okFs vs s t → (∀ f ∈ s, ∀ a ∈ f.2.2.2, ∃ v, vs[a.1]? = some v) → okFs (vs ++ x) s t
  | [], [], _, _ => trivial
  | a :: s, b :: t, h, hb => ⟨h.1.app (hb a List.mem_cons_self) x, okFs.app x h.2 (fun f hf => hb f (List.mem_cons_of_mem _ hf))⟩
  | [], b :: t, h, _ => h.elim
  | a :: s, [], h, _ => h.elim
/-- values told more narrowly -/
theorem okS.map {S : SS} {f : CF} {fs : List CF} {F : MH} (h : okS Γ sets ro vs S f fs F) (g : AV → AV) (hg : ∀ a, (g a).1 = a.1) (ho : ∀ a ∈ s_av S, okA Γ sets vs (g a)) : okS Γ sets ro vs (s_map g S) f fs F := by
  obtain ⟨h1, h2, h3, h4, h5, h6, h7⟩ := h
  refine ⟨?_, h2.map g hg, h3.map g hg, ?_, ?_, h6, h7⟩
  · intro a ha
    rw [s_av_map] at ha
    obtain ⟨b, hb, rfl⟩ := List.mem_map.mp ha
    exact ho b hb
  · intro q hq
    obtain ⟨q0, hq0, rfl⟩ := List.mem_map.mp hq
    obtain ⟨a, c, v, g1, g2, g3, g4, g5⟩ := h4 q0 hq0
    exact ⟨a, c, v, g1, g2, g3, by simp only [hg]; exact g4, g5⟩
  · intro q hq
    obtain ⟨q0, hq0, rfl⟩ := List.mem_map.mp hq
    obtain ⟨a, c, x, v, g1, g2, g3, g4, g5, g6, g7⟩ := h5 q0 hq0
    exact ⟨a, c, x, v, g1, g2, g3, by simp only [hg]; exact g4, g5, by simp only [hg]; exact g6, g7⟩
theorem okS.cl {S : SS} {f : CF} {fs : List CF} {F : MH} (h : okS Γ sets ro vs S f fs F) {id : Nat} {lo hi : Int} {w : Value} (hw : vs[id]? = some w) (h1 : lo ≤ vz w) (h2 : vz w ≤ hi) : okS Γ sets ro vs (s_map (a_cl id lo hi) S) f fs F :=
  h.map _ (a_cl_id id lo hi) (fun a ha => a_cl_ok (h.1 a ha) hw h1 h2)
/-- the next number is given -/
def s_up (S : SS) : SS := (S.1, S.2.1, S.2.2.1, S.2.2.2.1, S.2.2.2.2.1, S.2.2.2.2.2 + 1)
theorem mem_top {S : SS} {a : AV} (h : a ∈ S.1.2.2.2) : a ∈ s_av S := List.mem_append_left _ (List.mem_append_right _ h)
theorem mem_loc {S : SS} {q : Nat × AV} (h : q ∈ S.1.2.2.1) : q.2 ∈ s_av S := List.mem_append_left _ (List.mem_append_left _ (List.mem_map.mpr ⟨q, h, rfl⟩))
theorem mem_rest {S : SS} {f : SF} {a : AV} (h : f ∈ S.2.1) (ha : a ∈ f.2.2.2) : a ∈ s_av S := List.mem_append_right _ (List.mem_append_left _ (List.mem_flatMap.mpr ⟨f, h, List.mem_append_right _ ha⟩))
theorem mem_fact {S : SS} {q : FA} (h : q ∈ S.2.2.1) : q.2.2.2 ∈ s_av S := List.mem_append_right _ (List.mem_append_right _ (List.mem_append_left _ (List.mem_map.mpr ⟨q, h, rfl⟩)))
theorem mem_ef1 {S : SS} {q : EA} (h : q ∈ S.2.2.2.1) : q.2.2.1 ∈ s_av S := List.mem_append_right _ (List.mem_append_right _ (List.mem_append_right _ (List.mem_flatMap.mpr ⟨q, h, List.mem_cons_self⟩)))
theorem mem_ef2 {S : SS} {q : EA} (h : q ∈ S.2.2.2.1) : q.2.2.2 ∈ s_av S := List.mem_append_right _ (List.mem_append_right _ (List.mem_append_right _ (List.mem_flatMap.mpr ⟨q, h, List.mem_cons_of_mem _ List.mem_cons_self⟩)))
theorem okA.get {a : AV} (h : okA Γ sets vs a) : ∃ v, vs[a.1]? = some v := h.imp fun v q => q.1
theorem okS.up {S : SS} {f : CF} {fs : List CF} {F : MH} (h : okS Γ sets ro vs S f fs F) (v : Value) : okS Γ sets ro (vs ++ [v]) (s_up S) f fs F := by
  obtain ⟨h1, h2, h3, h4, h5, h6, h7⟩ := h
  refine ⟨fun a ha => (h1 a ha).app _, h2.app (fun a ha => (h1 a (mem_top ha)).get) _, h3.app _ (fun f hf a ha => (h1 a (mem_rest hf ha)).get), ?_, ?_, ?_, ?_⟩
  · intro q hq
    obtain ⟨a, c, v, g1, g2, g3, g4, g5⟩ := h4 q hq
    exact ⟨a, c, v, get_app g1, g2, g3, get_app g4, g5⟩
  · intro q hq
    obtain ⟨a, c, x, v, g1, g2, g3, g4, g5, g6, g7⟩ := h5 q hq
    exact ⟨a, c, x, v, get_app g1, g2, g3, get_app g4, g5, get_app g6, g7⟩
  · intro q hq
    obtain ⟨u, v, w, g1, g2, g3, g4⟩ := h6 q hq
    exact ⟨u, v, w, get_app g1, get_app g2, get_app g3, g4⟩
  · show S.2.2.2.2.2 + 1 = _
    rw [h7, List.length_append]; rfl
/-- the running frame goes on: another pc, locals, stack -/
def s_top (S : SS) (pc : Nat) (lc : List (Nat × AV)) (st : List AV) : SS := ((S.1.1, pc, lc, st), S.2)
theorem okS.top {S : SS} {f : CF} {fs : List CF} {F : MH} (h : okS Γ sets ro vs S f fs F) {pc : Nat} {lc : List (Nat × AV)} {st : List AV} {lv : LVs} {cst : List Value} (ha : ∀ q ∈ lc, okA Γ sets vs q.2 ∧ ∃ v, vs[q.2.1]? = some v ∧ m_get lv q.1 = some v) (hb : ∀ a ∈ st, okA Γ sets vs a) (hc : cst.map some = st.map (fun a => vs[a.1]?)) : okS Γ sets ro vs (s_top S pc lc st) (f.1, pc, lv, cst) fs F := by
  obtain ⟨h1, h2, h3, h4, h5, h6, h7⟩ := h
  refine ⟨fun a hm => ?_, ⟨h2.1, rfl, fun q hq => (ha q hq).2, hc⟩, h3, h4, h5, h6, h7⟩
  rcases List.mem_append.mp hm with hm | hm
  · rcases List.mem_append.mp hm with hm | hm
    · obtain ⟨q, hq, rfl⟩ := List.mem_map.mp hm
      exact (ha q hq).1
    · exact hb a hm
  · exact h1 a (List.mem_append_right _ hm)
end SxB
end
section
/-! SYMBOLIC RUNS, III: pushes, locals, the stack -/
/-- constants that an instruction pushes -/
def c_val (E : MI) : Option Value := match m_push E [] with
  | some v => some v
  | none => m_cst E
/-- a constant as a symbolic value -/
def c_av (Γ : Nat → Option Nat) (n : Nat) (v : Value) : Option AV := match v with
  | .int x => some (n, 0, x.toInt, x.toInt, [])
  | .long x => some (n, 1, x.toInt, x.toInt, [])
  | .ref a => (Γ a).map fun r => (n, 2, (r : Int), 0, [])
  | _ => none
def l_ix (i : Instr) : Option (Nat × Nat) := match i with
  | .iload i => some (i, 0)
  | .iload_n i => some (i, 0)
  | .lload i => some (i, 1)
  | .lload_n i => some (i, 1)
  | .aload i => some (i, 2)
  | .aload_n i => some (i, 2)
  | _ => none
/-- is a value of a kind an int (0), a long (1), a reference (2)? -/
def k_is (k c : Nat) : Bool := if c = 0 then k == 0 || decide (10 ≤ k) else k == c && decide (c ≤ 2)
def x_get (lc : List (Nat × AV)) (i : Nat) : Option AV := (lc.find? (fun q => q.1 == i)).map (fun q => q.2)
def x_put1 (lc : List (Nat × AV)) (i : Nat) (a : AV) : List (Nat × AV) := (i, a) :: lc.filter (fun q => !(q.1 == i) && !(q.1 + 1 == i && q.2.2.1 == 1))
def x_put2 (lc : List (Nat × AV)) (i : Nat) (a : AV) : List (Nat × AV) := (i, a) :: lc.filter (fun q => !(q.1 == i) && (!(q.1 == i + 1) && !(q.1 + 1 == i && q.2.2.1 == 1)))
section SxC
variable {Γ : Nat → Option Nat} {sets : List (List Int)} {vs : List Value} {ro : Nat → Option MC}
theorem c_val_spec {E : MI} {v : Value} (h : c_val E = some v) (fty : Nat → Nat → FieldType) (dfl : Nat → List Value) (F : MH) (lv : LVs) (st : List Value) : m_one ro fty dfl E F lv st = some (F, E.1 + E.2.2.1, lv, v :: st) := by
  unfold c_val at h
  split at h
  · rename_i w hw
    cases h
    have e1 : m_push E lv = some v := by
      revert hw
      unfold m_push
      split <;> intro hw <;> first | exact hw | (simp [m_get] at hw)
    unfold m_one
    rw [e1]
  · rename_i hw
    have e1 : m_push E lv = none := by
      revert h
      unfold m_cst m_push
      split <;> first | (intro h; cases h; done) | (intro h; rfl) | skip
      all_goals (rename_i he; rw [he]; intro h; first | rfl | (simp at h))
    unfold m_one
    rw [e1]
    simp only
    rw [h]
theorem c_av_ok {n : Nat} {v : Value} {a : AV} (h : c_av Γ n v = some a) (hn : n = vs.length) : okA Γ sets (vs ++ [v]) a ∧ a.1 = n := by
  have hg : (vs ++ [v])[n]? = some v := by rw [hn]; simp
  unfold c_av at h
  split at h
  · cases h
    exact ⟨⟨_, hg, by unfold okE; simp only [if_true]; exact ⟨⟨_, rfl⟩, Int.le_refl _, Int.le_refl _⟩, fun r hr => by cases hr⟩, rfl⟩
  · cases h
    exact ⟨⟨_, hg, by unfold okE; simp; exact ⟨⟨_, rfl⟩, Int.le_refl _, Int.le_refl _⟩, fun r hr => by cases hr⟩, rfl⟩
  · rename_i x
    cases hr : Γ x with
    | none => rw [hr] at h; cases h
    | some r =>
      rw [hr] at h
      cases h
      exact ⟨⟨_, hg, by unfold okE; simp; exact hr, fun r hr => by cases hr⟩, rfl⟩
  · cases h
theorem k_is_int {k : Nat} {lo hi : Int} {v : Value} (h : okE Γ sets k lo hi v) (hk : k_is k 0 = true) : isI v ∧ ¬ k = 2 := by
  simp only [k_is, if_true, Bool.or_eq_true, beq_iff_eq, decide_eq_true_eq] at hk
  unfold okE at h
  rcases hk with hk | hk
  · rw [if_pos hk] at h; exact ⟨h.1, by omega⟩
  · rw [if_neg (by omega), if_neg (by omega), if_neg (by omega), if_pos hk] at h; exact ⟨h.1, by omega⟩
theorem k_is_long {k : Nat} {lo hi : Int} {v : Value} (h : okE Γ sets k lo hi v) (hk : k_is k 1 = true) : isJ v ∧ k = 1 := by
  have hk : k = 1 := by simpa [k_is] using hk
  subst hk
  unfold okE at h
  simp at h
  exact ⟨h.1, rfl⟩
theorem k_is_ref {k : Nat} {lo hi : Int} {v : Value} (h : okE Γ sets k lo hi v) (hk : k_is k 2 = true) : (∃ a, v = .ref a ∧ Γ a = some lo.toNat) ∧ k = 2 := by
  have hk : k = 2 := by simpa [k_is] using hk
  subst hk
  unfold okE at h
  simp at h
  exact ⟨h, rfl⟩
theorem okE_cat {k : Nat} {lo hi : Int} {v : Value} (h : okE Γ sets k lo hi v) : (v.category = 2 ↔ k = 1) := by
  unfold okE at h
  by_cases h0 : k = 0
  · rw [if_pos h0] at h
    obtain ⟨⟨x, rfl⟩, -⟩ := h
    simp only [Value.category]; omega
  rw [if_neg h0] at h
  by_cases h1 : k = 1
  · rw [if_pos h1] at h
    obtain ⟨⟨x, rfl⟩, -⟩ := h
    exact ⟨fun _ => h1, fun _ => rfl⟩
  rw [if_neg h1] at h
  by_cases h2 : k = 2
  · rw [if_pos h2] at h
    obtain ⟨a, rfl, -⟩ := h
    simp only [Value.category]; omega
  rw [if_neg h2] at h
  by_cases h10 : 10 ≤ k
  · rw [if_pos h10] at h
    obtain ⟨⟨x, rfl⟩, -⟩ := h
    simp only [Value.category]; omega
  · rw [if_neg h10] at h; exact h.elim
theorem x_get_mem {lc : List (Nat × AV)} {i : Nat} {a : AV} (h : x_get lc i = some a) : (i, a) ∈ lc := by
  unfold x_get at h
  cases hf : lc.find? (fun q => q.1 == i) with
  | none => rw [hf] at h; cases h
  | some q =>
    rw [hf] at h
    have h1 := List.mem_of_find?_eq_some hf
    have h2 : q.1 = i := by have := List.find?_some hf; simpa using this
    have h3 : q.2 = a := Option.some.inj h
    rw [← h3, ← h2]; exact h1
theorem load_spec {E : MI} {i c : Nat} {lv : LVs} {v : Value} (h : l_ix E.2.1 = some (i, c)) (hv : m_get lv i = some v) (hc : (c = 0 → isI v) ∧ (c = 1 → isJ v) ∧ (c = 2 → ∃ a, v = .ref a)) (fty : Nat → Nat → FieldType) (dfl : Nat → List Value) (F : MH) (st : List Value) : m_one ro fty dfl E F lv st = some (F, E.1 + E.2.2.1, lv, v :: st) := by
  have e1 : m_push E lv = some v := by
    obtain ⟨pc, ins, len, a0, b0, z0⟩ := E
    simp only at h
    cases ins <;> simp only [l_ix, Option.some.injEq, Prod.mk.injEq, reduceCtorEq] at h <;> obtain ⟨h1, h2⟩ := h <;> subst h1 <;> simp only [m_push, hv]
    all_goals first
      | (obtain ⟨x, rfl⟩ := hc.1 h2.symm; rfl)
      | (obtain ⟨x, rfl⟩ := hc.2.1 h2.symm; rfl)
      | (obtain ⟨x, rfl⟩ := hc.2.2 h2.symm; rfl)
  unfold m_one
  rw [e1]
theorem m_get_put1 {lv : LVs} {i j : Nat} {v w : Value} (h : m_get lv j = some w) (hne : ¬ j = i) (hc : ¬ (j + 1 = i ∧ w.category = 2)) : m_get (m_put1 lv i v) j = some w := by
  unfold m_get m_put1 at *
  cases hf : lv.find? (fun q => q.1 == j) with
  | none => rw [hf] at h; cases h
  | some q =>
    rw [hf] at h
    have e1 : q.2 = w := Option.some.inj h
    have e2 : q.1 = j := by have := List.find?_some hf; simpa using this
    have key : (lv.filter (fun q => !(q.1 == i) && !(q.1 + 1 == i && q.2.category == 2))).find? (fun q => q.1 == j) = some q := by
      rw [List.find?_filter]
      rw [List.find?_eq_some_iff_append] at hf ⊢
      obtain ⟨h1, as, bs, h2, h3⟩ := hf
      refine ⟨?_, as, bs, h2, fun x hx => ?_⟩
      · rw [e2, e1]
        simp only [Bool.and_eq_true, Bool.not_eq_true', beq_eq_false_iff_ne, ne_eq, decide_eq_true_eq, beq_iff_eq, Bool.and_eq_false_iff]
        refine ⟨⟨hne, ?_⟩, trivial⟩
        by_cases q1 : j + 1 = i
        · exact Or.inr (fun z => hc ⟨q1, z⟩)
        · exact Or.inl q1
      · have := h3 x hx
        simp only [Bool.not_eq_true', beq_eq_false_iff_ne, ne_eq] at this
        simp only [this, beq_iff_eq, and_false, decide_false, Bool.not_false]
    rw [List.find?_cons]
    have hij : (i == j) = false := by simp only [beq_eq_false_iff_ne, ne_eq]; exact fun z => hne z.symm
    simp only [hij]
    rw [key]
    exact congrArg some e1
theorem m_get_same1 {lv : LVs} {i : Nat} {v : Value} : m_get (m_put1 lv i v) i = some v := by
  unfold m_get m_put1
  rw [List.find?_cons]
  simp
end SxC
end
section
/-! SYMBOLIC RUNS, IV: arithmetic of bounds -/
section SxD
variable {Γ : Nat → Option Nat} {sets : List (List Int)} {vs : List Value} {ro : Nat → Option MC}
theorem z_rng (x : Int32) : -2147483648 ≤ x.toInt ∧ x.toInt ≤ 2147483647 := by
  have h1 := x.toInt_lt
  have h2 := x.le_toInt
  omega
theorem z_rngL (x : Int64) : -9223372036854775808 ≤ x.toInt ∧ x.toInt ≤ 9223372036854775807 := by
  have h1 := x.toInt_lt
  have h2 := x.le_toInt
  omega
theorem z_bm {z : Int} (h1 : -2147483648 ≤ z) (h2 : z ≤ 2147483647) : z.bmod (2 ^ 32) = z := by
  unfold Int.bmod
  simp only
  split <;> omega
theorem z_add {x y : Int32} (h1 : -2147483648 ≤ x.toInt + y.toInt) (h2 : x.toInt + y.toInt ≤ 2147483647) : (x + y).toInt = x.toInt + y.toInt := by
  rw [Int32.toInt_add]; exact z_bm h1 h2
theorem z_sub {x y : Int32} (h1 : -2147483648 ≤ x.toInt - y.toInt) (h2 : x.toInt - y.toInt ≤ 2147483647) : (x - y).toInt = x.toInt - y.toInt := by
  rw [Int32.toInt_sub]; exact z_bm h1 h2
theorem z_mul {x y : Int32} (h1 : -2147483648 ≤ x.toInt * y.toInt) (h2 : x.toInt * y.toInt ≤ 2147483647) : (x * y).toInt = x.toInt * y.toInt := by
  rw [Int32.toInt_mul]; exact z_bm h1 h2
theorem z_of (x : Int32) {c : Int} (h : x.toInt = c) : x = Int32.ofInt c := by rw [← h]; exact (Int32.ofInt_toInt x).symm
theorem z_ofL (x : Int64) {c : Int} (h : x.toInt = c) : x = Int64.ofInt c := by rw [← h]; exact (Int64.ofInt_toInt x).symm
theorem z_nI {x : Int32} (h : 0 ≤ x.toInt) : ∃ j : Nat, j < 2 ^ 31 ∧ x = nI j ∧ (j : Int) = x.toInt := by
  have h0 : ¬ x < 0 := by rw [Int32.lt_iff_toInt_lt, Int32.toInt_zero]; omega
  obtain ⟨j, hj, e⟩ := nI_of h0
  exact ⟨j, hj, e, by rw [e, nI_toInt hj]⟩
theorem z_div {x y : Int32} (hx : 0 ≤ x.toInt) (hy : 1 ≤ y.toInt) : (x / y).toInt = x.toInt / y.toInt := by
  obtain ⟨j, h1, h2, h3⟩ := z_nI hx
  obtain ⟨k, g1, g2, g3⟩ := z_nI (x := y) (by omega)
  have hk : 0 < k := by omega
  rw [h2, g2, pk_div h1 hk g1, nI_toInt (Nat.lt_of_le_of_lt (Nat.div_le_self _ _) h1), nI_toInt h1, nI_toInt g1]
  exact Int.natCast_ediv j k
theorem z_rem {x y : Int32} (hx : 0 ≤ x.toInt) (hy : 1 ≤ y.toInt) : (x - x / y * y).toInt = x.toInt % y.toInt := by
  obtain ⟨j, h1, h2, h3⟩ := z_nI hx
  obtain ⟨k, g1, g2, g3⟩ := z_nI (x := y) (by omega)
  have hk : 0 < k := by omega
  rw [h2, g2, pk_rem h1 hk g1, nI_toInt (Nat.lt_of_le_of_lt (Nat.mod_le _ _) h1), nI_toInt h1, nI_toInt g1]
  exact Int.natCast_emod j k
theorem z_and {x y : Int32} (hy : 0 ≤ y.toInt) : 0 ≤ (x &&& y).toInt ∧ (x &&& y).toInt ≤ y.toInt := by
  have hr := z_rng y
  have e1 : (y.toBitVec.toNat : Int) = y.toInt := by
    have := BitVec.toInt_eq_toNat_cond y.toBitVec
    have h2 : y.toInt = y.toBitVec.toInt := rfl
    rw [h2] at hy ⊢
    have h3 := y.toBitVec.isLt
    split at this <;> omega
  have e2 : (x &&& y).toBitVec.toNat ≤ y.toBitVec.toNat := by
    show (x.toBitVec &&& y.toBitVec).toNat ≤ _
    rw [BitVec.toNat_and]
    exact Nat.and_le_right
  have e3 : (x &&& y).toInt = ((x &&& y).toBitVec.toNat : Int) := by
    show (x &&& y).toBitVec.toInt = _
    rw [BitVec.toInt_eq_toNat_cond]
    have h3 := y.toBitVec.isLt
    split
    · rfl
    · omega
  omega
theorem z_andc {x y : Int32} (hx : 0 ≤ x.toInt) : 0 ≤ (x &&& y).toInt ∧ (x &&& y).toInt ≤ x.toInt := by
  rw [Int32.and_comm]; exact z_and hx
/-- bounds, if they are an int's; else an int's -/
def r_i (l h : Int) : Int × Int := if -2147483648 ≤ l ∧ h ≤ 2147483647 then (l, h) else (-2147483648, 2147483647)
theorem r_i_ok {l h : Int} {x : Int32} (hx : (-2147483648 ≤ l ∧ h ≤ 2147483647) → l ≤ x.toInt ∧ x.toInt ≤ h) : (r_i l h).1 ≤ x.toInt ∧ x.toInt ≤ (r_i l h).2 := by
  unfold r_i
  split
  · rename_i q; exact hx q
  · exact z_rng x
def isC (a : AV) : Bool := a.2.1 == 0 && a.2.2.1 == a.2.2.2.1
theorem isC_spec {a : AV} {v : Value} (h : isC a = true) (ho : okE Γ sets a.2.1 a.2.2.1 a.2.2.2.1 v) : v = .int (Int32.ofInt a.2.2.1) := by
  simp only [isC, Bool.and_eq_true, beq_iff_eq] at h
  unfold okE at ho
  rw [if_pos h.1] at ho
  obtain ⟨⟨x, rfl⟩, h1, h2⟩ := ho
  have h3 : x.toInt = a.2.2.1 := by simp only [vz] at h1 h2; omega
  rw [← z_of x h3]
def sh (c : Int) (r : List (Nat × Int × Int)) : List (Nat × Int × Int) := r.map fun q => (q.1, q.2.1 + c, q.2.2 + c)
/-- bounds of what two ints come to, and how it differs from them -/
def b_iv (i : Instr) (x y : AV) : (Int × Int) × List (Nat × Int × Int) := match i with
  | .iadd => if -2147483648 ≤ x.2.2.1 + y.2.2.1 ∧ x.2.2.2.1 + y.2.2.2.1 ≤ 2147483647 then ((x.2.2.1 + y.2.2.1, x.2.2.2.1 + y.2.2.2.1), if y.2.2.1 = y.2.2.2.1 then (x.1, y.2.2.1, y.2.2.1) :: (sh y.2.2.1 x.2.2.2.2).take 4 else if x.2.2.1 = x.2.2.2.1 then (y.1, x.2.2.1, x.2.2.1) :: (sh x.2.2.1 y.2.2.2.2).take 4 else [(x.1, y.2.2.1, y.2.2.2.1)]) else ((-2147483648, 2147483647), [])
  | .isub => if -2147483648 ≤ x.2.2.1 - y.2.2.2.1 ∧ x.2.2.2.1 - y.2.2.1 ≤ 2147483647 then (a_diff x y, if y.2.2.1 = y.2.2.2.1 then (x.1, -y.2.2.1, -y.2.2.1) :: (sh (-y.2.2.1) x.2.2.2.2).take 4 else [(x.1, -y.2.2.2.1, -y.2.2.1)]) else ((-2147483648, 2147483647), [])
  | .imul => if 0 ≤ x.2.2.1 ∧ 0 ≤ y.2.2.1 then (r_i (x.2.2.1 * y.2.2.1) (x.2.2.2.1 * y.2.2.2.1), []) else ((-2147483648, 2147483647), [])
  | .iand => if 0 ≤ y.2.2.1 then ((0, y.2.2.2.1), []) else if 0 ≤ x.2.2.1 then ((0, x.2.2.2.1), []) else ((-2147483648, 2147483647), [])
  | .idiv => if 0 ≤ x.2.2.1 ∧ 1 ≤ y.2.2.1 then (if y.2.2.1 = y.2.2.2.1 then ((x.2.2.1 / y.2.2.1, x.2.2.2.1 / y.2.2.1), []) else ((0, x.2.2.2.1), [])) else ((-2147483648, 2147483647), [])
  | .irem => if 0 ≤ x.2.2.1 ∧ 1 ≤ y.2.2.1 then (if x.2.2.2.1 < y.2.2.1 then ((x.2.2.1, x.2.2.2.1), [(x.1, 0, 0)]) else if x.2.2.1 = x.2.2.2.1 ∧ y.2.2.1 = y.2.2.2.1 then ((x.2.2.1 % y.2.2.1, x.2.2.1 % y.2.2.1), []) else ((0, min x.2.2.2.1 (y.2.2.2.1 - 1)), [])) else ((-2147483648, 2147483647), [])
  | _ => ((-2147483648, 2147483647), [])
end SxD
end
section
/-! SYMBOLIC RUNS, V: arithmetic of bounds is right -/
section SxE
variable {Γ : Nat → Option Nat} {sets : List (List Int)} {vs : List Value} {ro : Nat → Option MC}
theorem full_ok (x : Int32) : (-2147483648 : Int) ≤ x.toInt ∧ x.toInt ≤ 2147483647 ∧ ∀ r ∈ ([] : List (Nat × Int × Int)), ∃ w, vs[r.1]? = some w ∧ r.2.1 ≤ x.toInt - vz w ∧ x.toInt - vz w ≤ r.2.2 :=
  ⟨(z_rng x).1, (z_rng x).2, fun r hr => by cases hr⟩
theorem sh_ok {x : AV} {a : Int32} {c : Int} {r : Int32} (hx : ∀ q ∈ x.2.2.2.2, ∃ w, vs[q.1]? = some w ∧ q.2.1 ≤ a.toInt - vz w ∧ a.toInt - vz w ≤ q.2.2) (hr : r.toInt = a.toInt + c) : ∀ q ∈ (sh c x.2.2.2.2).take 4, ∃ w, vs[q.1]? = some w ∧ q.2.1 ≤ r.toInt - vz w ∧ r.toInt - vz w ≤ q.2.2 := by
  intro q hq
  obtain ⟨q0, h0, rfl⟩ := List.mem_map.mp (List.mem_of_mem_take hq)
  obtain ⟨w, g1, g2, g3⟩ := hx q0 h0
  exact ⟨w, g1, by simp only; omega, by simp only; omega⟩
theorem b_iv_ok {i : Instr} {f : Int32 → Int32 → Int32} {x y : AV} {a b : Int32} (hf : m_b32 i = some f ∨ m_d32 i = some f) (hx : okA Γ sets vs x) (hy : okA Γ sets vs y) (kx : k_is x.2.1 0 = true) (ky : k_is y.2.1 0 = true) (hv : vs[x.1]? = some (.int a)) (hw : vs[y.1]? = some (.int b)) :
    (b_iv i x y).1.1 ≤ (f a b).toInt ∧ (f a b).toInt ≤ (b_iv i x y).1.2 ∧ ∀ r ∈ (b_iv i x y).2, ∃ w, vs[r.1]? = some w ∧ r.2.1 ≤ (f a b).toInt - vz w ∧ (f a b).toInt - vz w ≤ r.2.2 := by
  have hx0 := hx
  have hy0 := hy
  obtain ⟨v, g1, g2, g3⟩ := hx
  obtain ⟨w, k1, k2, k3⟩ := hy
  obtain rfl : v = .int a := Option.some.inj (g1.symm.trans hv)
  obtain rfl : w = .int b := Option.some.inj (k1.symm.trans hw)
  have nx := (k_is_int g2 kx).2
  have ny := (k_is_int k2 ky).2
  have n1 := g2.num nx
  have n2 := k2.num ny
  simp only [vz] at n1 n2 g3 k3
  have hA := z_rng a
  have hB := z_rng b
  cases i <;> simp only [m_b32, m_d32, reduceCtorEq, or_false, false_or, Option.some.injEq] at hf <;> subst hf <;> simp only [b_iv]
  case iadd =>
    split
    · rename_i hq
      have e := z_add (x := a) (y := b) (by omega) (by omega)
      refine ⟨by simp only; omega, by simp only; omega, ?_⟩
      simp only
      split
      · rename_i hc
        intro r hr
        rcases List.mem_cons.mp hr with rfl | hr
        · exact ⟨_, g1, by simp only [vz]; omega, by simp only [vz]; omega⟩
        · exact sh_ok g3 (by omega) r hr
      · split
        · rename_i hc
          intro r hr
          rcases List.mem_cons.mp hr with rfl | hr
          · exact ⟨_, k1, by simp only [vz]; omega, by simp only [vz]; omega⟩
          · exact sh_ok k3 (by omega) r hr
        · intro r hr
          rcases List.mem_cons.mp hr with rfl | hr
          · exact ⟨_, g1, by simp only [vz]; omega, by simp only [vz]; omega⟩
          · cases hr
    · exact full_ok _
  case isub =>
    split
    · rename_i hq
      have e := z_sub (x := a) (y := b) (by omega) (by omega)
      have hd := a_diff_ok hx0 hy0 nx ny hv hw
      simp only [i_in, vz] at hd
      refine ⟨by simp only; omega, by simp only; omega, ?_⟩
      simp only
      split
      · rename_i hc
        intro r hr
        rcases List.mem_cons.mp hr with rfl | hr
        · exact ⟨_, g1, by simp only [vz]; omega, by simp only [vz]; omega⟩
        · exact sh_ok g3 (by omega) r hr
      · intro r hr
        rcases List.mem_cons.mp hr with rfl | hr
        · exact ⟨_, g1, by simp only [vz]; omega, by simp only [vz]; omega⟩
        · cases hr
    · exact full_ok _
  case imul =>
    split
    · rename_i hq
      have p1 : x.2.2.1 * y.2.2.1 ≤ a.toInt * b.toInt := Int.mul_le_mul n1.1 n2.1 hq.2 (by omega)
      have p2 : a.toInt * b.toInt ≤ x.2.2.2.1 * y.2.2.2.1 := Int.mul_le_mul n1.2 n2.2 (by omega) (by omega)
      have := r_i_ok (l := x.2.2.1 * y.2.2.1) (h := x.2.2.2.1 * y.2.2.2.1) (x := a * b) (fun q => by rw [z_mul (by omega) (by omega)]; exact ⟨p1, p2⟩)
      exact ⟨this.1, this.2, fun r hr => by cases hr⟩
    · exact full_ok _
  case iand =>
    split
    · rename_i hq
      have := z_and (x := a) (y := b) (by omega)
      exact ⟨by simp only; omega, by simp only; omega, fun r hr => by cases hr⟩
    · split
      · have := z_andc (x := a) (y := b) (by omega)
        exact ⟨by simp only; omega, by simp only; omega, fun r hr => by cases hr⟩
      · exact full_ok _
  case idiv =>
    split
    · rename_i hq
      have e := z_div (x := a) (y := b) (by omega) (by omega)
      split
      · rename_i hc
        have hb : b.toInt = y.2.2.1 := by omega
        rw [hb] at e
        have p1 := Int.ediv_le_ediv (c := y.2.2.1) (by omega) n1.1
        have p2 := Int.ediv_le_ediv (c := y.2.2.1) (by omega) n1.2
        exact ⟨by rw [e]; exact p1, by rw [e]; exact p2, fun r hr => by cases hr⟩
      · have p1 : 0 ≤ a.toInt / b.toInt := Int.ediv_nonneg (by omega) (by omega)
        have p2 : a.toInt / b.toInt ≤ a.toInt := Int.ediv_le_self _ (by omega)
        exact ⟨by rw [e]; exact p1, by rw [e]; simp only; omega, fun r hr => by cases hr⟩
    · exact full_ok _
  case irem =>
    split
    · rename_i hq
      have e := z_rem (x := a) (y := b) (by omega) (by omega)
      split
      · rename_i hc
        have p : a.toInt % b.toInt = a.toInt := Int.emod_eq_of_lt (by omega) (by omega)
        rw [p] at e
        refine ⟨by rw [e]; exact n1.1, by rw [e]; exact n1.2, fun r hr => ?_⟩
        rcases List.mem_cons.mp hr with rfl | hr
        · exact ⟨_, g1, by simp only [vz]; omega, by simp only [vz]; omega⟩
        · cases hr
      · split
        · rename_i hk
          have ea : x.2.2.1 = a.toInt := by omega
          have eb : y.2.2.1 = b.toInt := by omega
          exact ⟨by rw [e, ea, eb]; exact Int.le_refl _, by rw [e, ea, eb]; exact Int.le_refl _, fun r hr => by cases hr⟩
        have p1 := Int.emod_nonneg a.toInt (b := b.toInt) (by omega)
        have p2 := Int.emod_lt_of_pos a.toInt (b := b.toInt) (by omega)
        have p4 : 0 ≤ b.toInt * (a.toInt / b.toInt) := Int.mul_nonneg (by omega) (Int.ediv_nonneg (by omega) (by omega))
        have p3 : a.toInt % b.toInt ≤ a.toInt := by have := Int.emod_add_mul_ediv a.toInt b.toInt; omega
        exact ⟨by rw [e]; exact p1, by rw [e]; simp only; omega, fun r hr => by cases hr⟩
    · exact full_ok _
  all_goals exact full_ok _
end SxE
end
section
/-! SYMBOLIC RUNS, VI: one step of a symbolic state, first kinds -/
/-- roles: shape (0 object, 1 row of ints, 2 row of references, 3 a row of any length that nobody writes), class or kind, what each place holds -/
abbrev RD : Type := Nat × Nat × List (Nat × Int × Int)
def okL (Γ : Nat → Option Nat) (sets : List (List Int)) (es : List (Nat × Int × Int)) (l : List Value) : Prop := l.length = es.length ∧ ∀ (k : Nat) (e : Nat × Int × Int), es[k]? = some e → ∃ v, l[k]? = some v ∧ okE Γ sets e.1 e.2.1 e.2.2 v
def okCell (Γ : Nat → Option Nat) (sets : List (List Int)) (rd : RD) (c : MC) : Prop :=
  (rd.1 = 0 ∧ (∃ fs, c = .inl (rd.2.1, fs)) ∧ okL Γ sets rd.2.2 (cont c)) ∨ (rd.1 = 1 ∧ (∃ xs, c = .inr (.inl (rd.2.1, xs))) ∧ okL Γ sets rd.2.2 (cont c)) ∨ (rd.1 = 2 ∧ (∃ os, c = .inr (.inr (rd.2.1, os))) ∧ okL Γ sets rd.2.2 (cont c)) ∨
  (rd.1 = 3 ∧ (∃ xs, c = .inr (.inl (rd.2.1, xs)) ∧ xs.length ≤ 320) ∧ ∃ e, rd.2.2 = [e] ∧ ∀ v ∈ cont c, okE Γ sets e.1 e.2.1 e.2.2 v)
/-- every cell that has a role is as the role says -/
def WT (Γ : Nat → Option Nat) (sets : List (List Int)) (roles : List RD) (ro : Nat → Option MC) (F : MH) : Prop := ∀ a r rd, Γ a = some r → roles[r]? = some rd → ∃ c, m_cell ro F a = some c ∧ okCell Γ sets rd c
/-- places that may be changed: role, from, to -/
abbrev Mods : Type := List (Nat × Nat × Nat)
def inM (ms : Mods) (r k : Nat) : Bool := ms.any fun q => q.1 == r && decide (q.2.1 ≤ k) && decide (k ≤ q.2.2)
def FRm (Γ : Nat → Option Nat) (ro : Nat → Option MC) (ms : Mods) (F0 F : MH) : Prop := ∀ a r k c0 c, Γ a = some r → inM ms r k = false → m_cell ro F0 a = some c0 → m_cell ro F a = some c → (cont c)[k]? = (cont c0)[k]? ∧ clen c = clen c0
def Good (Γ : Nat → Option Nat) (sets : List (List Int)) (roles : List RD) (ms : Mods) (MT : List MM) (ro : Nat → Option MC) (fty : Nat → Nat → FieldType) (dfl : Nat → List Value) (vs0 : List Value) (F0 : MH) (Q : Option Value → MH → Prop) (d : Nat) (S : SS) : Prop :=
  ∀ vs f fs F, (∃ t, vs = vs0 ++ t) → okS Γ sets ro vs S f fs F → WT Γ sets roles ro F → FRm Γ ro ms F0 F → RR MT ro fty dfl d f fs F Q
section SxF
variable {Γ : Nat → Option Nat} {sets : List (List Int)} {roles : List RD} {ms : Mods} {MT : List MM} {ro : Nat → Option MC} {fty : Nat → Nat → FieldType} {dfl : Nat → List Value} {vs0 : List Value} {F0 : MH} {Q : Option Value → MH → Prop} {d : Nat} {S : SS}
theorem pre_app {vs : List Value} (h : ∃ t, vs = vs0 ++ t) (v : Value) : ∃ t, vs ++ [v] = vs0 ++ t := by
  obtain ⟨t, rfl⟩ := h
  exact ⟨t ++ [v], by rw [List.append_assoc]⟩
theorem okS.frame {vs : List Value} {f : CF} {fs : List CF} {F : MH} (h : okS Γ sets ro vs S f fs F) : ∃ lv cst, f = (S.1.1, S.1.2.1, lv, cst) ∧ (∀ q ∈ S.1.2.2.1, okA Γ sets vs q.2 ∧ ∃ v, vs[q.2.1]? = some v ∧ m_get lv q.1 = some v) ∧ cst.map some = S.1.2.2.2.map (fun a => vs[a.1]?) ∧ ∀ a ∈ S.1.2.2.2, okA Γ sets vs a := by
  obtain ⟨h1, h2, -⟩ := h
  obtain ⟨mi, pc, lv, cst⟩ := f
  obtain ⟨e1, e2, e3, e4⟩ := h2
  simp only at e1 e2 e3 e4
  subst e1
  subst e2
  exact ⟨lv, cst, rfl, fun q hq => ⟨h1 _ (mem_loc hq), e3 q hq⟩, e4, fun a ha => h1 a (mem_top ha)⟩
theorem stk1 {vs : List Value} {cst : List Value} {a : AV} {r : List AV} (h : cst.map some = (a :: r).map (fun a => vs[a.1]?)) : ∃ v t, cst = v :: t ∧ vs[a.1]? = some v ∧ t.map some = r.map (fun a => vs[a.1]?) := by
  cases cst with
  | nil => simp at h
  | cons v t =>
    simp only [List.map_cons, List.cons.injEq] at h
    exact ⟨v, t, rfl, h.1.symm, h.2⟩
theorem g_const {E : MI × Option FieldType} {v : Value} {a : AV} (hE : m_at MT S.1.1 S.1.2.1 = some E) (hc : c_val E.1 = some v) (ha : c_av Γ S.2.2.2.2.2 v = some a) (h : Good Γ sets roles ms MT ro fty dfl vs0 F0 Q d (s_top (s_up S) (E.1.1 + E.1.2.2.1) S.1.2.2.1 (a :: S.1.2.2.2))) : Good Γ sets roles ms MT ro fty dfl vs0 F0 Q d S := by
  intro vs f fs F hp hS hW hF
  obtain ⟨lv, cst, rfl, hl, hc1, hc2⟩ := hS.frame
  obtain ⟨-, -, -, hpc, -⟩ := m_at_spec hE
  refine TT.one hE (c_val_spec hc fty dfl F lv cst) ?_
  obtain ⟨o1, o2⟩ := c_av_ok (sets := sets) (vs := vs) ha hS.2.2.2.2.2.2
  have hS1 := hS.up v
  refine h (vs ++ [v]) (S.1.1, E.1.1 + E.1.2.2.1, lv, v :: cst) fs F (pre_app hp v) ?_ hW hF
  refine hS1.top (fun q hq => ?_) (fun b hb => ?_) ?_
  · obtain ⟨q1, w, q2, q3⟩ := hl q hq
    exact ⟨q1.app _, w, get_app q2, q3⟩
  · rcases List.mem_cons.mp hb with rfl | hb
    · exact o1
    · exact (hc2 b hb).app _
  · simp only [List.map_cons, List.cons.injEq]
    refine ⟨?_, ?_⟩
    · rw [o2, hS.2.2.2.2.2.2]; simp
    · rw [hc1]
      apply List.map_congr_left
      intro b hb
      obtain ⟨w, hw⟩ := (hc2 b hb).get
      rw [hw, get_app hw]
theorem g_load {E : MI × Option FieldType} {i c : Nat} {a : AV} (hE : m_at MT S.1.1 S.1.2.1 = some E) (hi : l_ix E.1.2.1 = some (i, c)) (ha : x_get S.1.2.2.1 i = some a) (hk : k_is a.2.1 c = true) (h : Good Γ sets roles ms MT ro fty dfl vs0 F0 Q d (s_top S (E.1.1 + E.1.2.2.1) S.1.2.2.1 (a :: S.1.2.2.2))) : Good Γ sets roles ms MT ro fty dfl vs0 F0 Q d S := by
  intro vs f fs F hp hS hW hF
  obtain ⟨lv, cst, rfl, hl, hc1, hc2⟩ := hS.frame
  obtain ⟨oa, v, hv, hg⟩ := hl _ (x_get_mem ha)
  simp only at oa hv hg
  have ho := oa
  obtain ⟨v', p1, p2, -⟩ := oa
  obtain rfl : v' = v := Option.some.inj (p1.symm.trans hv)
  refine TT.one hE (load_spec hi hg ⟨fun e => ?_, fun e => ?_, fun e => ?_⟩ fty dfl F cst) ?_
  · subst e; exact (k_is_int p2 hk).1
  · subst e; exact (k_is_long p2 hk).1
  · subst e; obtain ⟨⟨x, e1, -⟩, -⟩ := k_is_ref p2 hk; exact ⟨x, e1⟩
  · refine h vs (S.1.1, E.1.1 + E.1.2.2.1, lv, v' :: cst) fs F hp (hS.top hl (fun b hb => ?_) ?_) hW hF
    · rcases List.mem_cons.mp hb with rfl | hb
      · exact ho
      · exact hc2 b hb
    · simp only [List.map_cons, List.cons.injEq]
      exact ⟨hv.symm, hc1⟩
/-- a result that is put on the stack in the place of others -/
theorem g_res {E : MI × Option FieldType} {r : List AV} {k : Nat} {lo hi : Int} {rl : List (Nat × Int × Int)} (hE : m_at MT S.1.1 S.1.2.1 = some E)
    (hst : ∀ vs lv cst F, okA Γ sets vs = okA Γ sets vs → (∀ a ∈ S.1.2.2.2, okA Γ sets vs a) → cst.map some = S.1.2.2.2.map (fun a => vs[a.1]?) → ∃ v t, m_one ro fty dfl E.1 F lv cst = some (F, E.1.1 + E.1.2.2.1, lv, v :: t) ∧ t.map some = r.map (fun a => vs[a.1]?) ∧ okE Γ sets k lo hi v ∧ ∀ q ∈ rl, ∃ w, vs[q.1]? = some w ∧ q.2.1 ≤ vz v - vz w ∧ vz v - vz w ≤ q.2.2)
    (hr : ∀ a ∈ r, a ∈ S.1.2.2.2) (h : Good Γ sets roles ms MT ro fty dfl vs0 F0 Q d (s_top (s_up S) (E.1.1 + E.1.2.2.1) S.1.2.2.1 ((S.2.2.2.2.2, k, lo, hi, rl) :: r))) : Good Γ sets roles ms MT ro fty dfl vs0 F0 Q d S := by
  intro vs f fs F hp hS hW hF
  obtain ⟨lv, cst, rfl, hl, hc1, hc2⟩ := hS.frame
  obtain ⟨v, t, h1, h2, h3, h4⟩ := hst vs lv cst F rfl hc2 hc1
  refine TT.one hE h1 ?_
  have hn := hS.2.2.2.2.2.2
  refine h (vs ++ [v]) (S.1.1, E.1.1 + E.1.2.2.1, lv, v :: t) fs F (pre_app hp v) ((hS.up v).top (fun q hq => ?_) (fun b hb => ?_) ?_) hW hF
  · obtain ⟨q1, w, q2, q3⟩ := hl q hq
    exact ⟨q1.app _, w, get_app q2, q3⟩
  · rcases List.mem_cons.mp hb with rfl | hb
    · exact ⟨v, by rw [hn]; simp, h3, fun q hq => by obtain ⟨w, e1, e2⟩ := h4 q hq; exact ⟨w, get_app e1, e2⟩⟩
    · exact (hc2 b (hr b hb)).app _
  · simp only [List.map_cons, List.cons.injEq]
    refine ⟨by rw [hn]; simp, ?_⟩
    rw [h2]
    apply List.map_congr_left
    intro b hb
    obtain ⟨w, hw⟩ := (hc2 b (hr b hb)).get
    rw [hw, get_app hw]
end SxF
end
section
/-! SYMBOLIC RUNS, VII: arithmetic steps -/
def s_sum (su : List (Nat × Nat × Nat)) (S : SS) : SS := (S.1, S.2.1, S.2.2.1, S.2.2.2.1, su ++ S.2.2.2.2.1, S.2.2.2.2.2)
/-- how a sum differs from another sum that is told -/
def x_sr (S : SS) (x y : AV) : List (Nat × Nat × Nat) → List (Nat × Int × Int)
  | [] => []
  | q :: t => if q.1 = x.1 then (match (s_av S).find? (fun b => b.1 == q.2.1 && !(b.2.1 == 2)) with
      | some b => (q.2.2, (a_diff y b).1, (a_diff y b).2) :: x_sr S x y t
      | none => x_sr S x y t) else x_sr S x y t
/-- bounds by what is told of others -/
def x_sc (S : SS) : List (Nat × Int × Int) → Int × Int → Int × Int
  | [], p => p
  | q :: t, p => match (s_av S).find? (fun b => b.1 == q.1 && !(b.2.1 == 2)) with
      | some b => x_sc S t (max p.1 (b.2.2.1 + q.2.1), min p.2 (b.2.2.2.1 + q.2.2))
      | none => x_sc S t p
/-- what sums that are told say of a new one -/
def x_pr (S : SS) (i : Instr) (x y : AV) : List (Nat × Int × Int) := match i with | .iadd => if -2147483648 ≤ x.2.2.1 + y.2.2.1 ∧ x.2.2.2.1 + y.2.2.2.1 ≤ 2147483647 then x_sr S x y S.2.2.2.2.1 else [] | _ => []
/-- two ints: what comes of them -/
def x_bin (S : SS) (i : Instr) (x y : AV) : AV × List (Nat × Nat × Nat) :=
  match m_b32 i with
  | some f => if isC x && isC y then ((S.2.2.2.2.2, 0, (f (Int32.ofInt x.2.2.1) (Int32.ofInt y.2.2.1)).toInt, (f (Int32.ofInt x.2.2.1) (Int32.ofInt y.2.2.1)).toInt, []), [])
    else ((S.2.2.2.2.2, 0, (x_sc S (x_pr S i x y) (b_iv i x y).1).1, (x_sc S (x_pr S i x y) (b_iv i x y).1).2, x_pr S i x y ++ (b_iv i x y).2),
      (match i with | .isub => if -2147483648 ≤ x.2.2.1 - y.2.2.2.1 ∧ x.2.2.2.1 - y.2.2.1 ≤ 2147483647 then [(y.1, S.2.2.2.2.2, x.1)] else [] | _ => []))
  | none => match m_d32 i with
    | some f => if isC x && isC y then ((S.2.2.2.2.2, 0, (f (Int32.ofInt x.2.2.1) (Int32.ofInt y.2.2.1)).toInt, (f (Int32.ofInt x.2.2.1) (Int32.ofInt y.2.2.1)).toInt, []), []) else ((S.2.2.2.2.2, 0, (b_iv i x y).1.1, (b_iv i x y).1.2, (b_iv i x y).2), [])
    | none => ((0, 0, 0, 0, []), [])
section SxG
variable {Γ : Nat → Option Nat} {sets : List (List Int)} {roles : List RD} {ms : Mods} {MT : List MM} {ro : Nat → Option MC} {fty : Nat → Nat → FieldType} {dfl : Nat → List Value} {vs0 : List Value} {F0 : MH} {Q : Option Value → MH → Prop} {d : Nat} {S : SS}
theorem okS.sum {vs : List Value} {f : CF} {fs : List CF} {F : MH} (h : okS Γ sets ro vs S f fs F) {su : List (Nat × Nat × Nat)} (hs : ∀ q ∈ su, okSu vs q) : okS Γ sets ro vs (s_sum su S) f fs F := by
  obtain ⟨h1, h2, h3, h4, h5, h6, h7⟩ := h
  exact ⟨h1, h2, h3, h4, h5, fun q hq => (List.mem_append.mp hq).elim (hs q) (h6 q), h7⟩
theorem x_sr_ok {vs : List Value} {x y : AV} {a b : Int32} (hall : ∀ c ∈ s_av S, okA Γ sets vs c) (hy : okA Γ sets vs y) (ny : ¬ y.2.1 = 2) (hv : vs[x.1]? = some (.int a)) (hw : vs[y.1]? = some (.int b)) (hr : -2147483648 ≤ a.toInt + b.toInt ∧ a.toInt + b.toInt ≤ 2147483647) : ∀ (su : List (Nat × Nat × Nat)), (∀ q ∈ su, okSu vs q) → ∀ r ∈ x_sr S x y su, ∃ w, vs[r.1]? = some w ∧ r.2.1 ≤ (a + b).toInt - vz w ∧ (a + b).toInt - vz w ≤ r.2.2
  | [], _, r, hr => by cases hr
  | q :: t, hsu, r, hr1 => by
    have ih := x_sr_ok hall hy ny hv hw hr t (fun q hq => hsu q (List.mem_cons_of_mem _ hq))
    rw [x_sr] at hr1
    split at hr1
    · rename_i he
      split at hr1
      · rename_i c hc
        rcases List.mem_cons.mp hr1 with rfl | hr1
        · obtain ⟨u, v, w, g1, g2, g3, g4⟩ := hsu q List.mem_cons_self
          have hcm := List.mem_of_find?_eq_some hc
          have hcp := List.find?_some hc
          simp only [Bool.and_eq_true, beq_iff_eq, Bool.not_eq_true', beq_eq_false_iff_ne, ne_eq] at hcp
          rw [he, hv] at g1
          cases g1
          have hd := a_diff_ok hy (hall c hcm) ny hcp.2 hw (by rw [hcp.1]; exact g2)
          have e := z_add hr.1 hr.2
          simp only [i_in, vz] at hd
          simp only [vz] at g4
          exact ⟨w, g3, by simp only [vz]; omega, by simp only [vz]; omega⟩
        · exact ih r hr1
      · exact ih r hr1
    · exact ih r hr1
theorem x_sc_ok {vs : List Value} {z : Value} (hall : ∀ c ∈ s_av S, okA Γ sets vs c) : ∀ (rl : List (Nat × Int × Int)) (p : Int × Int), (∀ r ∈ rl, ∃ w, vs[r.1]? = some w ∧ r.2.1 ≤ vz z - vz w ∧ vz z - vz w ≤ r.2.2) → p.1 ≤ vz z ∧ vz z ≤ p.2 → (x_sc S rl p).1 ≤ vz z ∧ vz z ≤ (x_sc S rl p).2
  | [], p, _, hp => hp
  | q :: t, p, hr, hp => by
    rw [x_sc]
    split
    · rename_i b hb
      refine x_sc_ok hall t _ (fun r h => hr r (List.mem_cons_of_mem _ h)) ?_
      obtain ⟨w, g1, g2, g3⟩ := hr q List.mem_cons_self
      have hbm := List.mem_of_find?_eq_some hb
      have hbp := List.find?_some hb
      simp only [Bool.and_eq_true, beq_iff_eq, Bool.not_eq_true', beq_eq_false_iff_ne, ne_eq] at hbp
      obtain ⟨w', p1, p2, -⟩ := hall b hbm
      have n := p2.num hbp.2
      rw [hbp.1, g1] at p1
      cases p1
      constructor
      · simp only; omega
      · simp only; omega
    · exact x_sc_ok hall t _ (fun r h => hr r (List.mem_cons_of_mem _ h)) hp
theorem alu_b32 {i : Instr} {f : Int32 → Int32 → Int32} (h : m_b32 i = some f) (x y : Int32) (t : List Value) : m_alu i (.int y :: .int x :: t) = some (.int (f x y) :: t) := by
  unfold m_alu; rw [h]
theorem alu_d32 {i : Instr} {f : Int32 → Int32 → Int32} (h : m_d32 i = some f) (x y : Int32) (hy : ¬ y = 0) (t : List Value) : m_alu i (.int y :: .int x :: t) = some (.int (f x y) :: t) := by
  have h2 : m_b32 i = none := by cases i <;> first | rfl | (simp only [m_d32, reduceCtorEq] at h)
  unfold m_alu; rw [h2]; simp only; rw [h]; simp only; rw [if_neg hy]
theorem one_alu {E : MI} (h : (m_b32 E.2.1).isSome = true ∨ (m_d32 E.2.1).isSome = true ∨ (m_b64 E.2.1).isSome = true ∨ (m_d64 E.2.1).isSome = true ∨ (m_u32 E.2.1).isSome = true ∨ E.2.1 = .lcmp ∨ E.2.1 = .dup ∨ E.2.1 = .pop ∨ E.2.1 = .pop2 ∨ E.2.1 = .dup_x1 ∨ E.2.1 = .dup_x2 ∨ E.2.1 = .dup2) {st st1 : List Value} (ha : m_alu E.2.1 st = some st1) (F : MH) (lv : LVs) : m_one ro fty dfl E F lv st = some (F, E.1 + E.2.2.1, lv, st1) := by
  obtain ⟨pc, i, len, a0, b0, z0⟩ := E
  simp only at h ha
  unfold m_one
  have h1 : m_push (pc, i, len, a0, b0, z0) lv = none := by
    cases i <;> first | rfl | (simp [m_b32, m_d32, m_b64, m_d64, m_u32] at h)
  have h2 : m_cst (pc, i, len, a0, b0, z0) = none := by
    cases i <;> first | rfl | (simp [m_b32, m_d32, m_b64, m_d64, m_u32] at h)
  have h3 : m_store (pc, i, len, a0, b0, z0) lv st = none := by
    cases i <;> first | rfl | (simp [m_b32, m_d32, m_b64, m_d64, m_u32] at h)
  rw [h1, h2, h3]
  simp only
  rw [ha]
/-- a result, and sums -/
theorem g_resS {E : MI × Option FieldType} {r : List AV} {k : Nat} {lo hi : Int} {rl : List (Nat × Int × Int)} {su : List (Nat × Nat × Nat)} (hE : m_at MT S.1.1 S.1.2.1 = some E)
    (hst : ∀ vs lv cst F, (∀ a ∈ s_av S, okA Γ sets vs a) → (∀ q ∈ S.2.2.2.2.1, okSu vs q) → S.2.2.2.2.2 = vs.length → cst.map some = S.1.2.2.2.map (fun a => vs[a.1]?) → ∃ v t, m_one ro fty dfl E.1 F lv cst = some (F, E.1.1 + E.1.2.2.1, lv, v :: t) ∧ t.map some = r.map (fun a => vs[a.1]?) ∧ okE Γ sets k lo hi v ∧ (∀ q ∈ rl, ∃ w, vs[q.1]? = some w ∧ q.2.1 ≤ vz v - vz w ∧ vz v - vz w ≤ q.2.2) ∧ ∀ q ∈ su, okSu (vs ++ [v]) q)
    (hr : ∀ a ∈ r, a ∈ S.1.2.2.2) (h : Good Γ sets roles ms MT ro fty dfl vs0 F0 Q d (s_top (s_sum su (s_up S)) (E.1.1 + E.1.2.2.1) S.1.2.2.1 ((S.2.2.2.2.2, k, lo, hi, rl) :: r))) : Good Γ sets roles ms MT ro fty dfl vs0 F0 Q d S := by
  intro vs f fs F hp hS hW hF
  obtain ⟨lv, cst, rfl, hl, hc1, hc2⟩ := hS.frame
  have hn := hS.2.2.2.2.2.2
  obtain ⟨v, t, h1, h2, h3, h4, h5⟩ := hst vs lv cst F hS.1 hS.2.2.2.2.2.1 hn hc1
  refine TT.one hE h1 ?_
  refine h (vs ++ [v]) (S.1.1, E.1.1 + E.1.2.2.1, lv, v :: t) fs F (pre_app hp v) (((hS.up v).sum h5).top (fun q hq => ?_) (fun b hb => ?_) ?_) hW hF
  · obtain ⟨q1, w, q2, q3⟩ := hl q hq
    exact ⟨q1.app _, w, get_app q2, q3⟩
  · rcases List.mem_cons.mp hb with rfl | hb
    · exact ⟨v, by rw [hn]; simp, h3, fun q hq => by obtain ⟨w, e1, e2⟩ := h4 q hq; exact ⟨w, get_app e1, e2⟩⟩
    · exact (hc2 b (hr b hb)).app _
  · simp only [List.map_cons, List.cons.injEq]
    refine ⟨by rw [hn]; simp, ?_⟩
    rw [h2]
    apply List.map_congr_left
    intro b hb
    obtain ⟨w, hw⟩ := (hc2 b (hr b hb)).get
    rw [hw, get_app hw]
theorem okE_int {lo hi : Int} {x : Int32} (h1 : lo ≤ x.toInt) (h2 : x.toInt ≤ hi) : okE Γ sets 0 lo hi (.int x) := by
  unfold okE; simp only [if_true]; exact ⟨⟨_, rfl⟩, h1, h2⟩
theorem g_bin {E : MI × Option FieldType} {x y : AV} {r : List AV} (hE : m_at MT S.1.1 S.1.2.1 = some E) (hst : S.1.2.2.2 = y :: x :: r) (kx : k_is x.2.1 0 = true) (ky : k_is y.2.1 0 = true) (hi : (m_b32 E.1.2.1).isSome = true ∨ ((m_d32 E.1.2.1).isSome = true ∧ (0 < y.2.2.1 ∨ y.2.2.2.1 < 0)))
    (h : Good Γ sets roles ms MT ro fty dfl vs0 F0 Q d (s_top (s_sum (x_bin S E.1.2.1 x y).2 (s_up S)) (E.1.1 + E.1.2.2.1) S.1.2.2.1 ((x_bin S E.1.2.1 x y).1 :: r))) : Good Γ sets roles ms MT ro fty dfl vs0 F0 Q d S := by
  have key : ∃ (lo hi : Int) (rl : List (Nat × Int × Int)) (su : List (Nat × Nat × Nat)), x_bin S E.1.2.1 x y = ((S.2.2.2.2.2, 0, lo, hi, rl), su) ∧ ∀ vs lv cst F, (∀ a ∈ s_av S, okA Γ sets vs a) → (∀ q ∈ S.2.2.2.2.1, okSu vs q) → S.2.2.2.2.2 = vs.length → cst.map some = S.1.2.2.2.map (fun a => vs[a.1]?) → ∃ v t, m_one ro fty dfl E.1 F lv cst = some (F, E.1.1 + E.1.2.2.1, lv, v :: t) ∧ t.map some = r.map (fun a => vs[a.1]?) ∧ okE Γ sets 0 lo hi v ∧ (∀ q ∈ rl, ∃ w, vs[q.1]? = some w ∧ q.2.1 ≤ vz v - vz w ∧ vz v - vz w ≤ q.2.2) ∧ ∀ q ∈ su, okSu (vs ++ [v]) q := by
    have val : ∀ vs cst, (∀ a ∈ s_av S, okA Γ sets vs a) → cst.map some = S.1.2.2.2.map (fun a => vs[a.1]?) → ∃ a b t, cst = .int b :: .int a :: t ∧ vs[x.1]? = some (.int a) ∧ vs[y.1]? = some (.int b) ∧ t.map some = r.map (fun a => vs[a.1]?) ∧ okA Γ sets vs x ∧ okA Γ sets vs y := by
      intro vs cst hall hc
      rw [hst] at hc
      obtain ⟨w, t1, rfl, q2, q3⟩ := stk1 hc
      obtain ⟨v, t2, rfl, q5, q6⟩ := stk1 q3
      have ox : okA Γ sets vs x := hall x (mem_top (by rw [hst]; simp))
      have oy : okA Γ sets vs y := hall y (mem_top (by rw [hst]; simp))
      obtain ⟨v', p1, p2, -⟩ := id ox
      obtain ⟨w', p3, p4, -⟩ := id oy
      obtain rfl : v' = v := Option.some.inj (p1.symm.trans q5)
      obtain rfl : w' = w := Option.some.inj (p3.symm.trans q2)
      obtain ⟨a, rfl⟩ := (k_is_int p2 kx).1
      obtain ⟨b, rfl⟩ := (k_is_int p4 ky).1
      exact ⟨a, b, t2, rfl, q5, q2, q6, ox, oy⟩
    have cst_exact : ∀ (f : Int32 → Int32 → Int32), (isC x && isC y) = true → ∀ vs a b, okA Γ sets vs x → okA Γ sets vs y → vs[x.1]? = some (.int a) → vs[y.1]? = some (.int b) → f a b = f (Int32.ofInt x.2.2.1) (Int32.ofInt y.2.2.1) := by
      intro f hc vs a b ox oy q1 q2
      simp only [Bool.and_eq_true] at hc
      obtain ⟨v', p1, p2, -⟩ := ox
      obtain ⟨w', p3, p4, -⟩ := oy
      have e1 := isC_spec hc.1 p2
      have e2 := isC_spec hc.2 p4
      rw [p1] at q1; rw [p3] at q2
      cases q1; cases q2
      cases e1; cases e2
      rfl
    rcases hi with hi | ⟨hi, hz⟩
    · obtain ⟨f, hf⟩ := Option.isSome_iff_exists.mp hi
      unfold x_bin
      rw [hf]
      simp only
      by_cases hc : (isC x && isC y) = true
      · rw [if_pos hc]
        refine ⟨_, _, _, _, rfl, fun vs lv cst F hall hsu hn hcs => ?_⟩
        obtain ⟨a, b, t, rfl, q1, q2, q3, ox, oy⟩ := val vs cst hall hcs
        refine ⟨.int (f a b), t, one_alu (Or.inl hi) (alu_b32 hf a b t) F lv, q3, ?_, (fun q hq => by cases hq), (fun q hq => by cases hq)⟩
        rw [cst_exact f hc vs a b ox oy q1 q2]
        exact okE_int (Int.le_refl _) (Int.le_refl _)
      · rw [if_neg hc]
        refine ⟨_, _, _, _, rfl, fun vs lv cst F hall hsu hn hcs => ?_⟩
        obtain ⟨a, b, t, rfl, q1, q2, q3, ox, oy⟩ := val vs cst hall hcs
        have hb := b_iv_ok (Or.inl hf) ox oy kx ky q1 q2
        obtain ⟨v', p1, p2, -⟩ := id ox
        obtain ⟨w', p3, p4, -⟩ := id oy
        have nx := (k_is_int p2 kx).2
        have ny := (k_is_int p4 ky).2
        have n1 := p2.num nx
        have n2 := p4.num ny
        rw [q1] at p1; rw [q2] at p3
        cases p1; cases p3
        simp only [vz] at n1 n2
        have hpr : ∀ q ∈ x_pr S E.1.2.1 x y, ∃ w, vs[q.1]? = some w ∧ q.2.1 ≤ vz (.int (f a b)) - vz w ∧ vz (.int (f a b)) - vz w ≤ q.2.2 := by
          intro q hq
          unfold x_pr at hq
          split at hq
          · rename_i hEq
            split at hq
            · rw [hEq] at hf
              cases hf
              exact x_sr_ok hall oy ny q1 q2 (by omega) _ hsu q hq
            · cases hq
          · cases hq
        have hsc := x_sc_ok (z := .int (f a b)) hall (x_pr S E.1.2.1 x y) (b_iv E.1.2.1 x y).1 hpr ⟨hb.1, hb.2.1⟩
        refine ⟨.int (f a b), t, one_alu (Or.inl hi) (alu_b32 hf a b t) F lv, q3, okE_int hsc.1 hsc.2, fun q hq => ?_, fun q hq => ?_⟩
        · rcases List.mem_append.mp hq with hq | hq
          · exact hpr q hq
          · exact hb.2.2 q hq
        · split at hq
          · rename_i hEq
            split at hq
            · rw [hEq] at hf
              cases hf
              rcases List.mem_cons.mp hq with rfl | hq
              · have e := z_sub (x := a) (y := b) (by omega) (by omega)
                exact ⟨.int b, .int (a - b), .int a, get_app q2, (by rw [hn]; simp), get_app q1, (by simp only [vz]; omega)⟩
              · cases hq
            · cases hq
          · cases hq
    · obtain ⟨f, hf⟩ := Option.isSome_iff_exists.mp hi
      have hf2 : m_b32 E.1.2.1 = none := by
        cases hEq : E.1.2.1 <;> rw [hEq] at hf <;> first | rfl | (simp only [m_d32, reduceCtorEq] at hf)
      unfold x_bin
      rw [hf2]
      simp only
      rw [hf]
      simp only
      have nz : ∀ vs b, okA Γ sets vs y → vs[y.1]? = some (.int b) → ¬ b = 0 := by
        intro vs b oy q2 e
        subst e
        obtain ⟨w', p3, p4, -⟩ := oy
        have n2 := p4.num (k_is_int p4 ky).2
        rw [q2] at p3; cases p3
        simp only [vz, Int32.toInt_zero] at n2
        omega
      by_cases hc : (isC x && isC y) = true
      · rw [if_pos hc]
        refine ⟨_, _, _, _, rfl, fun vs lv cst F hall hsu hn hcs => ?_⟩
        obtain ⟨a, b, t, rfl, q1, q2, q3, ox, oy⟩ := val vs cst hall hcs
        refine ⟨.int (f a b), t, one_alu (Or.inr (Or.inl hi)) (alu_d32 hf a b (nz vs b oy q2) t) F lv, q3, ?_, (fun q hq => by cases hq), (fun q hq => by cases hq)⟩
        rw [cst_exact f hc vs a b ox oy q1 q2]
        exact okE_int (Int.le_refl _) (Int.le_refl _)
      · rw [if_neg hc]
        refine ⟨_, _, _, _, rfl, fun vs lv cst F hall hsu hn hcs => ?_⟩
        obtain ⟨a, b, t, rfl, q1, q2, q3, ox, oy⟩ := val vs cst hall hcs
        have hb := b_iv_ok (Or.inr hf) ox oy kx ky q1 q2
        exact ⟨.int (f a b), t, one_alu (Or.inr (Or.inl hi)) (alu_d32 hf a b (nz vs b oy q2) t) F lv, q3, okE_int hb.1 hb.2.1, (fun q hq => hb.2.2 q hq), (fun q hq => by cases hq)⟩
  obtain ⟨lo, hi2, rl, su, e1, e2⟩ := key
  rw [e1] at h
  exact g_resS hE e2 (fun a ha => by rw [hst]; simp [ha]) h
end SxG
end
section
/-! SYMBOLIC RUNS, VIII: one operand, longs, the stack's own instructions, locals -/
section SxH
variable {Γ : Nat → Option Nat} {sets : List (List Int)} {roles : List RD} {ms : Mods} {MT : List MM} {ro : Nat → Option MC} {fty : Nat → Nat → FieldType} {dfl : Nat → List Value} {vs0 : List Value} {F0 : MH} {Q : Option Value → MH → Prop} {d : Nat} {S : SS}
theorem z_i2b (x : Int32) : -128 ≤ x.toInt8.toInt32.toInt ∧ x.toInt8.toInt32.toInt ≤ 127 ∧ (-128 ≤ x.toInt → x.toInt ≤ 127 → x.toInt8.toInt32.toInt = x.toInt) := by
  have e1 : x.toInt8.toInt32.toInt = x.toInt8.toInt := Int8.toInt_toInt32 _
  have e2 : x.toInt8.toInt = x.toInt.bmod (2 ^ 8) := Int32.toInt_toInt8 x
  rw [e1, e2]
  unfold Int.bmod
  simp only
  refine ⟨?_, ?_, fun _ _ => ?_⟩ <;> split <;> omega
theorem z_i2s (x : Int32) : -32768 ≤ x.toInt16.toInt32.toInt ∧ x.toInt16.toInt32.toInt ≤ 32767 ∧ (-32768 ≤ x.toInt → x.toInt ≤ 32767 → x.toInt16.toInt32.toInt = x.toInt) := by
  have e1 : x.toInt16.toInt32.toInt = x.toInt16.toInt := Int16.toInt_toInt32 _
  have e2 : x.toInt16.toInt = x.toInt.bmod (2 ^ 16) := Int32.toInt_toInt16 x
  rw [e1, e2]
  unfold Int.bmod
  simp only
  refine ⟨?_, ?_, fun _ _ => ?_⟩ <;> split <;> omega
theorem z_i2c (x : Int32) : 0 ≤ ((x.toUInt32 % 65536).toInt32).toInt ∧ ((x.toUInt32 % 65536).toInt32).toInt ≤ 65535 ∧ (0 ≤ x.toInt → x.toInt ≤ 65535 → ((x.toUInt32 % 65536).toInt32).toInt = x.toInt) := by
  rw [pk_char, nI_toInt (Nat.lt_of_lt_of_le (Nat.mod_lt _ (by decide)) (by decide))]
  refine ⟨by omega, by omega, fun h1 h2 => ?_⟩
  obtain ⟨j, g1, g2, g3⟩ := z_nI h1
  rw [g2, pk_tn (by omega), nI_toInt g1]
  omega
/-- one int: what comes of it -/
def x_un (i : Instr) (x : AV) (n : Nat) : Option AV := match i with
  | .i2l => some (n, 1, x.2.2.1, x.2.2.2.1, (x.1, 0, 0) :: x.2.2.2.2)
  | .i2b => if -128 ≤ x.2.2.1 ∧ x.2.2.2.1 ≤ 127 then some (n, 0, x.2.2.1, x.2.2.2.1, [(x.1, 0, 0)]) else some (n, 0, -128, 127, [])
  | .i2s => if -32768 ≤ x.2.2.1 ∧ x.2.2.2.1 ≤ 32767 then some (n, 0, x.2.2.1, x.2.2.2.1, [(x.1, 0, 0)]) else some (n, 0, -32768, 32767, [])
  | .i2c => if 0 ≤ x.2.2.1 ∧ x.2.2.2.1 ≤ 65535 then some (n, 0, x.2.2.1, x.2.2.2.1, [(x.1, 0, 0)]) else some (n, 0, 0, 65535, [])
  | _ => none
theorem alu_u32 {i : Instr} {f : Int32 → Value} (h : m_u32 i = some f) (x : Int32) (t : List Value) : m_alu i (.int x :: t) = some (f x :: t) := by
  have h1 : m_b32 i = none := by cases i <;> first | rfl | (simp only [m_u32, reduceCtorEq] at h)
  have h2 : m_d32 i = none := by cases i <;> first | rfl | (simp only [m_u32, reduceCtorEq] at h)
  have h3 : m_b64 i = none := by cases i <;> first | rfl | (simp only [m_u32, reduceCtorEq] at h)
  have h4 : m_d64 i = none := by cases i <;> first | rfl | (simp only [m_u32, reduceCtorEq] at h)
  unfold m_alu; rw [h1]; simp only; rw [h2]; simp only; rw [h3]; simp only; rw [h4]; simp only; rw [h]
theorem g_un {E : MI × Option FieldType} {x a : AV} {r : List AV} (hE : m_at MT S.1.1 S.1.2.1 = some E) (hst : S.1.2.2.2 = x :: r) (kx : k_is x.2.1 0 = true) (ha : x_un E.1.2.1 x S.2.2.2.2.2 = some a)
    (h : Good Γ sets roles ms MT ro fty dfl vs0 F0 Q d (s_top (s_sum [] (s_up S)) (E.1.1 + E.1.2.2.1) S.1.2.2.1 (a :: r))) : Good Γ sets roles ms MT ro fty dfl vs0 F0 Q d S := by
  have key : ∃ (k : Nat) (lo hi : Int) (rl : List (Nat × Int × Int)), a = (S.2.2.2.2.2, k, lo, hi, rl) ∧ ∀ vs lv cst F, (∀ a ∈ s_av S, okA Γ sets vs a) → (∀ q ∈ S.2.2.2.2.1, okSu vs q) → S.2.2.2.2.2 = vs.length → cst.map some = S.1.2.2.2.map (fun a => vs[a.1]?) → ∃ v t, m_one ro fty dfl E.1 F lv cst = some (F, E.1.1 + E.1.2.2.1, lv, v :: t) ∧ t.map some = r.map (fun a => vs[a.1]?) ∧ okE Γ sets k lo hi v ∧ (∀ q ∈ rl, ∃ w, vs[q.1]? = some w ∧ q.2.1 ≤ vz v - vz w ∧ vz v - vz w ≤ q.2.2) ∧ ∀ q ∈ ([] : List (Nat × Nat × Nat)), okSu (vs ++ [v]) q := by
    have val : ∀ vs cst, (∀ a ∈ s_av S, okA Γ sets vs a) → cst.map some = S.1.2.2.2.map (fun a => vs[a.1]?) → ∃ a t, cst = .int a :: t ∧ vs[x.1]? = some (.int a) ∧ t.map some = r.map (fun a => vs[a.1]?) ∧ x.2.2.1 ≤ a.toInt ∧ a.toInt ≤ x.2.2.2.1 ∧ ∀ q ∈ x.2.2.2.2, ∃ w, vs[q.1]? = some w ∧ q.2.1 ≤ a.toInt - vz w ∧ a.toInt - vz w ≤ q.2.2 := by
      intro vs cst hall hc
      rw [hst] at hc
      obtain ⟨v, t2, rfl, q5, q6⟩ := stk1 hc
      have ox : okA Γ sets vs x := hall x (mem_top (by rw [hst]; simp))
      obtain ⟨v', p1, p2, p3⟩ := ox
      obtain rfl : v' = v := Option.some.inj (p1.symm.trans q5)
      have n1 := p2.num (k_is_int p2 kx).2
      obtain ⟨a, rfl⟩ := (k_is_int p2 kx).1
      exact ⟨a, t2, rfl, q5, q6, n1.1, n1.2, p3⟩
    have same : ∀ (vs : List Value) (z a : Int32), vs[x.1]? = some (.int a) → z.toInt = a.toInt → ∀ q ∈ [(x.1, (0 : Int), (0 : Int))], ∃ w, vs[q.1]? = some w ∧ q.2.1 ≤ vz (.int z) - vz w ∧ vz (.int z) - vz w ≤ q.2.2 := by
      intro vs z a h1 h2 q hq
      rcases List.mem_cons.mp hq with rfl | hq
      · exact ⟨_, h1, by simp only [vz]; omega, by simp only [vz]; omega⟩
      · cases hq
    have nil : ∀ (v : Value) (vs : List Value), ∀ q ∈ ([] : List (Nat × Int × Int)), ∃ w, vs[q.1]? = some w ∧ q.2.1 ≤ vz v - vz w ∧ vz v - vz w ≤ q.2.2 := fun v vs q hq => by cases hq
    have nil2 : ∀ (vs : List Value), ∀ q ∈ ([] : List (Nat × Nat × Nat)), okSu vs q := fun vs q hq => by cases hq
    cases hi : E.1.2.1 <;> rw [hi] at ha <;> simp only [x_un, reduceCtorEq] at ha
    case i2l =>
      cases ha
      refine ⟨_, _, _, _, rfl, fun vs lv cst F hall hsu hn hcs => ?_⟩
      obtain ⟨a, t, rfl, q1, q2, q3, q4, q5⟩ := val vs cst hall hcs
      have e : a.toInt64.toInt = a.toInt := Int32.toInt_toInt64 a
      refine ⟨.long a.toInt64, t, one_alu (Or.inr (Or.inr (Or.inr (Or.inr (Or.inl (by rw [hi]; rfl)))))) (by rw [hi]; rfl) F lv, q2, ?_, fun q hq => ?_, nil2 _⟩
      · unfold okE; simp; exact ⟨⟨_, rfl⟩, by simp only [vz]; omega, by simp only [vz]; omega⟩
      · rcases List.mem_cons.mp hq with rfl | hq
        · exact ⟨_, q1, by simp only [vz]; omega, by simp only [vz]; omega⟩
        · obtain ⟨w, e1, e2, e3⟩ := q5 q hq
          exact ⟨w, e1, by simp only [vz] at e2 e3 ⊢; omega, by simp only [vz] at e2 e3 ⊢; omega⟩
    case i2b =>
      split at ha
      · rename_i hr
        cases ha
        refine ⟨_, _, _, _, rfl, fun vs lv cst F hall hsu hn hcs => ?_⟩
        obtain ⟨a, t, rfl, q1, q2, q3, q4, q5⟩ := val vs cst hall hcs
        have e := (z_i2b a).2.2 (by omega) (by omega)
        exact ⟨.int a.toInt8.toInt32, t, one_alu (Or.inr (Or.inr (Or.inr (Or.inr (Or.inl (by rw [hi]; rfl)))))) (by rw [hi]; rfl) F lv, q2, okE_int (by omega) (by omega), same vs _ a q1 e, nil2 _⟩
      · cases ha
        refine ⟨_, _, _, _, rfl, fun vs lv cst F hall hsu hn hcs => ?_⟩
        obtain ⟨a, t, rfl, q1, q2, q3, q4, q5⟩ := val vs cst hall hcs
        exact ⟨.int a.toInt8.toInt32, t, one_alu (Or.inr (Or.inr (Or.inr (Or.inr (Or.inl (by rw [hi]; rfl)))))) (by rw [hi]; rfl) F lv, q2, okE_int (z_i2b a).1 (z_i2b a).2.1, nil _ _, nil2 _⟩
    case i2s =>
      split at ha
      · rename_i hr
        cases ha
        refine ⟨_, _, _, _, rfl, fun vs lv cst F hall hsu hn hcs => ?_⟩
        obtain ⟨a, t, rfl, q1, q2, q3, q4, q5⟩ := val vs cst hall hcs
        have e := (z_i2s a).2.2 (by omega) (by omega)
        exact ⟨.int a.toInt16.toInt32, t, one_alu (Or.inr (Or.inr (Or.inr (Or.inr (Or.inl (by rw [hi]; rfl)))))) (by rw [hi]; rfl) F lv, q2, okE_int (by omega) (by omega), same vs _ a q1 e, nil2 _⟩
      · cases ha
        refine ⟨_, _, _, _, rfl, fun vs lv cst F hall hsu hn hcs => ?_⟩
        obtain ⟨a, t, rfl, q1, q2, q3, q4, q5⟩ := val vs cst hall hcs
        exact ⟨.int a.toInt16.toInt32, t, one_alu (Or.inr (Or.inr (Or.inr (Or.inr (Or.inl (by rw [hi]; rfl)))))) (by rw [hi]; rfl) F lv, q2, okE_int (z_i2s a).1 (z_i2s a).2.1, nil _ _, nil2 _⟩
    case i2c =>
      split at ha
      · rename_i hr
        cases ha
        refine ⟨_, _, _, _, rfl, fun vs lv cst F hall hsu hn hcs => ?_⟩
        obtain ⟨a, t, rfl, q1, q2, q3, q4, q5⟩ := val vs cst hall hcs
        have e := (z_i2c a).2.2 (by omega) (by omega)
        exact ⟨.int (a.toUInt32 % 65536).toInt32, t, one_alu (Or.inr (Or.inr (Or.inr (Or.inr (Or.inl (by rw [hi]; rfl)))))) (by rw [hi]; rfl) F lv, q2, okE_int (by omega) (by omega), same vs _ a q1 e, nil2 _⟩
      · cases ha
        refine ⟨_, _, _, _, rfl, fun vs lv cst F hall hsu hn hcs => ?_⟩
        obtain ⟨a, t, rfl, q1, q2, q3, q4, q5⟩ := val vs cst hall hcs
        exact ⟨.int (a.toUInt32 % 65536).toInt32, t, one_alu (Or.inr (Or.inr (Or.inr (Or.inr (Or.inl (by rw [hi]; rfl)))))) (by rw [hi]; rfl) F lv, q2, okE_int (z_i2c a).1 (z_i2c a).2.1, nil _ _, nil2 _⟩
  obtain ⟨k, lo, hi2, rl, e1, e2⟩ := key
  rw [e1] at h
  exact g_resS hE e2 (fun a ha => by rw [hst]; simp [ha]) h
end SxH
end
section
/-! SYMBOLIC RUNS, IX: longs -/
section SxI
variable {Γ : Nat → Option Nat} {sets : List (List Int)} {roles : List RD} {ms : Mods} {MT : List MM} {ro : Nat → Option MC} {fty : Nat → Nat → FieldType} {dfl : Nat → List Value} {vs0 : List Value} {F0 : MH} {Q : Option Value → MH → Prop} {d : Nat} {S : SS}
theorem z_bmL {z : Int} (h1 : -9223372036854775808 ≤ z) (h2 : z ≤ 9223372036854775807) : z.bmod (2 ^ 64) = z := by
  unfold Int.bmod
  simp only
  split <;> omega
theorem z_lN {x : Int64} (h : 0 ≤ x.toInt) : ∃ j : Nat, j < 2 ^ 63 ∧ x = lN j ∧ (j : Int) = x.toInt := by
  have h0 : ¬ x < 0 := by rw [Int64.lt_iff_toInt_lt, Int64.toInt_zero]; omega
  obtain ⟨j, hj, e⟩ := pk_lOf h0
  exact ⟨j, hj, e, by rw [e, pk_lT hj]⟩
theorem z_divL {x y : Int64} (hx : 0 ≤ x.toInt) (hy : 1 ≤ y.toInt) : (x / y).toInt = x.toInt / y.toInt := by
  obtain ⟨j, h1, h2, h3⟩ := z_lN hx
  obtain ⟨k, g1, g2, g3⟩ := z_lN (x := y) (by omega)
  have hk : 0 < k := by omega
  rw [h2, g2, pk_lDiv h1 hk g1, pk_lT (Nat.lt_of_le_of_lt (Nat.div_le_self _ _) h1), pk_lT h1, pk_lT g1]
  exact Int.natCast_ediv j k
theorem z_remL {x y : Int64} (hx : 0 ≤ x.toInt) (hy : 1 ≤ y.toInt) : (x - x / y * y).toInt = x.toInt % y.toInt := by
  obtain ⟨j, h1, h2, h3⟩ := z_lN hx
  obtain ⟨k, g1, g2, g3⟩ := z_lN (x := y) (by omega)
  have hk : 0 < k := by omega
  rw [h2, g2, pk_lRem h1 hk g1, pk_lT (Nat.lt_of_le_of_lt (Nat.mod_le _ _) h1), pk_lT h1, pk_lT g1]
  exact Int.natCast_emod j k
def r_l (l h : Int) : Int × Int := if -9223372036854775808 ≤ l ∧ h ≤ 9223372036854775807 then (l, h) else (-9223372036854775808, 9223372036854775807)
theorem r_l_ok {l h : Int} {x : Int64} (hx : (-9223372036854775808 ≤ l ∧ h ≤ 9223372036854775807) → l ≤ x.toInt ∧ x.toInt ≤ h) : (r_l l h).1 ≤ x.toInt ∧ x.toInt ≤ (r_l l h).2 := by
  unfold r_l
  split
  · rename_i q; exact hx q
  · exact z_rngL x
/-- bounds of what two longs come to -/
def l_iv (i : Instr) (x y : AV) : Int × Int := match i with
  | .ladd => r_l (x.2.2.1 + y.2.2.1) (x.2.2.2.1 + y.2.2.2.1)
  | .lsub => r_l (x.2.2.1 - y.2.2.2.1) (x.2.2.2.1 - y.2.2.1)
  | .lmul => if 0 ≤ x.2.2.1 ∧ 0 ≤ y.2.2.1 then r_l (x.2.2.1 * y.2.2.1) (x.2.2.2.1 * y.2.2.2.1) else (-9223372036854775808, 9223372036854775807)
  | .ldiv => if 0 ≤ x.2.2.1 ∧ 1 ≤ y.2.2.1 then (0, x.2.2.2.1) else (-9223372036854775808, 9223372036854775807)
  | .lrem => if 0 ≤ x.2.2.1 ∧ 1 ≤ y.2.2.1 then (0, y.2.2.2.1 - 1) else (-9223372036854775808, 9223372036854775807)
  | _ => (-9223372036854775808, 9223372036854775807)
theorem l_iv_ok {i : Instr} {f : Int64 → Int64 → Int64} {x y : AV} {a b : Int64} (hf : m_b64 i = some f ∨ m_d64 i = some f) (n1 : x.2.2.1 ≤ a.toInt ∧ a.toInt ≤ x.2.2.2.1) (n2 : y.2.2.1 ≤ b.toInt ∧ b.toInt ≤ y.2.2.2.1) : (l_iv i x y).1 ≤ (f a b).toInt ∧ (f a b).toInt ≤ (l_iv i x y).2 := by
  have hA := z_rngL a
  have hB := z_rngL b
  cases i <;> simp only [m_b64, m_d64, reduceCtorEq, or_false, false_or, Option.some.injEq] at hf <;> subst hf <;> simp only [l_iv]
  case ladd => exact r_l_ok fun q => by rw [Int64.toInt_add, z_bmL (by omega) (by omega)]; omega
  case lsub => exact r_l_ok fun q => by rw [Int64.toInt_sub, z_bmL (by omega) (by omega)]; omega
  case lmul =>
    split
    · rename_i hq
      have p1 : x.2.2.1 * y.2.2.1 ≤ a.toInt * b.toInt := Int.mul_le_mul n1.1 n2.1 hq.2 (by omega)
      have p2 : a.toInt * b.toInt ≤ x.2.2.2.1 * y.2.2.2.1 := Int.mul_le_mul n1.2 n2.2 (by omega) (by omega)
      exact r_l_ok fun q => by rw [Int64.toInt_mul, z_bmL (by omega) (by omega)]; exact ⟨p1, p2⟩
    · exact z_rngL _
  case ldiv =>
    split
    · rename_i hq
      have e := z_divL (x := a) (y := b) (by omega) (by omega)
      have p1 : 0 ≤ a.toInt / b.toInt := Int.ediv_nonneg (by omega) (by omega)
      have p2 : a.toInt / b.toInt ≤ a.toInt := Int.ediv_le_self _ (by omega)
      exact ⟨by rw [e]; exact p1, by rw [e]; simp only; omega⟩
    · exact z_rngL _
  case lrem =>
    split
    · rename_i hq
      have e := z_remL (x := a) (y := b) (by omega) (by omega)
      have p1 := Int.emod_nonneg a.toInt (b := b.toInt) (by omega)
      have p2 := Int.emod_lt_of_pos a.toInt (b := b.toInt) (by omega)
      exact ⟨by rw [e]; exact p1, by rw [e]; simp only; omega⟩
    · exact z_rngL _
  all_goals exact z_rngL _
/-- how a sum of longs differs from what is added to -/
def l_rl (i : Instr) (x y : AV) : List (Nat × Int × Int) := match i with
  | .ladd => if y.2.2.1 = y.2.2.2.1 ∧ -9223372036854775808 ≤ x.2.2.1 + y.2.2.1 ∧ x.2.2.2.1 + y.2.2.2.1 ≤ 9223372036854775807 then (x.1, y.2.2.1, y.2.2.1) :: (x.2.2.2.2.take 4).map (fun q => (q.1, q.2.1 + y.2.2.1, q.2.2 + y.2.2.1)) else []
  | _ => []
theorem l_rl_ok {i : Instr} {f : Int64 → Int64 → Int64} {x y : AV} {vs : List Value} {a b : Int64} (hf : m_b64 i = some f ∨ m_d64 i = some f) (hx : vs[x.1]? = some (.long a)) (n1 : x.2.2.1 ≤ a.toInt ∧ a.toInt ≤ x.2.2.2.1) (n2 : y.2.2.1 ≤ b.toInt ∧ b.toInt ≤ y.2.2.2.1) (hr : ∀ q ∈ x.2.2.2.2, ∃ w, vs[q.1]? = some w ∧ q.2.1 ≤ a.toInt - vz w ∧ a.toInt - vz w ≤ q.2.2) : ∀ q ∈ l_rl i x y, ∃ w, vs[q.1]? = some w ∧ q.2.1 ≤ vz (.long (f a b)) - vz w ∧ vz (.long (f a b)) - vz w ≤ q.2.2 := by
  intro q hq
  unfold l_rl at hq
  split at hq
  · split at hq
    · rename_i hc
      simp only [m_b64, m_d64, reduceCtorEq, or_false, Option.some.injEq] at hf
      subst hf
      have e : (a + b).toInt = a.toInt + b.toInt := by rw [Int64.toInt_add, z_bmL (by omega) (by omega)]
      rcases List.mem_cons.mp hq with rfl | hq
      · exact ⟨_, hx, by simp only [vz, e]; omega, by simp only [vz, e]; omega⟩
      · obtain ⟨r, h1, rfl⟩ := List.mem_map.mp hq
        obtain ⟨w, g1, g2, g3⟩ := hr r (List.mem_of_mem_take h1)
        have e2 : vz (.long (a + b)) = a.toInt + b.toInt := e
        exact ⟨w, g1, by simp only [e2]; omega, by simp only [e2]; omega⟩
    · cases hq
  · cases hq
theorem alu_b64 {i : Instr} {f : Int64 → Int64 → Int64} (h : m_b64 i = some f) (x y : Int64) (t : List Value) : m_alu i (.long y :: .long x :: t) = some (.long (f x y) :: t) := by
  have h1 : m_b32 i = none := by cases i <;> first | rfl | (simp only [m_b64, reduceCtorEq] at h)
  have h2 : m_d32 i = none := by cases i <;> first | rfl | (simp only [m_b64, reduceCtorEq] at h)
  unfold m_alu; rw [h1]; simp only; rw [h2]; simp only; rw [h]
theorem alu_d64 {i : Instr} {f : Int64 → Int64 → Int64} (h : m_d64 i = some f) (x y : Int64) (hy : ¬ y = 0) (t : List Value) : m_alu i (.long y :: .long x :: t) = some (.long (f x y) :: t) := by
  have h1 : m_b32 i = none := by cases i <;> first | rfl | (simp only [m_d64, reduceCtorEq] at h)
  have h2 : m_d32 i = none := by cases i <;> first | rfl | (simp only [m_d64, reduceCtorEq] at h)
  have h3 : m_b64 i = none := by cases i <;> first | rfl | (simp only [m_d64, reduceCtorEq] at h)
  unfold m_alu; rw [h1]; simp only; rw [h2]; simp only; rw [h3]; simp only; rw [h]; simp only; rw [if_neg hy]
theorem okE_long {lo hi : Int} {x : Int64} (h1 : lo ≤ x.toInt) (h2 : x.toInt ≤ hi) : okE Γ sets 1 lo hi (.long x) := by
  unfold okE; simp; exact ⟨⟨_, rfl⟩, h1, h2⟩
theorem g_long {E : MI × Option FieldType} {x y : AV} {r : List AV} (hE : m_at MT S.1.1 S.1.2.1 = some E) (hst : S.1.2.2.2 = y :: x :: r) (kx : k_is x.2.1 1 = true) (ky : k_is y.2.1 1 = true) (hi : (m_b64 E.1.2.1).isSome = true ∨ ((m_d64 E.1.2.1).isSome = true ∧ (0 < y.2.2.1 ∨ y.2.2.2.1 < 0)))
    (h : Good Γ sets roles ms MT ro fty dfl vs0 F0 Q d (s_top (s_sum [] (s_up S)) (E.1.1 + E.1.2.2.1) S.1.2.2.1 ((S.2.2.2.2.2, 1, (l_iv E.1.2.1 x y).1, (l_iv E.1.2.1 x y).2, l_rl E.1.2.1 x y) :: r))) : Good Γ sets roles ms MT ro fty dfl vs0 F0 Q d S := by
  refine g_resS hE (fun vs lv cst F hall hsu hn hcs => ?_) (fun a ha => by rw [hst]; simp [ha]) h
  rw [hst] at hcs
  obtain ⟨w, t1, rfl, q2, q3⟩ := stk1 hcs
  obtain ⟨v, t2, rfl, q5, q6⟩ := stk1 q3
  obtain ⟨v', p1, p2, p9⟩ := hall x (mem_top (by rw [hst]; simp))
  obtain ⟨w', p3, p4, -⟩ := hall y (mem_top (by rw [hst]; simp))
  obtain rfl : v' = v := Option.some.inj (p1.symm.trans q5)
  obtain rfl : w' = w := Option.some.inj (p3.symm.trans q2)
  have n1 := p2.num (by have := (k_is_long p2 kx).2; omega)
  have n2 := p4.num (by have := (k_is_long p4 ky).2; omega)
  obtain ⟨a, rfl⟩ := (k_is_long p2 kx).1
  obtain ⟨b, rfl⟩ := (k_is_long p4 ky).1
  simp only [vz] at n1 n2
  rcases hi with hi | ⟨hi, hz⟩
  · obtain ⟨f, hf⟩ := Option.isSome_iff_exists.mp hi
    have hb := l_iv_ok (Or.inl hf) n1 n2
    exact ⟨.long (f a b), t2, one_alu (Or.inr (Or.inr (Or.inl hi))) (alu_b64 hf a b t2) F lv, q6, okE_long hb.1 hb.2, l_rl_ok (Or.inl hf) p1 n1 n2 p9, (fun q hq => by cases hq)⟩
  · obtain ⟨f, hf⟩ := Option.isSome_iff_exists.mp hi
    have hb := l_iv_ok (Or.inr hf) n1 n2
    have hne : ¬ b = 0 := by
      intro e
      subst e
      simp only [Int64.toInt_zero] at n2
      omega
    exact ⟨.long (f a b), t2, one_alu (Or.inr (Or.inr (Or.inr (Or.inl hi)))) (alu_d64 hf a b hne t2) F lv, q6, okE_long hb.1 hb.2, l_rl_ok (Or.inr hf) p1 n1 n2 p9, (fun q hq => by cases hq)⟩
end SxI
end
section
/-! SYMBOLIC RUNS, X: the stack's own instructions, stores into locals -/
def x_stk (i : Instr) (st : List AV) : Option (List AV) := match i with
  | .dup => (match st with | a :: r => if a.2.1 = 1 then none else some (a :: a :: r) | _ => none)
  | .pop => (match st with | a :: r => if a.2.1 = 1 then none else some r | _ => none)
  | .pop2 => (match st with | a :: r => if a.2.1 = 1 then some r else none | _ => none)
  | .dup_x1 => (match st with | a :: b :: r => if a.2.1 = 1 ∨ b.2.1 = 1 then none else some (a :: b :: a :: r) | _ => none)
  | .dup_x2 => (match st with | a :: b :: c :: r => if a.2.1 = 1 ∨ b.2.1 = 1 ∨ c.2.1 = 1 then none else some (a :: b :: c :: a :: r) | _ => none)
  | .dup2 => (match st with | a :: b :: r => if a.2.1 = 1 ∨ b.2.1 = 1 then none else some (a :: b :: a :: b :: r) | _ => none)
  | _ => none
/-- a store: the local, and whether it is of two places -/
def st_ix (i : Instr) : Option (Nat × Nat) := match i with
  | .istore i => some (i, 0)
  | .istore_n i => some (i, 0)
  | .lstore i => some (i, 1)
  | .lstore_n i => some (i, 1)
  | .astore i => some (i, 2)
  | .astore_n i => some (i, 2)
  | _ => none
section SxJ
variable {Γ : Nat → Option Nat} {sets : List (List Int)} {roles : List RD} {ms : Mods} {MT : List MM} {ro : Nat → Option MC} {fty : Nat → Nat → FieldType} {dfl : Nat → List Value} {vs0 : List Value} {F0 : MH} {Q : Option Value → MH → Prop} {d : Nat} {S : SS}
theorem okA_cat {vs : List Value} {a : AV} {v : Value} (h : okA Γ sets vs a) (hv : vs[a.1]? = some v) : (v.category = 2 ↔ a.2.1 = 1) := by
  obtain ⟨v', p1, p2, -⟩ := h
  obtain rfl : v' = v := Option.some.inj (p1.symm.trans hv)
  exact okE_cat p2
theorem okA_cat1 {vs : List Value} {a : AV} {v : Value} (h : okA Γ sets vs a) (hv : vs[a.1]? = some v) (hk : ¬ a.2.1 = 1) : v.category = 1 := by
  have := okA_cat h hv
  rcases lv_cat v with e | e
  · exact e
  · exact absurd (this.mp e) hk
/-- the stack is laid otherwise, of what is on it -/
theorem g_lay {E : MI × Option FieldType} {st1 : List AV} (hE : m_at MT S.1.1 S.1.2.1 = some E) (hin : ∀ a ∈ st1, a ∈ S.1.2.2.2)
    (hst : ∀ vs lv cst F, (∀ a ∈ s_av S, okA Γ sets vs a) → cst.map some = S.1.2.2.2.map (fun a => vs[a.1]?) → ∃ t, m_one ro fty dfl E.1 F lv cst = some (F, E.1.1 + E.1.2.2.1, lv, t) ∧ t.map some = st1.map (fun a => vs[a.1]?))
    (h : Good Γ sets roles ms MT ro fty dfl vs0 F0 Q d (s_top S (E.1.1 + E.1.2.2.1) S.1.2.2.1 st1)) : Good Γ sets roles ms MT ro fty dfl vs0 F0 Q d S := by
  intro vs f fs F hp hS hW hF
  obtain ⟨lv, cst, rfl, hl, hc1, hc2⟩ := hS.frame
  obtain ⟨t, h1, h2⟩ := hst vs lv cst F hS.1 hc1
  exact TT.one hE h1 (h vs (S.1.1, E.1.1 + E.1.2.2.1, lv, t) fs F hp (hS.top hl (fun b hb => hc2 b (hin b hb)) h2) hW hF)
theorem g_stk {E : MI × Option FieldType} {st1 : List AV} (hE : m_at MT S.1.1 S.1.2.1 = some E) (hx : x_stk E.1.2.1 S.1.2.2.2 = some st1)
    (h : Good Γ sets roles ms MT ro fty dfl vs0 F0 Q d (s_top S (E.1.1 + E.1.2.2.1) S.1.2.2.1 st1)) : Good Γ sets roles ms MT ro fty dfl vs0 F0 Q d S := by
  cases hi : E.1.2.1 <;> rw [hi] at hx <;> simp only [x_stk, reduceCtorEq] at hx
  case dup =>
    split at hx
    · rename_i a r hs
      split at hx
      · cases hx
      · rename_i hk
        cases hx
        refine g_lay hE (fun b hb => ?_) (fun vs lv cst F hall hc => ?_) h
        · rw [hs]; simp only [List.mem_cons] at hb ⊢; grind
        rw [hs] at hc
        obtain ⟨v, t, rfl, q1, q2⟩ := stk1 hc
        have hcat := okA_cat1 (hall a (mem_top (by rw [hs]; simp))) q1 hk
        exact ⟨v :: v :: t, one_alu (by rw [hi]; simp) (by rw [hi]; simp [m_alu, m_b32, m_d32, m_b64, m_d64, m_u32, m_stk, hcat]) F lv, by simp [q1, q2]⟩
    · cases hx
  case pop =>
    split at hx
    · rename_i a r hs
      split at hx
      · cases hx
      · rename_i hk
        cases hx
        refine g_lay hE (fun b hb => ?_) (fun vs lv cst F hall hc => ?_) h
        · rw [hs]; simp only [List.mem_cons] at hb ⊢; grind
        rw [hs] at hc
        obtain ⟨v, t, rfl, q1, q2⟩ := stk1 hc
        have hcat := okA_cat1 (hall a (mem_top (by rw [hs]; simp))) q1 hk
        exact ⟨t, one_alu (by rw [hi]; simp) (by rw [hi]; simp [m_alu, m_b32, m_d32, m_b64, m_d64, m_u32, m_stk, hcat]) F lv, q2⟩
    · cases hx
  case pop2 =>
    split at hx
    · rename_i a r hs
      split at hx
      · rename_i hk
        cases hx
        refine g_lay hE (fun b hb => ?_) (fun vs lv cst F hall hc => ?_) h
        · rw [hs]; simp only [List.mem_cons] at hb ⊢; grind
        rw [hs] at hc
        obtain ⟨v, t, rfl, q1, q2⟩ := stk1 hc
        have hcat := (okA_cat (hall a (mem_top (by rw [hs]; simp))) q1).mpr hk
        exact ⟨t, one_alu (by rw [hi]; simp) (by rw [hi]; simp [m_alu, m_b32, m_d32, m_b64, m_d64, m_u32, m_stk, hcat]) F lv, q2⟩
      · cases hx
    · cases hx
  case dup_x1 =>
    split at hx
    · rename_i a b r hs
      split at hx
      · cases hx
      · rename_i hk
        cases hx
        refine g_lay hE (fun c hb => ?_) (fun vs lv cst F hall hc => ?_) h
        · rw [hs]; simp only [List.mem_cons] at hb ⊢; grind
        rw [hs] at hc
        obtain ⟨v, t, rfl, q1, q2⟩ := stk1 hc
        obtain ⟨w, t, rfl, q3, q4⟩ := stk1 q2
        have c1 := okA_cat1 (hall a (mem_top (by rw [hs]; simp))) q1 (fun z => hk (Or.inl z))
        have c2 := okA_cat1 (hall b (mem_top (by rw [hs]; simp))) q3 (fun z => hk (Or.inr z))
        exact ⟨v :: w :: v :: t, one_alu (by rw [hi]; simp) (by rw [hi]; simp [m_alu, m_b32, m_d32, m_b64, m_d64, m_u32, m_stk, c1, c2]) F lv, by simp [q1, q3, q4]⟩
    · cases hx
  case dup_x2 =>
    split at hx
    · rename_i a b c r hs
      split at hx
      · cases hx
      · rename_i hk
        cases hx
        refine g_lay hE (fun c hb => ?_) (fun vs lv cst F hall hc => ?_) h
        · rw [hs]; simp only [List.mem_cons] at hb ⊢; grind
        rw [hs] at hc
        obtain ⟨v, t, rfl, q1, q2⟩ := stk1 hc
        obtain ⟨w, t, rfl, q3, q4⟩ := stk1 q2
        obtain ⟨u, t, rfl, q5, q6⟩ := stk1 q4
        have c1 := okA_cat1 (hall a (mem_top (by rw [hs]; simp))) q1 (fun z => hk (Or.inl z))
        have c2 := okA_cat1 (hall b (mem_top (by rw [hs]; simp))) q3 (fun z => hk (Or.inr (Or.inl z)))
        have c3 := okA_cat1 (hall c (mem_top (by rw [hs]; simp))) q5 (fun z => hk (Or.inr (Or.inr z)))
        exact ⟨v :: w :: u :: v :: t, one_alu (by rw [hi]; simp) (by rw [hi]; simp [m_alu, m_b32, m_d32, m_b64, m_d64, m_u32, m_stk, c1, c2, c3]) F lv, by simp [q1, q3, q5, q6]⟩
    · cases hx
  case dup2 =>
    split at hx
    · rename_i a b r hs
      split at hx
      · cases hx
      · rename_i hk
        cases hx
        refine g_lay hE (fun c hb => ?_) (fun vs lv cst F hall hc => ?_) h
        · rw [hs]; simp only [List.mem_cons] at hb ⊢; grind
        rw [hs] at hc
        obtain ⟨v, t, rfl, q1, q2⟩ := stk1 hc
        obtain ⟨w, t, rfl, q3, q4⟩ := stk1 q2
        have c1 := okA_cat1 (hall a (mem_top (by rw [hs]; simp))) q1 (fun z => hk (Or.inl z))
        have c2 := okA_cat1 (hall b (mem_top (by rw [hs]; simp))) q3 (fun z => hk (Or.inr z))
        exact ⟨v :: w :: v :: w :: t, one_alu (by rw [hi]; simp) (by rw [hi]; simp [m_alu, m_b32, m_d32, m_b64, m_d64, m_u32, m_stk, c1, c2]) F lv, by simp [q1, q3, q4]⟩
    · cases hx
/-- a shift by nothing -/
theorem g_shr0 {E : MI × Option FieldType} {x y : AV} {r : List AV} (hE : m_at MT S.1.1 S.1.2.1 = some E) (hi : E.1.2.1 = .ishr) (hst : S.1.2.2.2 = y :: x :: r) (kx : k_is x.2.1 0 = true) (hy : y.2.1 = 0 ∧ y.2.2.1 = 0 ∧ y.2.2.2.1 = 0)
    (h : Good Γ sets roles ms MT ro fty dfl vs0 F0 Q d (s_top S (E.1.1 + E.1.2.2.1) S.1.2.2.1 (x :: r))) : Good Γ sets roles ms MT ro fty dfl vs0 F0 Q d S := by
  refine g_lay hE (fun b hb => ?_) (fun vs lv cst F hall hc => ?_) h
  · rw [hst]; simp only [List.mem_cons] at hb ⊢; grind
  rw [hst] at hc
  obtain ⟨w, t1, rfl, q2, q3⟩ := stk1 hc
  obtain ⟨v, t2, rfl, q5, q6⟩ := stk1 q3
  obtain ⟨v', p1, p2, -⟩ := hall x (mem_top (by rw [hst]; simp))
  obtain ⟨w', p3, p4, -⟩ := hall y (mem_top (by rw [hst]; simp))
  obtain rfl : v' = v := Option.some.inj (p1.symm.trans q5)
  obtain rfl : w' = w := Option.some.inj (p3.symm.trans q2)
  obtain ⟨a, rfl⟩ := (k_is_int p2 kx).1
  have e1 := isC_spec (a := y) (by simp only [isC, hy.1, hy.2.1, hy.2.2]; rfl) p4
  rw [hy.2.1] at e1
  have e0 : Int32.ofInt 0 = 0 := rfl
  rw [e0] at e1
  subst e1
  refine ⟨.int a :: t2, one_alu (Or.inl (by rw [hi]; rfl)) (by rw [hi, alu_b32 (f := fun x y => x >>> (y &&& 31)) rfl a 0 t2]; simp only [sb_shr0]) F lv, ?_⟩
  simp [q5, q6]
theorem store_one {E : MI} {i c : Nat} {v : Value} (h : st_ix E.2.1 = some (i, c)) (hc : (c = 0 → isI v) ∧ (c = 1 → isJ v) ∧ (c = 2 → ∃ a, v = .ref a)) (F : MH) (lv : LVs) (t : List Value) : m_one ro fty dfl E F lv (v :: t) = some (F, E.1 + E.2.2.1, if c = 1 then m_put2 lv i v else m_put1 lv i v, t) := by
  obtain ⟨pc, ins, len, a0, b0, z0⟩ := E
  simp only at h
  cases ins <;> simp only [st_ix, Option.some.injEq, Prod.mk.injEq, reduceCtorEq] at h <;> obtain ⟨h1, h2⟩ := h <;> subst h1 <;> subst h2
  all_goals first
    | (obtain ⟨x, rfl⟩ := hc.1 rfl; rfl)
    | (obtain ⟨x, rfl⟩ := hc.2.1 rfl; rfl)
    | (obtain ⟨x, rfl⟩ := hc.2.2 rfl; rfl)
theorem m_get_put2 {lv : LVs} {i j : Nat} {v w : Value} (h : m_get lv j = some w) (hne : ¬ j = i) (hne2 : ¬ j = i + 1) (hc : ¬ (j + 1 = i ∧ w.category = 2)) : m_get (m_put2 lv i v) j = some w := by
  unfold m_get m_put2 at *
  cases hf : lv.find? (fun q => q.1 == j) with
  | none => rw [hf] at h; cases h
  | some q =>
    rw [hf] at h
    have e1 : q.2 = w := Option.some.inj h
    have e2 : q.1 = j := by have := List.find?_some hf; simpa using this
    have key : (lv.filter (fun q => !(q.1 == i) && (!(q.1 == i + 1) && !(q.1 + 1 == i && q.2.category == 2)))).find? (fun q => q.1 == j) = some q := by
      rw [List.find?_filter]
      rw [List.find?_eq_some_iff_append] at hf ⊢
      obtain ⟨h1, as, bs, h2, h3⟩ := hf
      refine ⟨?_, as, bs, h2, fun x hx => ?_⟩
      · rw [e2, e1]
        simp only [Bool.and_eq_true, Bool.not_eq_true', beq_eq_false_iff_ne, ne_eq, decide_eq_true_eq, beq_iff_eq, Bool.and_eq_false_iff]
        refine ⟨⟨hne, hne2, ?_⟩, trivial⟩
        by_cases q1 : j + 1 = i
        · exact Or.inr (fun z => hc ⟨q1, z⟩)
        · exact Or.inl q1
      · have := h3 x hx
        simp only [Bool.not_eq_true', beq_eq_false_iff_ne, ne_eq] at this
        simp only [this, beq_iff_eq, and_false, decide_false, Bool.not_false]
    rw [List.find?_cons]
    have hij : (i == j) = false := by simp only [beq_eq_false_iff_ne, ne_eq]; exact fun z => hne z.symm
    simp only [hij]
    rw [key]
    exact congrArg some e1
theorem m_get_same2 {lv : LVs} {i : Nat} {v : Value} : m_get (m_put2 lv i v) i = some v := by
  unfold m_get m_put2
  rw [List.find?_cons]
  simp
theorem lc_put1 {vs : List Value} {lc : List (Nat × AV)} {lv : LVs} {i : Nat} {a : AV} {v : Value} (hl : ∀ q ∈ lc, okA Γ sets vs q.2 ∧ ∃ v, vs[q.2.1]? = some v ∧ m_get lv q.1 = some v) (ha : okA Γ sets vs a) (hv : vs[a.1]? = some v) : ∀ q ∈ x_put1 lc i a, okA Γ sets vs q.2 ∧ ∃ w, vs[q.2.1]? = some w ∧ m_get (m_put1 lv i v) q.1 = some w := by
  intro q hq
  rcases List.mem_cons.mp hq with rfl | hq
  · exact ⟨ha, v, hv, m_get_same1⟩
  · obtain ⟨h1, h2⟩ := List.mem_filter.mp hq
    obtain ⟨q1, w, q2, q3⟩ := hl q h1
    simp only [Bool.and_eq_true, Bool.not_eq_true', beq_eq_false_iff_ne, ne_eq, Bool.and_eq_false_iff] at h2
    refine ⟨q1, w, q2, m_get_put1 q3 h2.1 ?_⟩
    rintro ⟨z1, z2⟩
    rcases h2.2 with z | z
    · exact z z1
    · exact z ((okA_cat q1 q2).mp z2)
theorem lc_put2 {vs : List Value} {lc : List (Nat × AV)} {lv : LVs} {i : Nat} {a : AV} {v : Value} (hl : ∀ q ∈ lc, okA Γ sets vs q.2 ∧ ∃ v, vs[q.2.1]? = some v ∧ m_get lv q.1 = some v) (ha : okA Γ sets vs a) (hv : vs[a.1]? = some v) : ∀ q ∈ x_put2 lc i a, okA Γ sets vs q.2 ∧ ∃ w, vs[q.2.1]? = some w ∧ m_get (m_put2 lv i v) q.1 = some w := by
  intro q hq
  rcases List.mem_cons.mp hq with rfl | hq
  · exact ⟨ha, v, hv, m_get_same2⟩
  · obtain ⟨h1, h2⟩ := List.mem_filter.mp hq
    obtain ⟨q1, w, q2, q3⟩ := hl q h1
    simp only [Bool.and_eq_true, Bool.not_eq_true', beq_eq_false_iff_ne, ne_eq, Bool.and_eq_false_iff] at h2
    refine ⟨q1, w, q2, m_get_put2 q3 h2.1 h2.2.1 ?_⟩
    rintro ⟨z1, z2⟩
    rcases h2.2.2 with z | z
    · exact z z1
    · exact z ((okA_cat q1 q2).mp z2)
theorem g_store {E : MI × Option FieldType} {i c : Nat} {a : AV} {r : List AV} (hE : m_at MT S.1.1 S.1.2.1 = some E) (hi : st_ix E.1.2.1 = some (i, c)) (hst : S.1.2.2.2 = a :: r) (hk : k_is a.2.1 c = true)
    (h : Good Γ sets roles ms MT ro fty dfl vs0 F0 Q d (s_top S (E.1.1 + E.1.2.2.1) (if c = 1 then x_put2 S.1.2.2.1 i a else x_put1 S.1.2.2.1 i a) r)) : Good Γ sets roles ms MT ro fty dfl vs0 F0 Q d S := by
  intro vs f fs F hp hS hW hF
  obtain ⟨lv, cst, rfl, hl, hc1, hc2⟩ := hS.frame
  rw [hst] at hc1
  obtain ⟨v, t, rfl, q1, q2⟩ := stk1 hc1
  have oa := hc2 a (by rw [hst]; simp)
  obtain ⟨v', p1, p2, -⟩ := id oa
  obtain rfl : v' = v := Option.some.inj (p1.symm.trans q1)
  refine TT.one hE (store_one hi ⟨fun e => ?_, fun e => ?_, fun e => ?_⟩ F lv t) ?_
  · subst e; exact (k_is_int p2 hk).1
  · subst e; exact (k_is_long p2 hk).1
  · subst e; obtain ⟨⟨x, e1, -⟩, -⟩ := k_is_ref p2 hk; exact ⟨x, e1⟩
  · refine h vs (S.1.1, E.1.1 + E.1.2.2.1, (if c = 1 then m_put2 lv i v' else m_put1 lv i v'), t) fs F hp (hS.top ?_ (fun b hb => hc2 b (by rw [hst]; simp [hb])) q2) hW hF
    split
    · exact lc_put2 hl oa q1
    · exact lc_put1 hl oa q1
end SxJ
end
section
/-! SYMBOLIC RUNS, XI: comparisons -/
def BIG : Int := 1180591620717411303424
/-- in which bounds the difference is when a condition holds (or doesn't) -/
def x_rng (c : ClassFile.Cond) (t : Bool) : List (Int × Int) := match c, t with
  | .eq, true => [(0, 0)]
  | .eq, false => [(-BIG, -1), (1, BIG)]
  | .ne, true => [(-BIG, -1), (1, BIG)]
  | .ne, false => [(0, 0)]
  | .lt, true => [(-BIG, -1)]
  | .lt, false => [(0, BIG)]
  | .ge, true => [(0, BIG)]
  | .ge, false => [(-BIG, -1)]
  | .gt, true => [(1, BIG)]
  | .gt, false => [(-BIG, 0)]
  | .le, true => [(-BIG, 0)]
  | .le, false => [(1, BIG)]
def cz (c : ClassFile.Cond) (p q : Int) : Bool := match c with
  | .eq => decide (p = q)
  | .ne => decide (¬ p = q)
  | .lt => decide (p < q)
  | .ge => decide (q ≤ p)
  | .gt => decide (q < p)
  | .le => decide (p ≤ q)
/-- more is known of how a value differs from others -/
def a_rel (id : Nat) (rs : List (Nat × Int × Int)) (a : AV) : AV := if a.1 = id then (a.1, a.2.1, a.2.2.1, a.2.2.2.1, (rs ++ a.2.2.2.2).take 8) else a
def x_bas (x : AV) (lo hi : Int) : List (Nat × Int × Int) → SS → SS
  | [], S => S
  | r :: t, S => x_bas x lo hi t (s_map (a_cl r.1 (lo - r.2.2) (hi - r.2.1)) S)
/-- a difference that is one number is told of both -/
def x_rr (x y : AV) (D : Int × Int) (S : SS) : SS := if D.1 = D.2 ∧ ¬ y.2.2.1 = y.2.2.2.1 then s_map (a_rel y.1 [(x.1, -D.1, -D.1)]) S else S
def x_ref (x y : AV) (r : Int × Int) (S : SS) : Option SS :=
  let D := i_and (a_diff x y) r
  let xl := max x.2.2.1 (y.2.2.1 + D.1)
  let xh := min x.2.2.2.1 (y.2.2.2.1 + D.2)
  let yl := max y.2.2.1 (x.2.2.1 - D.2)
  let yh := min y.2.2.2.1 (x.2.2.2.1 - D.1)
  if D.1 ≤ D.2 ∧ xl ≤ xh ∧ yl ≤ yh then
    some (x_rr x y D (s_map (a_rel x.1 ((y.1, D.1, D.2) :: sh2 D y.2.2.2.2)) (x_bas y yl yh y.2.2.2.2 (x_bas x xl xh x.2.2.2.2 (s_map (a_cl y.1 yl yh) (s_map (a_cl x.1 xl xh) S))))))
  else none
where sh2 (D : Int × Int) (r : List (Nat × Int × Int)) : List (Nat × Int × Int) := r.map fun q => (q.1, q.2.1 + D.1, q.2.2 + D.2)
section SxK
variable {Γ : Nat → Option Nat} {sets : List (List Int)} {roles : List RD} {ms : Mods} {MT : List MM} {ro : Nat → Option MC} {fty : Nat → Nat → FieldType} {dfl : Nat → List Value} {vs0 : List Value} {F0 : MH} {Q : Option Value → MH → Prop} {d : Nat} {S : SS}
theorem cz_rng {c : ClassFile.Cond} {p q : Int} (hp : -9223372036854775808 ≤ p ∧ p ≤ 9223372036854775807) (hq : -9223372036854775808 ≤ q ∧ q ≤ 9223372036854775807) : ∃ r ∈ x_rng c (cz c p q), i_in (p - q) r := by
  have hb : BIG = 1180591620717411303424 := rfl
  cases c <;> simp only [cz]
  case eq =>
    by_cases h : p = q
    · rw [decide_eq_true h]; exact ⟨(0, 0), by simp [x_rng], by unfold i_in; simp only; omega⟩
    · rw [decide_eq_false h]
      rcases Int.lt_or_gt_of_ne h with g | g
      · exact ⟨(-BIG, -1), by simp [x_rng], by unfold i_in; simp only; omega⟩
      · exact ⟨(1, BIG), by simp [x_rng], by unfold i_in; simp only; omega⟩
  case ne =>
    by_cases h : p = q
    · rw [decide_eq_false (fun z => z h)]; exact ⟨(0, 0), by simp [x_rng], by unfold i_in; simp only; omega⟩
    · rw [decide_eq_true h]
      rcases Int.lt_or_gt_of_ne h with g | g
      · exact ⟨(-BIG, -1), by simp [x_rng], by unfold i_in; simp only; omega⟩
      · exact ⟨(1, BIG), by simp [x_rng], by unfold i_in; simp only; omega⟩
  case lt =>
    by_cases h : p < q
    · rw [decide_eq_true h]; exact ⟨(-BIG, -1), by simp [x_rng], by unfold i_in; simp only; omega⟩
    · rw [decide_eq_false h]; exact ⟨(0, BIG), by simp [x_rng], by unfold i_in; simp only; omega⟩
  case ge =>
    by_cases h : q ≤ p
    · rw [decide_eq_true h]; exact ⟨(0, BIG), by simp [x_rng], by unfold i_in; simp only; omega⟩
    · rw [decide_eq_false h]; exact ⟨(-BIG, -1), by simp [x_rng], by unfold i_in; simp only; omega⟩
  case gt =>
    by_cases h : q < p
    · rw [decide_eq_true h]; exact ⟨(1, BIG), by simp [x_rng], by unfold i_in; simp only; omega⟩
    · rw [decide_eq_false h]; exact ⟨(-BIG, 0), by simp [x_rng], by unfold i_in; simp only; omega⟩
  case le =>
    by_cases h : p ≤ q
    · rw [decide_eq_true h]; exact ⟨(-BIG, 0), by simp [x_rng], by unfold i_in; simp only; omega⟩
    · rw [decide_eq_false h]; exact ⟨(1, BIG), by simp [x_rng], by unfold i_in; simp only; omega⟩
theorem a_rel_id (id : Nat) (rs : List (Nat × Int × Int)) (a : AV) : (a_rel id rs a).1 = a.1 := by
  unfold a_rel; split <;> rfl
theorem x_bas_ok {vs : List Value} {f : CF} {fs : List CF} {F : MH} {x : AV} {v : Value} {lo hi : Int} (hl : lo ≤ vz v) (hh : vz v ≤ hi) : ∀ (rl : List (Nat × Int × Int)), (∀ r ∈ rl, ∃ w, vs[r.1]? = some w ∧ r.2.1 ≤ vz v - vz w ∧ vz v - vz w ≤ r.2.2) → ∀ {S : SS}, okS Γ sets ro vs S f fs F → okS Γ sets ro vs (x_bas x lo hi rl S) f fs F
  | [], _, S, h => h
  | r :: t, hr, S, h => by
    rw [x_bas]
    obtain ⟨w, g1, g2, g3⟩ := hr r List.mem_cons_self
    exact x_bas_ok hl hh t (fun q hq => hr q (List.mem_cons_of_mem _ hq)) (h.cl g1 (by omega) (by omega))
theorem rel_ok {vs : List Value} {f : CF} {fs : List CF} {F : MH} {id : Nat} {rs : List (Nat × Int × Int)} {v : Value} (h : okS Γ sets ro vs S f fs F) (hv : vs[id]? = some v) (hr : ∀ q ∈ rs, ∃ w, vs[q.1]? = some w ∧ q.2.1 ≤ vz v - vz w ∧ vz v - vz w ≤ q.2.2) : okS Γ sets ro vs (s_map (a_rel id rs) S) f fs F := by
  refine h.map _ (a_rel_id _ _) (fun a ha => ?_)
  have oa := h.1 a ha
  unfold a_rel
  split
  · rename_i he
    obtain ⟨u, e1, e2, e3⟩ := oa
    rw [he] at e1
    obtain rfl : u = v := Option.some.inj (e1.symm.trans hv)
    refine ⟨u, by simp only; rw [he]; exact e1, e2, fun q hq => ?_⟩
    rcases List.mem_append.mp (List.mem_of_mem_take hq) with hq | hq
    · exact hr q hq
    · exact e3 q hq
  · exact oa
theorem x_ref_ok {vs : List Value} {f : CF} {fs : List CF} {F : MH} {x y : AV} {v w : Value} {r : Int × Int} (h : okS Γ sets ro vs S f fs F) (hx : okA Γ sets vs x) (hy : okA Γ sets vs y) (nx : ¬ x.2.1 = 2) (ny : ¬ y.2.1 = 2) (hv : vs[x.1]? = some v) (hw : vs[y.1]? = some w) (hr : i_in (vz v - vz w) r) : ∃ S', x_ref x y r S = some S' ∧ okS Γ sets ro vs S' f fs F := by
  have hD : i_in (vz v - vz w) (i_and (a_diff x y) r) := (a_diff_ok hx hy nx ny hv hw).and hr
  unfold x_ref
  simp only
  generalize i_and (a_diff x y) r = D at hD ⊢
  obtain ⟨v', p1, p2, p3⟩ := hx
  obtain ⟨w', p4, p5, p6⟩ := hy
  obtain rfl : v' = v := Option.some.inj (p1.symm.trans hv)
  obtain rfl : w' = w := Option.some.inj (p4.symm.trans hw)
  have n1 := p2.num nx
  have n2 := p5.num ny
  unfold i_in at hD
  have c1 : max x.2.2.1 (y.2.2.1 + D.1) ≤ vz v' := by omega
  have c2 : vz v' ≤ min x.2.2.2.1 (y.2.2.2.1 + D.2) := by omega
  have c3 : max y.2.2.1 (x.2.2.1 - D.2) ≤ vz w' := by omega
  have c4 : vz w' ≤ min y.2.2.2.1 (x.2.2.2.1 - D.1) := by omega
  rw [if_pos ⟨by omega, by omega, by omega⟩]
  refine ⟨_, rfl, ?_⟩
  have h1 := (h.cl hv c1 c2).cl hw c3 c4
  have h2 := x_bas_ok (x := x) c1 c2 x.2.2.2.2 p3 h1
  have h3 := x_bas_ok (x := y) c3 c4 y.2.2.2.2 p6 h2
  have h4 := rel_ok (id := x.1) (rs := (y.1, D.1, D.2) :: x_ref.sh2 D y.2.2.2.2) h3 hv (fun q hq => by
    rcases List.mem_cons.mp hq with rfl | hq
    · exact ⟨w', hw, hD.1, hD.2⟩
    · obtain ⟨q0, k0, rfl⟩ := List.mem_map.mp hq
      obtain ⟨z, k1, k2, k3⟩ := p6 q0 k0
      exact ⟨z, k1, by simp only; omega, by simp only; omega⟩)
  unfold x_rr
  split
  · rename_i he
    exact rel_ok (id := y.1) h4 hw (fun q hq => by
      simp only [List.mem_cons, List.not_mem_nil, or_false] at hq
      subst hq
      exact ⟨v', hv, by simp only; omega, by simp only; omega⟩)
  · exact h4
/-- one way of a comparison; where it would only cut one number out, nothing is told -/
def x_alt (S : SS) (l : List (Int × Int)) (x y : AV) (pc : Nat) (r : List AV) (d : Int × Int) : List SS := if l.length = 2 ∧ d.1 < 0 ∧ 0 < d.2 then [s_top S pc S.1.2.2.1 r] else l.filterMap (fun g => x_ref x y g (s_top S pc S.1.2.2.1 r))
/-- a comparison: all that may be behind it -/
def x_cmp (S : SS) (c : ClassFile.Cond) (x y : AV) (t n : Nat) (r : List AV) : List SS := x_alt S (x_rng c true) x y t r (a_diff x y) ++ x_alt S (x_rng c false) x y n r (a_diff x y)
theorem x_cmp_ok {vs : List Value} {f : CF} {fs : List CF} {F : MH} {x y : AV} {v w : Value} {c : ClassFile.Cond} {t n : Nat} {r : List AV} {lv : LVs} {cst : List Value} (h : ∀ pc, okS Γ sets ro vs (s_top S pc S.1.2.2.1 r) (f.1, pc, lv, cst) fs F) (hx : okA Γ sets vs x) (hy : okA Γ sets vs y) (nx : ¬ x.2.1 = 2) (ny : ¬ y.2.1 = 2) (hv : vs[x.1]? = some v) (hw : vs[y.1]? = some w) (rv : -9223372036854775808 ≤ vz v ∧ vz v ≤ 9223372036854775807) (rw' : -9223372036854775808 ≤ vz w ∧ vz w ≤ 9223372036854775807) : ∃ S' ∈ x_cmp S c x y t n r, okS Γ sets ro vs S' (f.1, if cz c (vz v) (vz w) = true then t else n, lv, cst) fs F := by
  obtain ⟨g, hg1, hg2⟩ := cz_rng (c := c) rv rw'
  have alt : ∀ pc b, g ∈ x_rng c b → ∃ S' ∈ x_alt S (x_rng c b) x y pc r (a_diff x y), okS Γ sets ro vs S' (f.1, pc, lv, cst) fs F := by
    intro pc b hg
    unfold x_alt
    split
    · exact ⟨_, List.mem_cons_self, h pc⟩
    · obtain ⟨S', e1, e2⟩ := x_ref_ok (h pc) hx hy nx ny hv hw hg2
      exact ⟨S', List.mem_filterMap.mpr ⟨g, hg, e1⟩, e2⟩
  cases hb : cz c (vz v) (vz w) with
  | true =>
    rw [hb] at hg1
    rw [if_pos rfl]
    obtain ⟨S', e1, e2⟩ := alt t true hg1
    exact ⟨S', List.mem_append_left _ e1, e2⟩
  | false =>
    rw [hb] at hg1
    rw [if_neg (by decide)]
    obtain ⟨S', e1, e2⟩ := alt n false hg1
    exact ⟨S', List.mem_append_right _ e1, e2⟩
end SxK
end
section
/-! SYMBOLIC RUNS, XII: branches, switches, iinc -/
section SxL
variable {Γ : Nat → Option Nat} {sets : List (List Int)} {roles : List RD} {ms : Mods} {MT : List MM} {ro : Nat → Option MC} {fty : Nat → Nat → FieldType} {dfl : Nat → List Value} {vs0 : List Value} {F0 : MH} {Q : Option Value → MH → Prop} {d : Nat} {S : SS}
theorem cz_cmp (c : ClassFile.Cond) (a b : Int32) : m_cmp c a b = cz c a.toInt b.toInt := by
  cases c <;> simp only [m_cmp, cz, Int32.lt_iff_toInt_lt, Int32.le_iff_toInt_le, ← Int32.toInt_inj]
theorem one_br {E : MI} (h : (∃ o, E.2.1 = .goto o) ∨ (∃ c o, E.2.1 = .ifCond c o) ∨ (∃ c o, E.2.1 = .if_icmp c o) ∨ (∃ d lo hi o, E.2.1 = .tableswitch d lo hi o) ∨ (∃ d o, E.2.1 = .lookupswitch d o)) {st : List Value} {q : Nat × List Value} (hb : m_br E st = some q) (F : MH) (lv : LVs) : m_one ro fty dfl E F lv st = some (F, q.1, lv, q.2) := by
  obtain ⟨pc, i, len, a0, b0, z0⟩ := E
  simp only at h hb
  have h4 : m_alu i st = none := by
    rcases h with ⟨o, rfl⟩ | ⟨c, o, rfl⟩ | ⟨c, o, rfl⟩ | ⟨d, lo, hi, o, rfl⟩ | ⟨d, o, rfl⟩ <;> rfl
  unfold m_one
  have h1 : m_push (pc, i, len, a0, b0, z0) lv = none := by
    rcases h with ⟨o, rfl⟩ | ⟨c, o, rfl⟩ | ⟨c, o, rfl⟩ | ⟨d, lo, hi, o, rfl⟩ | ⟨d, o, rfl⟩ <;> rfl
  have h2 : m_cst (pc, i, len, a0, b0, z0) = none := by
    rcases h with ⟨o, rfl⟩ | ⟨c, o, rfl⟩ | ⟨c, o, rfl⟩ | ⟨d, lo, hi, o, rfl⟩ | ⟨d, o, rfl⟩ <;> rfl
  have h3 : m_store (pc, i, len, a0, b0, z0) lv st = none := by
    rcases h with ⟨o, rfl⟩ | ⟨c, o, rfl⟩ | ⟨c, o, rfl⟩ | ⟨d, lo, hi, o, rfl⟩ | ⟨d, o, rfl⟩ <;> rfl
  rw [h1, h2, h3]
  simp only
  rw [h4]
  simp only
  rw [hb]
theorem m_if_of {pc t : Nat} {off : Int} (ht : m_to pc off = some t) (b : Bool) (r : List Value) : m_if pc off b r = some (if b = true then t else pc + 3, r) := by
  unfold m_if; rw [ht]; rfl
theorem g_goto {E : MI × Option FieldType} {off : Int} {t : Nat} (hE : m_at MT S.1.1 S.1.2.1 = some E) (hi : E.1.2.1 = .goto off) (ht : m_to E.1.1 off = some t)
    (h : Good Γ sets roles ms MT ro fty dfl vs0 F0 Q d (s_top S t S.1.2.2.1 S.1.2.2.2)) : Good Γ sets roles ms MT ro fty dfl vs0 F0 Q d S := by
  intro vs f fs F hp hS hW hF
  obtain ⟨lv, cst, rfl, hl, hc1, hc2⟩ := hS.frame
  exact TT.one hE (one_br (Or.inl ⟨off, hi⟩) (q := (t, cst)) (by unfold m_br; rw [hi]; simp only; rw [ht]; rfl) F lv) (h vs (S.1.1, t, lv, cst) fs F hp (hS.top hl hc2 hc1) hW hF)
theorem g_icmp {E : MI × Option FieldType} {c : ClassFile.Cond} {off : Int} {t : Nat} {x y : AV} {r : List AV} (hE : m_at MT S.1.1 S.1.2.1 = some E) (hi : E.1.2.1 = .if_icmp c off) (ht : m_to E.1.1 off = some t) (hst : S.1.2.2.2 = y :: x :: r) (kx : k_is x.2.1 0 = true) (ky : k_is y.2.1 0 = true)
    (h : ∀ S' ∈ x_cmp S c x y t (E.1.1 + 3) r, Good Γ sets roles ms MT ro fty dfl vs0 F0 Q d S') : Good Γ sets roles ms MT ro fty dfl vs0 F0 Q d S := by
  intro vs f fs F hp hS hW hF
  obtain ⟨lv, cst, rfl, hl, hc1, hc2⟩ := hS.frame
  have ox := hc2 x (by rw [hst]; simp)
  have oy := hc2 y (by rw [hst]; simp)
  rw [hst] at hc1
  obtain ⟨w, t1, rfl, q2, q3⟩ := stk1 hc1
  obtain ⟨v, t2, rfl, q5, q6⟩ := stk1 q3
  obtain ⟨v', p1, p2, -⟩ := id ox
  obtain ⟨w', p3, p4, -⟩ := id oy
  obtain rfl : v' = v := Option.some.inj (p1.symm.trans q5)
  obtain rfl : w' = w := Option.some.inj (p3.symm.trans q2)
  have nx := (k_is_int p2 kx).2
  have ny := (k_is_int p4 ky).2
  obtain ⟨a, rfl⟩ := (k_is_int p2 kx).1
  obtain ⟨b, rfl⟩ := (k_is_int p4 ky).1
  have ra := z_rng a
  have rb := z_rng b
  obtain ⟨S', hm, ho⟩ := x_cmp_ok (S := S) (c := c) (t := t) (n := E.1.1 + 3) (f := (S.1.1, S.1.2.1, lv, Value.int b :: Value.int a :: t2)) (fun pc => hS.top (pc := pc) hl (fun b hb => hc2 b (by rw [hst]; simp [hb])) q6) ox oy nx ny q5 q2 (by simp only [vz]; omega) (by simp only [vz]; omega)
  refine TT.one hE (one_br (Or.inr (Or.inr (Or.inl ⟨c, off, hi⟩))) (q := (if cz c (vz (.int a)) (vz (.int b)) = true then t else E.1.1 + 3, t2)) (by unfold m_br; rw [hi]; simp only; rw [m_if_of ht, cz_cmp]; rfl) F lv) ?_
  exact h S' hm vs _ fs F hp ho hW hF
theorem g_if {E : MI × Option FieldType} {c : ClassFile.Cond} {off : Int} {t : Nat} {x : AV} {r : List AV} (hE : m_at MT S.1.1 S.1.2.1 = some E) (hi : E.1.2.1 = .ifCond c off) (ht : m_to E.1.1 off = some t) (hst : S.1.2.2.2 = x :: r) (kx : k_is x.2.1 0 = true)
    (h : ∀ S' ∈ x_cmp (s_up S) c x (S.2.2.2.2.2, 0, 0, 0, []) t (E.1.1 + 3) r, Good Γ sets roles ms MT ro fty dfl vs0 F0 Q d S') : Good Γ sets roles ms MT ro fty dfl vs0 F0 Q d S := by
  intro vs f fs F hp hS hW hF
  obtain ⟨lv, cst, rfl, hl, hc1, hc2⟩ := hS.frame
  have ox := hc2 x (by rw [hst]; simp)
  rw [hst] at hc1
  obtain ⟨v, t2, rfl, q5, q6⟩ := stk1 hc1
  obtain ⟨v', p1, p2, -⟩ := id ox
  obtain rfl : v' = v := Option.some.inj (p1.symm.trans q5)
  have nx := (k_is_int p2 kx).2
  obtain ⟨a, rfl⟩ := (k_is_int p2 kx).1
  have ra := z_rng a
  have hn := hS.2.2.2.2.2.2
  have e0 : (vs ++ [Value.int 0])[S.2.2.2.2.2]? = some (.int 0) := by rw [hn]; simp
  have oy : okA Γ sets (vs ++ [Value.int 0]) (S.2.2.2.2.2, 0, 0, 0, []) := ⟨_, e0, okE_int (by rw [Int32.toInt_zero]; exact Int.le_refl _) (by rw [Int32.toInt_zero]; exact Int.le_refl _), fun r hr => by cases hr⟩
  obtain ⟨S', hm, ho⟩ := x_cmp_ok (S := s_up S) (c := c) (t := t) (n := E.1.1 + 3) (f := (S.1.1, S.1.2.1, lv, Value.int a :: t2)) (vs := vs ++ [Value.int 0]) (r := r) (lv := lv) (cst := t2) (fun pc => (hS.up (.int 0)).top (pc := pc) (fun q hq => by obtain ⟨q1, w, q2, q3⟩ := hl q hq; exact ⟨q1.app _, w, get_app q2, q3⟩) (fun b hb => (hc2 b (by rw [hst]; simp [hb])).app _) (by
    rw [q6]
    apply List.map_congr_left
    intro b hb
    obtain ⟨w, hw⟩ := (hc2 b (by rw [hst]; simp [hb])).get
    rw [hw, get_app hw])) (ox.app _) oy nx (by simp) (get_app q5) e0 (by simp only [vz]; omega) (by simp only [vz, Int32.toInt_zero]; omega)
  refine TT.one hE (one_br (Or.inr (Or.inl ⟨c, off, hi⟩)) (q := (if cz c (vz (.int a)) (vz (.int 0)) = true then t else E.1.1 + 3, t2)) (by unfold m_br; rw [hi]; simp only; rw [m_if_of ht, cz_cmp]; rfl) F lv) ?_
  exact h S' hm (vs ++ [Value.int 0]) _ fs F (pre_app hp _) ho hW hF
theorem lg_cz (c : ClassFile.Cond) (a b : Int64) : m_cmp c (lg_cmp a b) 0 = cz c a.toInt b.toInt := by
  have key : lg_cmp a b = if b.toInt < a.toInt then 1 else if a.toInt = b.toInt then 0 else -1 := by
    unfold lg_cmp
    simp only [gt_iff_lt, Int64.lt_iff_toInt_lt, ← Int64.toInt_inj]
  rw [key, cz_cmp]
  split
  · have e : (1 : Int32).toInt = 1 := by decide
    rw [e, Int32.toInt_zero]
    cases c <;> simp only [cz] <;> apply decide_eq_decide.mpr <;> omega
  · split
    · rename_i he
      rw [Int32.toInt_zero, he]
      cases c <;> simp [cz]
    · have e : (-1 : Int32).toInt = -1 := by decide
      rw [e, Int32.toInt_zero]
      cases c <;> simp only [cz] <;> apply decide_eq_decide.mpr <;> omega
/-- longs are compared, and the branch behind it -/
theorem g_lcmp {E E2 : MI × Option FieldType} {c : ClassFile.Cond} {off : Int} {t : Nat} {x y : AV} {r : List AV} (hE : m_at MT S.1.1 S.1.2.1 = some E) (hi0 : E.1.2.1 = .lcmp) (hE2 : m_at MT S.1.1 (E.1.1 + E.1.2.2.1) = some E2) (hi : E2.1.2.1 = .ifCond c off) (ht : m_to E2.1.1 off = some t) (hst : S.1.2.2.2 = y :: x :: r) (kx : k_is x.2.1 1 = true) (ky : k_is y.2.1 1 = true)
    (h : ∀ S' ∈ x_cmp S c x y t (E2.1.1 + 3) r, Good Γ sets roles ms MT ro fty dfl vs0 F0 Q d S') : Good Γ sets roles ms MT ro fty dfl vs0 F0 Q d S := by
  intro vs f fs F hp hS hW hF
  obtain ⟨lv, cst, rfl, hl, hc1, hc2⟩ := hS.frame
  have ox := hc2 x (by rw [hst]; simp)
  have oy := hc2 y (by rw [hst]; simp)
  rw [hst] at hc1
  obtain ⟨w, t1, rfl, q2, q3⟩ := stk1 hc1
  obtain ⟨v, t2, rfl, q5, q6⟩ := stk1 q3
  obtain ⟨v', p1, p2, -⟩ := id ox
  obtain ⟨w', p3, p4, -⟩ := id oy
  obtain rfl : v' = v := Option.some.inj (p1.symm.trans q5)
  obtain rfl : w' = w := Option.some.inj (p3.symm.trans q2)
  have nx : ¬ x.2.1 = 2 := by have := (k_is_long p2 kx).2; omega
  have ny : ¬ y.2.1 = 2 := by have := (k_is_long p4 ky).2; omega
  obtain ⟨a, rfl⟩ := (k_is_long p2 kx).1
  obtain ⟨b, rfl⟩ := (k_is_long p4 ky).1
  obtain ⟨S', hm, ho⟩ := x_cmp_ok (S := S) (c := c) (t := t) (n := E2.1.1 + 3) (f := (S.1.1, S.1.2.1, lv, Value.long b :: Value.long a :: t2)) (fun pc => hS.top (pc := pc) hl (fun b hb => hc2 b (by rw [hst]; simp [hb])) q6) ox oy nx ny q5 q2 (z_rngL a) (z_rngL b)
  refine TT.one hE (one_alu (by rw [hi0]; simp) (st1 := .int (lg_cmp a b) :: t2) (by rw [hi0]; rfl) F lv) ?_
  refine TT.one hE2 (one_br (Or.inr (Or.inl ⟨c, off, hi⟩)) (q := (if cz c (vz (.long a)) (vz (.long b)) = true then t else E2.1.1 + 3, t2)) (by unfold m_br; rw [hi]; simp only; rw [m_if_of ht, lg_cz]; rfl) F lv) ?_
  exact h S' hm vs _ fs F hp ho hW hF
end SxL
end
section
/-! SYMBOLIC RUNS, XIII: switches, iinc -/
/-- the operand of a switch is between bounds: there -/
def x_key (S : SS) (x : AV) (l h : Int) (t : Nat) (r : List AV) : SS := x_bas x l h x.2.2.2.2 (s_map (a_cl x.1 l h) (s_top S t S.1.2.2.1 r))
/-- a row of cases: key from here on -/
def x_tb (S : SS) (pc : Nat) (x : AV) (r : List AV) : Int → List Int → Option (List SS)
  | _, [] => some []
  | k, o :: os => match m_to pc o, x_tb S pc x r (k + 1) os with
    | some t, some L => some (if x.2.2.1 ≤ k ∧ k ≤ x.2.2.2.1 then x_key S x k k t r :: L else L)
    | _, _ => none
def x_lk (S : SS) (pc : Nat) (x : AV) (r : List AV) : List (Int × Int) → Option (List SS)
  | [] => some []
  | q :: qs => match m_to pc q.2, x_lk S pc x r qs with
    | some t, some L => some (if x.2.2.1 ≤ q.1 ∧ q.1 ≤ x.2.2.2.1 then x_key S x q.1 q.1 t r :: L else L)
    | _, _ => none
/-- all that may be behind a switch -/
def x_sw (S : SS) (E : MI) (x : AV) (r : List AV) : Option (List SS) := match E.2.1 with
  | .tableswitch d lo hi offs => if hi < lo + offs.size then (match m_to E.1 d, x_tb S E.1 x r lo offs.toList with
    | some t, some L => some ((if x.2.2.1 < lo then [x_key S x x.2.2.1 (min x.2.2.2.1 (lo - 1)) t r] else []) ++ ((if hi < x.2.2.2.1 then [x_key S x (max x.2.2.1 (hi + 1)) x.2.2.2.1 t r] else []) ++ L))
    | _, _ => none) else none
  | .lookupswitch d ps => if (ps.toList.zip (ps.toList.drop 1)).all (fun q => decide (q.1.1 < q.2.1)) = true then (match m_to E.1 d, x_lk S E.1 x r ps.toList with
    | some t, some L => some (x_key S x x.2.2.1 x.2.2.2.1 t r :: L)
    | _, _ => none) else none
  | _ => none
section SxM
variable {Γ : Nat → Option Nat} {sets : List (List Int)} {roles : List RD} {ms : Mods} {MT : List MM} {ro : Nat → Option MC} {fty : Nat → Nat → FieldType} {dfl : Nat → List Value} {vs0 : List Value} {F0 : MH} {Q : Option Value → MH → Prop} {d : Nat} {S : SS}
theorem x_tb_ok {pc : Nat} {x : AV} {r : List AV} : ∀ (os : List Int) (k : Int) (L : List SS), x_tb S pc x r k os = some L → ∀ (j : Nat) (o : Int), os[j]? = some o → x.2.2.1 ≤ k + j → k + j ≤ x.2.2.2.1 → ∃ t, m_to pc o = some t ∧ x_key S x (k + j) (k + j) t r ∈ L
  | [], k, L, h, j, o, hj, _, _ => by simp at hj
  | o1 :: os, k, L, h, j, o, hj, h1, h2 => by
    rw [x_tb] at h
    split at h
    · rename_i t L1 ht hL
      cases h
      cases j with
      | zero =>
        simp only [List.getElem?_cons_zero, Option.some.injEq] at hj
        subst hj
        simp only [Int.natCast_zero, Int.add_zero] at h1 h2 ⊢
        rw [if_pos ⟨h1, h2⟩]
        exact ⟨t, ht, List.mem_cons_self⟩
      | succ j =>
        rw [List.getElem?_cons_succ] at hj
        have e : k + ((j + 1 : Nat) : Int) = k + 1 + (j : Int) := by omega
        rw [e] at h1 h2 ⊢
        obtain ⟨t2, g1, g2⟩ := x_tb_ok os (k + 1) L1 hL j o hj h1 h2
        refine ⟨t2, g1, ?_⟩
        split
        · exact List.mem_cons_of_mem _ g2
        · exact g2
    · cases h
theorem x_lk_ok {pc : Nat} {x : AV} {r : List AV} {z d : Int} (h1 : x.2.2.1 ≤ z) (h2 : z ≤ x.2.2.2.1) : ∀ (qs : List (Int × Int)) (L : List SS), x_lk S pc x r qs = some L → Op.lookupswitch.offset qs d z = d ∨ ∃ t, m_to pc (Op.lookupswitch.offset qs d z) = some t ∧ x_key S x z z t r ∈ L
  | [], L, h => Or.inl rfl
  | q :: qs, L, h => by
    rw [x_lk] at h
    split at h
    · rename_i t L1 ht hL
      cases h
      obtain ⟨a, o⟩ := q
      rw [Op.lookupswitch.offset_cons]
      by_cases e : a = z
      · rw [if_pos e]
        subst e
        simp only at ht ⊢
        exact Or.inr ⟨t, ht, by rw [if_pos ⟨h1, h2⟩]; exact List.mem_cons_self⟩
      · rw [if_neg e]
        rcases x_lk_ok (d := d) h1 h2 qs L1 hL with g | ⟨t2, g1, g2⟩
        · exact Or.inl g
        · refine Or.inr ⟨t2, g1, ?_⟩
          split
          · exact List.mem_cons_of_mem _ g2
          · exact g2
    · cases h
theorem g_sw {E : MI × Option FieldType} {x : AV} {r : List AV} {L : List SS} (hE : m_at MT S.1.1 S.1.2.1 = some E) (hst : S.1.2.2.2 = x :: r) (kx : k_is x.2.1 0 = true) (hL : x_sw S E.1 x r = some L)
    (h : ∀ S' ∈ L, Good Γ sets roles ms MT ro fty dfl vs0 F0 Q d S') : Good Γ sets roles ms MT ro fty dfl vs0 F0 Q d S := by
  intro vs f fs F hp hS hW hF
  obtain ⟨lv, cst, rfl, hl, hc1, hc2⟩ := hS.frame
  have ox := hc2 x (by rw [hst]; simp)
  rw [hst] at hc1
  obtain ⟨v, t2, rfl, q5, q6⟩ := stk1 hc1
  obtain ⟨v', p1, p2, p3⟩ := id ox
  obtain rfl : v' = v := Option.some.inj (p1.symm.trans q5)
  have nx := (k_is_int p2 kx).2
  have n1 := p2.num nx
  obtain ⟨a, rfl⟩ := (k_is_int p2 kx).1
  have fin : ∀ (l h2 : Int) (t : Nat), x_key S x l h2 t r ∈ L → l ≤ a.toInt → a.toInt ≤ h2 → m_br E.1 (.int a :: t2) = some (t, t2) → ((∃ d lo hi o, E.1.2.1 = .tableswitch d lo hi o) ∨ (∃ d o, E.1.2.1 = .lookupswitch d o)) → RR MT ro fty dfl d (S.1.1, S.1.2.1, lv, Value.int a :: t2) fs F Q := by
    intro l h2 t hm hl1 hh1 hb hk
    refine TT.one hE (one_br (Or.inr (Or.inr (Or.inr hk))) hb F lv) ?_
    refine h _ hm vs (S.1.1, t, lv, t2) fs F hp ?_ hW hF
    have h0 := hS.top (pc := t) hl (fun b hb => hc2 b (by rw [hst]; simp [hb])) q6
    exact x_bas_ok (x := x) (v := .int a) hl1 hh1 x.2.2.2.2 p3 (h0.cl q5 hl1 hh1)
  simp only [vz] at n1
  unfold x_sw at hL
  split at hL
  · rename_i dd lo hi offs hi0
    split at hL
    · rename_i hsz
      split at hL
      · rename_i t L1 ht hL1
        cases hL
        have hk : (∃ d lo hi o, E.1.2.1 = .tableswitch d lo hi o) ∨ (∃ d o, E.1.2.1 = .lookupswitch d o) := Or.inl ⟨dd, lo, hi, offs, hi0⟩
        by_cases c1 : a.toInt < lo
        · exact fin x.2.2.1 (min x.2.2.2.1 (lo - 1)) t (by rw [if_pos (by omega)]; simp) (by omega) (by omega) (by unfold m_br; rw [hi0]; simp only; rw [if_pos (Or.inl c1), ht]; rfl) hk
        by_cases c2 : hi < a.toInt
        · exact fin (max x.2.2.1 (hi + 1)) x.2.2.2.1 t (by rw [if_pos (show hi < x.2.2.2.1 by omega)]; simp) (by omega) (by omega) (by unfold m_br; rw [hi0]; simp only; rw [if_pos (Or.inr c2), ht]; rfl) hk
        have hj : (a.toInt - lo).toNat < offs.size := by omega
        have ho : offs.toList[(a.toInt - lo).toNat]? = some offs[(a.toInt - lo).toNat] := by rw [Array.getElem?_toList]; exact Array.getElem?_eq_getElem hj
        obtain ⟨t3, g1, g2⟩ := x_tb_ok offs.toList lo L1 hL1 _ _ ho (by omega) (by omega)
        have e : lo + ((a.toInt - lo).toNat : Int) = a.toInt := by omega
        rw [e] at g2
        refine fin a.toInt a.toInt t3 (List.mem_append_right _ (List.mem_append_right _ g2)) (Int.le_refl _) (Int.le_refl _) ?_ hk
        unfold m_br
        rw [hi0]
        simp only
        rw [if_neg (by omega), Array.getElem?_eq_getElem hj]
        simp only
        rw [g1]; rfl
      · cases hL
    · cases hL
  · rename_i dd ps hi0
    split at hL
    · rename_i hso
      split at hL
      · rename_i t L1 ht hL1
        cases hL
        have hk : (∃ d lo hi o, E.1.2.1 = .tableswitch d lo hi o) ∨ (∃ d o, E.1.2.1 = .lookupswitch d o) := Or.inr ⟨dd, ps, hi0⟩
        rcases x_lk_ok (d := dd) (z := a.toInt) n1.1 n1.2 ps.toList L1 hL1 with g | ⟨t3, g1, g2⟩
        · exact fin x.2.2.1 x.2.2.2.1 t List.mem_cons_self n1.1 n1.2 (by unfold m_br; rw [hi0]; simp only; rw [if_pos hso, g, ht]; rfl) hk
        · exact fin a.toInt a.toInt t3 (List.mem_cons_of_mem _ g2) (Int.le_refl _) (Int.le_refl _) (by unfold m_br; rw [hi0]; simp only; rw [if_pos hso, g1]; rfl) hk
      · cases hL
    · cases hL
  · cases hL
/-- a local grows -/
def x_ic (a : AV) (c : Int) (n : Nat) : AV := if -2147483648 ≤ a.2.2.1 + c ∧ a.2.2.2.1 + c ≤ 2147483647 then (n, 0, a.2.2.1 + c, a.2.2.2.1 + c, (a.1, c, c) :: (sh c a.2.2.2.2).take 4) else (n, 0, -2147483648, 2147483647, [])
theorem g_iinc {E : MI × Option FieldType} {i : Nat} {c : Int} {a : AV} (hE : m_at MT S.1.1 S.1.2.1 = some E) (hi : E.1.2.1 = .iinc i c) (hc0 : -2147483648 ≤ c ∧ c ≤ 2147483647) (ha : x_get S.1.2.2.1 i = some a) (hk : k_is a.2.1 0 = true)
    (h : Good Γ sets roles ms MT ro fty dfl vs0 F0 Q d (s_top (s_up S) (E.1.1 + E.1.2.2.1) (x_put1 S.1.2.2.1 i (x_ic a c S.2.2.2.2.2)) S.1.2.2.2)) : Good Γ sets roles ms MT ro fty dfl vs0 F0 Q d S := by
  intro vs f fs F hp hS hW hF
  obtain ⟨lv, cst, rfl, hl, hc1, hc2⟩ := hS.frame
  obtain ⟨oa, v, hv, hg⟩ := hl _ (x_get_mem ha)
  simp only at oa hv hg
  obtain ⟨v', p1, p2, p3⟩ := oa
  obtain rfl : v' = v := Option.some.inj (p1.symm.trans hv)
  have n1 := p2.num (k_is_int p2 hk).2
  obtain ⟨x, rfl⟩ := (k_is_int p2 hk).1
  simp only [vz] at n1 p3
  have ec : (Int32.ofInt c).toInt = c := by rw [Int32.toInt_ofInt]; exact z_bm hc0.1 hc0.2
  have hn := hS.2.2.2.2.2.2
  have h1 : m_one ro fty dfl E.1 F lv cst = some (F, E.1.1 + E.1.2.2.1, m_put1 lv i (.int (x + Int32.ofInt c)), cst) := by
    obtain ⟨⟨pc, ins, len, a0, b0, z0⟩, rt⟩ := E
    simp only at hi
    subst hi
    simp only [m_one, m_push, m_cst, m_store, hg]
  refine TT.one hE h1 ?_
  refine h (vs ++ [.int (x + Int32.ofInt c)]) (S.1.1, E.1.1 + E.1.2.2.1, m_put1 lv i (.int (x + Int32.ofInt c)), cst) fs F (pre_app hp _) ((hS.up _).top (lc_put1 (fun q hq => by obtain ⟨q1, w, q2, q3⟩ := hl q hq; exact ⟨q1.app _, w, get_app q2, q3⟩) ?_ ?_) (fun b hb => (hc2 b hb).app _) ?_) hW hF
  · unfold x_ic
    split
    · rename_i hr
      have e := z_add (x := x) (y := Int32.ofInt c) (by omega) (by omega)
      refine ⟨.int (x + Int32.ofInt c), by simp only; rw [hn]; simp, okE_int (by simp only; omega) (by simp only; omega), fun q hq => ?_⟩
      rcases List.mem_cons.mp hq with rfl | hq
      · exact ⟨_, get_app p1, by simp only [vz]; omega, by simp only [vz]; omega⟩
      · obtain ⟨w, k1, k2, k3⟩ := sh_ok (x := a) (r := x + Int32.ofInt c) p3 (by omega) q hq
        exact ⟨w, get_app k1, k2, k3⟩
    · exact ⟨.int (x + Int32.ofInt c), by simp only; rw [hn]; simp, okE_int (z_rng _).1 (z_rng _).2, fun q hq => by cases hq⟩
  · unfold x_ic
    split <;> (simp only; rw [hn]; simp)
  · rw [hc1]
    apply List.map_congr_left
    intro b hb
    obtain ⟨w, hw⟩ := (hc2 b hb).get
    rw [hw, get_app hw]
end SxM
end
section
/-! SYMBOLIC RUNS, XIV: reads of cells -/
/-- what roles mean for addresses -/
def GOK (Γ : Nat → Option Nat) (roles : List RD) : Prop := ∀ a r rd, Γ a = some r → roles[r]? = some rd → (rd.1 = 3 → ¬ a < KB) ∧ (rd.1 = 2 → a < KB ∧ 3 ≤ rd.2.1 ∧ rd.2.1 ≤ 6) ∧ (rd.1 = 1 → a < KB) ∧ (rd.1 = 0 → ¬ rd.2.1 = 99 → a < KB)
def rdOK (E : MI) (rd : RD) : Bool := match E.2.1 with
  | .getfield _ => rd.1 == 0 && rd.2.1 == E.2.2.2.1
  | .iaload => (rd.1 == 1 || rd.1 == 3) && rd.2.1 == 0
  | .baload => (rd.1 == 1 && rd.2.1 == 1) || (rd.1 == 3 && rd.2.1 == 2)
  | .aaload => rd.1 == 2
  | _ => false
def isGet (E : MI) : Bool := match E.2.1 with
  | .getfield _ => true
  | _ => false
section SxN
variable {Γ : Nat → Option Nat} {sets : List (List Int)} {roles : List RD} {ms : Mods} {MT : List MM} {ro : Nat → Option MC} {fty : Nat → Nat → FieldType} {dfl : Nat → List Value} {vs0 : List Value} {F0 : MH} {Q : Option Value → MH → Prop} {d : Nat} {S : SS}
theorem one_rd {E : MI} (h : (∃ i, E.2.1 = .getfield i) ∨ E.2.1 = .arraylength ∨ E.2.1 = .iaload ∨ E.2.1 = .baload ∨ E.2.1 = .aaload) {F : MH} {st st1 : List Value} (hb : m_rd ro F E st = some st1) (lv : LVs) : m_one ro fty dfl E F lv st = some (F, E.1 + E.2.2.1, lv, st1) := by
  obtain ⟨pc, i, len, a0, b0, z0⟩ := E
  simp only at h
  have h4 : m_alu i st = none := by rcases h with ⟨o, rfl⟩ | rfl | rfl | rfl | rfl <;> rfl
  have h5 : m_br (pc, i, len, a0, b0, z0) st = none := by rcases h with ⟨o, rfl⟩ | rfl | rfl | rfl | rfl <;> rfl
  unfold m_one
  have h1 : m_push (pc, i, len, a0, b0, z0) lv = none := by rcases h with ⟨o, rfl⟩ | rfl | rfl | rfl | rfl <;> rfl
  have h2 : m_cst (pc, i, len, a0, b0, z0) = none := by rcases h with ⟨o, rfl⟩ | rfl | rfl | rfl | rfl <;> rfl
  have h3 : m_store (pc, i, len, a0, b0, z0) lv st = none := by rcases h with ⟨o, rfl⟩ | rfl | rfl | rfl | rfl <;> rfl
  rw [h1, h2, h3]
  simp only
  rw [h4]
  simp only
  rw [h5]
  simp only
  rw [hb]
theorem m_in_of {x : Int32} {n : Nat} (h0 : 0 ≤ x.toInt) (h1 : x.toInt.toNat < n) : m_in x n = true := by
  simp only [m_in, decide_eq_true_eq]; omega
theorem getD_of {α : Type} {l : List α} {k : Nat} {v w : α} (h : l[k]? = some v) : l.getD k w = v := by
  rw [List.getD_eq_getElem?_getD, h]; rfl
/-- a read, out of what the cell holds -/
theorem rd_one {E : MI} {rd : RD} {c : MC} {F : MH} {a k : Nat} {v : Value} {x : Int32} (hG : GOK Γ roles) {r : Nat} (hr : Γ a = some r) (hrd : roles[r]? = some rd) (hok : rdOK E rd = true) (hc : okCell Γ sets rd c) (hm : m_cell ro F a = some c) (hv : (cont c)[k]? = some v) (hk : if isGet E = true then k = E.2.2.2.2.1 else 0 ≤ x.toInt ∧ x.toInt.toNat = k) (lv : LVs) (t : List Value) :
    m_one ro fty dfl E F lv (if isGet E = true then .ref a :: t else .int x :: .ref a :: t) = some (F, E.1 + E.2.2.1, lv, v :: t) := by
  obtain ⟨g1, g2, g3, g4⟩ := hG a r rd hr hrd
  obtain ⟨pc, i, len, a0, b0, z0⟩ := E
  unfold rdOK at hok
  simp only at hok
  have hx : x.toNatClampNeg = x.toInt.toNat := rfl
  split at hok
  · rename_i idx
    have hg : isGet (pc, Instr.getfield idx, len, a0, b0, z0) = true := rfl
    rw [if_pos hg] at hk ⊢
    simp only [Bool.and_eq_true, beq_iff_eq] at hok
    rcases hc with ⟨e, ⟨fs, rfl⟩, -⟩ | ⟨e, -⟩ | ⟨e, -⟩ | ⟨e, -⟩
    · refine one_rd (Or.inl ⟨idx, rfl⟩) ?_ lv
      simp only at hk
      have hv2 : fs[b0]? = some v := by rw [← hk]; exact hv
      simp only [m_rd, hm]
      rw [if_pos hok.2, hv2]
    · omega
    · omega
    · omega
  · have hg : isGet (pc, Instr.iaload, len, a0, b0, z0) = false := rfl
    rw [if_neg (by rw [hg]; decide)] at hk ⊢
    simp only [Bool.and_eq_true, Bool.or_eq_true, beq_iff_eq] at hok
    have key : ∀ xs, c = .inr (.inl (rd.2.1, xs)) → m_one ro fty dfl (pc, Instr.iaload, len, a0, b0, z0) F lv (.int x :: .ref a :: t) = some (F, pc + len, lv, v :: t) := by
      intro xs e
      subst e
      refine one_rd (Or.inr (Or.inr (Or.inl rfl))) ?_ lv
      have hv2 : (xs.map Value.int)[k]? = some v := hv
      rw [List.getElem?_map] at hv2
      cases hq : xs[k]? with
      | none => rw [hq] at hv2; cases hv2
      | some y =>
        rw [hq] at hv2
        cases hv2
        have hlt := (List.getElem?_eq_some_iff.mp hq).1
        simp only [m_rd, hm]
        rw [if_pos ⟨hok.2, m_in_of hk.1 (by omega)⟩, hx, hk.2, getD_of hq]
    rcases hc with ⟨e, -⟩ | ⟨e, ⟨xs, e2⟩, -⟩ | ⟨e, -⟩ | ⟨e, ⟨xs, e2, -⟩, -⟩
    · omega
    · exact key xs e2
    · omega
    · exact key xs e2
  · have hg : isGet (pc, Instr.baload, len, a0, b0, z0) = false := rfl
    rw [if_neg (by rw [hg]; decide)] at hk ⊢
    simp only [Bool.and_eq_true, Bool.or_eq_true, beq_iff_eq] at hok
    have key : ∀ xs, c = .inr (.inl (rd.2.1, xs)) → m_one ro fty dfl (pc, Instr.baload, len, a0, b0, z0) F lv (.int x :: .ref a :: t) = some (F, pc + len, lv, v :: t) := by
      intro xs e
      subst e
      refine one_rd (Or.inr (Or.inr (Or.inr (Or.inl rfl)))) ?_ lv
      have hv2 : (xs.map Value.int)[k]? = some v := hv
      rw [List.getElem?_map] at hv2
      cases hq : xs[k]? with
      | none => rw [hq] at hv2; cases hv2
      | some y =>
        rw [hq] at hv2
        cases hv2
        have hlt := (List.getElem?_eq_some_iff.mp hq).1
        simp only [m_rd, hm]
        rw [if_pos ⟨by omega, m_in_of hk.1 (by omega)⟩, hx, hk.2, getD_of hq]
    rcases hc with ⟨e, -⟩ | ⟨e, ⟨xs, e2⟩, -⟩ | ⟨e, -⟩ | ⟨e, ⟨xs, e2, -⟩, -⟩
    · omega
    · exact key xs e2
    · omega
    · exact key xs e2
  · have hg : isGet (pc, Instr.aaload, len, a0, b0, z0) = false := rfl
    rw [if_neg (by rw [hg]; decide)] at hk ⊢
    simp only [beq_iff_eq] at hok
    rcases hc with ⟨e, -⟩ | ⟨e, -⟩ | ⟨e, ⟨os, e2⟩, -⟩ | ⟨e, -⟩
    · omega
    · omega
    · subst e2
      refine one_rd (Or.inr (Or.inr (Or.inr (Or.inr rfl)))) ?_ lv
      have hv2 : (os.map va_rf)[k]? = some v := hv
      rw [List.getElem?_map] at hv2
      cases hq : os[k]? with
      | none => rw [hq] at hv2; cases hv2
      | some y =>
        rw [hq] at hv2
        cases hv2
        have hlt := (List.getElem?_eq_some_iff.mp hq).1
        obtain ⟨k1, k2, k3⟩ := g2 hok
        simp only [m_rd, hm]
        rw [if_pos ⟨k1, k2, k3, m_in_of hk.1 (by omega)⟩, hx, hk.2, getD_of hq]
    · omega
  · cases hok
/-- are two values the same? -/
def x_eq (a b : AV) : Bool := a.1 == b.1 || (k_is a.2.1 0 && k_is b.2.1 0 && decide (0 ≤ (a_diff a b).1) && decide ((a_diff a b).2 ≤ 0))
theorem x_eq_ok {vs : List Value} {a b : AV} {v w : Value} (h : x_eq a b = true) (ha : okA Γ sets vs a) (hb : okA Γ sets vs b) (hv : vs[a.1]? = some v) (hw : vs[b.1]? = some w) : v = w := by
  simp only [x_eq, Bool.or_eq_true, beq_iff_eq, Bool.and_eq_true, decide_eq_true_eq] at h
  rcases h with h | ⟨⟨⟨h1, h2⟩, h3⟩, h4⟩
  · rw [h] at hv
    exact Option.some.inj (hv.symm.trans hw)
  · obtain ⟨v', p1, p2, -⟩ := id ha
    obtain ⟨w', p3, p4, -⟩ := id hb
    obtain rfl : v' = v := Option.some.inj (p1.symm.trans hv)
    obtain rfl : w' = w := Option.some.inj (p3.symm.trans hw)
    have hd := a_diff_ok ha hb (k_is_int p2 h1).2 (k_is_int p4 h2).2 hv hw
    obtain ⟨x, rfl⟩ := (k_is_int p2 h1).1
    obtain ⟨y, rfl⟩ := (k_is_int p4 h2).1
    simp only [i_in, vz] at hd
    have : x.toInt = y.toInt := by omega
    rw [Int32.toInt_inj.mp this]
/-- bounds that hold for several -/
def j_e (e f : Nat × Int × Int) : Option (Nat × Int × Int) := if e = f then some e else if e.1 = 0 ∧ f.1 = 0 then some (0, min e.2.1 f.2.1, max e.2.2 f.2.2) else none
def j_es : List (Nat × Int × Int) → Option (Nat × Int × Int)
  | [] => none
  | [e] => some e
  | e :: f :: t => match j_es (f :: t) with
    | some g => j_e e g
    | none => none
theorem j_e_ok {e f g : Nat × Int × Int} {v : Value} (h : j_e e f = some g) (ho : okE Γ sets e.1 e.2.1 e.2.2 v ∨ okE Γ sets f.1 f.2.1 f.2.2 v) : okE Γ sets g.1 g.2.1 g.2.2 v := by
  unfold j_e at h
  split at h
  · rename_i he
    cases h
    subst he
    rcases ho with h | h <;> exact h
  · split at h
    · rename_i hk
      cases h
      rcases ho with ho | ho
      · unfold okE at ho ⊢
        rw [if_pos hk.1] at ho
        simp only [if_true]
        exact ⟨ho.1, by omega, by omega⟩
      · unfold okE at ho ⊢
        rw [if_pos hk.2] at ho
        simp only [if_true]
        exact ⟨ho.1, by omega, by omega⟩
    · cases h
theorem j_es_ok {v : Value} : ∀ (l : List (Nat × Int × Int)) (g : Nat × Int × Int), j_es l = some g → (∃ e ∈ l, okE Γ sets e.1 e.2.1 e.2.2 v) → okE Γ sets g.1 g.2.1 g.2.2 v
  | [], g, h, _ => by cases h
  | [e], g, h, ho => by
    rw [j_es] at h
    cases h
    obtain ⟨e', he, ho⟩ := ho
    simp only [List.mem_cons, List.not_mem_nil, or_false] at he
    subst he
    exact ho
  | e :: f :: t, g, h, ho => by
    rw [j_es] at h
    split at h
    · rename_i g1 hg
      obtain ⟨e', he, ho⟩ := ho
      rcases List.mem_cons.mp he with rfl | he
      · exact j_e_ok h (Or.inl ho)
      · exact j_e_ok h (Or.inr (j_es_ok (f :: t) g1 hg ⟨e', he, ho⟩))
    · cases h
end SxN
end
section
/-! SYMBOLIC RUNS, XV: reads, as steps -/
def s_fact (q : FA) (S : SS) : SS := (S.1, S.2.1, q :: S.2.2.1, S.2.2.2.1, S.2.2.2.2.1, S.2.2.2.2.2)
def s_ef (q : EA) (S : SS) : SS := (S.1, S.2.1, S.2.2.1, q :: S.2.2.2.1, S.2.2.2.2.1, S.2.2.2.2.2)
def x_new (S : SS) (e : Nat × Int × Int) : AV := (S.2.2.2.2.2, e.1, e.2.1, e.2.2, [])
/-- a place that is known -/
def x_rdC (roles : List RD) (S : SS) (E : MI) (p : AV) (k : Nat) (r : List AV) : Option SS :=
  if p.2.1 = 2 ∧ ¬ k = 5000 then (match roles[p.2.2.1.toNat]? with
    | some rd => if rdOK E rd = true ∧ ¬ rd.1 = 3 then (match S.2.2.1.find? (fun q => q.1 == p.1 && q.2.2.1 == k) with
        | some q => some (s_top S (E.1 + E.2.2.1) S.1.2.2.1 (q.2.2.2 :: r))
        | none => (match rd.2.2[k]? with
          | some e => some (s_top (s_fact (p.1, p.2.2.1.toNat, k, x_new S e) (s_up S)) (E.1 + E.2.2.1) S.1.2.2.1 (x_new S e :: r))
          | none => none)) else none
    | none => none) else none
/-- a place that is a symbol is in the row -/
def x_ln (S : SS) (p i : AV) (rd : RD) : Bool := if rd.1 = 3 then (match S.2.2.1.find? (fun q => q.1 == p.1 && q.2.2.1 == 5000) with | some q => k_is q.2.2.2.2.1 0 && decide ((a_diff i q.2.2.2).2 ≤ -1) | none => false) else decide (i.2.2.2.1 < rd.2.2.length)
/-- a place that is a symbol -/
def x_rdV (roles : List RD) (S : SS) (E : MI) (p i : AV) (r : List AV) : Option SS :=
  if p.2.1 = 2 ∧ 0 ≤ i.2.2.1 then (match roles[p.2.2.1.toNat]? with
    | some rd => if rdOK E rd = true ∧ x_ln S p i rd = true then
        (match S.2.2.2.1.find? (fun q => q.1 == p.1 && x_eq q.2.2.1 i) with
        | some q => some (s_top S (E.1 + E.2.2.1) S.1.2.2.1 (q.2.2.2 :: r))
        | none => (match j_es (if rd.1 = 3 then rd.2.2 else (rd.2.2.drop i.2.2.1.toNat).take (i.2.2.2.1 - i.2.2.1 + 1).toNat) with
          | some e => some (s_top (s_ef (p.1, p.2.2.1.toNat, i, x_new S e) (s_up S)) (E.1 + E.2.2.1) S.1.2.2.1 (x_new S e :: r))
          | none => none)) else none
    | none => none) else none
def x_r3 (roles : List RD) (p : AV) : Bool := match roles[p.2.2.1.toNat]? with | some rd => rd.1 == 3 | none => true
def x_rd (roles : List RD) (S : SS) (E : MI) : Option SS :=
  if isGet E = true then (match S.1.2.2.2 with | p :: r => x_rdC roles S E p E.2.2.2.2.1 r | _ => none)
  else (match S.1.2.2.2 with
    | i :: p :: r => if k_is i.2.1 0 = true then (if isC i = true ∧ 0 ≤ i.2.2.1 ∧ x_r3 roles p = false then x_rdC roles S E p i.2.2.1.toNat r else x_rdV roles S E p i r) else none
    | _ => none)
section SxO
variable {Γ : Nat → Option Nat} {sets : List (List Int)} {roles : List RD} {ms : Mods} {MT : List MM} {ro : Nat → Option MC} {fty : Nat → Nat → FieldType} {dfl : Nat → List Value} {vs0 : List Value} {F0 : MH} {Q : Option Value → MH → Prop} {d : Nat} {S : SS}
theorem okS.fact {vs : List Value} {f : CF} {fs : List CF} {F : MH} (h : okS Γ sets ro vs S f fs F) {q : FA} (hq : okFa Γ ro F vs q) (ha : okA Γ sets vs q.2.2.2) : okS Γ sets ro vs (s_fact q S) f fs F := by
  obtain ⟨h1, h2, h3, h4, h5, h6, h7⟩ := h
  refine ⟨fun a hm => ?_, h2, h3, fun q' hq' => ?_, h5, h6, h7⟩
  · simp only [s_av, s_fact, List.map_cons, List.mem_append, List.mem_cons] at hm
    rcases hm with hm | hm | (rfl | hm) | hm
    · exact h1 a (List.mem_append_left _ hm)
    · exact h1 a (List.mem_append_right _ (List.mem_append_left _ hm))
    · exact ha
    · exact h1 a (List.mem_append_right _ (List.mem_append_right _ (List.mem_append_left _ hm)))
    · exact h1 a (List.mem_append_right _ (List.mem_append_right _ (List.mem_append_right _ hm)))
  · rcases List.mem_cons.mp hq' with rfl | hq'
    · exact hq
    · exact h4 q' hq'
theorem okS.ef {vs : List Value} {f : CF} {fs : List CF} {F : MH} (h : okS Γ sets ro vs S f fs F) {q : EA} (hq : okEa Γ ro F vs q) (hi : okA Γ sets vs q.2.2.1) (ha : okA Γ sets vs q.2.2.2) : okS Γ sets ro vs (s_ef q S) f fs F := by
  obtain ⟨h1, h2, h3, h4, h5, h6, h7⟩ := h
  refine ⟨fun a hm => ?_, h2, h3, h4, fun q' hq' => ?_, h6, h7⟩
  · simp only [s_av, s_ef, List.flatMap_cons, List.mem_append, List.mem_cons, List.not_mem_nil, or_false] at hm
    rcases hm with hm | hm | hm | (rfl | rfl) | hm
    · exact h1 a (List.mem_append_left _ hm)
    · exact h1 a (List.mem_append_right _ (List.mem_append_left _ hm))
    · exact h1 a (List.mem_append_right _ (List.mem_append_right _ (List.mem_append_left _ hm)))
    · exact hi
    · exact ha
    · exact h1 a (List.mem_append_right _ (List.mem_append_right _ (List.mem_append_right _ hm)))
  · rcases List.mem_cons.mp hq' with rfl | hq'
    · exact hq
    · exact h5 q' hq'
theorem okCell_get {rd : RD} {c : MC} (h : okCell Γ sets rd c) (h3 : ¬ rd.1 = 3) : okL Γ sets rd.2.2 (cont c) := by
  rcases h with ⟨-, -, h⟩ | ⟨-, -, h⟩ | ⟨-, -, h⟩ | ⟨h, -⟩
  · exact h
  · exact h
  · exact h
  · exact absurd h h3
/-- what a read needs: the machine's step, for the value that is there -/
theorem rdC_ok (hG : GOK Γ roles) {E : MI × Option FieldType} (hE : m_at MT S.1.1 S.1.2.1 = some E) {p : AV} {k : Nat} {r : List AV} {S1 : SS} (hx : x_rdC roles S E.1 p k r = some S1) (hin : ∀ a ∈ r, a ∈ S.1.2.2.2) (hpm : p ∈ S.1.2.2.2)
    (hop : ∀ vs cst, (∀ a ∈ s_av S, okA Γ sets vs a) → cst.map some = S.1.2.2.2.map (fun a => vs[a.1]?) → ∃ a x t, cst = (if isGet E.1 = true then .ref a :: t else .int x :: .ref a :: t) ∧ vs[p.1]? = some (.ref a) ∧ t.map some = r.map (fun a => vs[a.1]?) ∧ (if isGet E.1 = true then k = E.1.2.2.2.2.1 else 0 ≤ x.toInt ∧ x.toInt.toNat = k))
    (h : Good Γ sets roles ms MT ro fty dfl vs0 F0 Q d S1) : Good Γ sets roles ms MT ro fty dfl vs0 F0 Q d S := by
  intro vs f fs F hp hS hW hF
  obtain ⟨lv, cst, rfl, hl, hc1, hc2⟩ := hS.frame
  obtain ⟨a, x, t, rfl, q1, q2, q3⟩ := hop vs cst hS.1 hc1
  have hn := hS.2.2.2.2.2.2
  unfold x_rdC at hx
  split at hx
  · rename_i hp2
    split at hx
    · rename_i rd hrd
      split at hx
      · rename_i hok
        obtain ⟨v0, e1, e2, -⟩ := hc2 p hpm
        obtain rfl : v0 = .ref a := Option.some.inj (e1.symm.trans q1)
        unfold okE at e2
        rw [if_neg (by omega), if_neg (by omega), if_pos hp2.1] at e2
        obtain ⟨a', e3, hΓ⟩ := e2
        cases e3
        obtain ⟨c, hm, hcell⟩ := hW a _ rd hΓ hrd
        split at hx
        · rename_i q hq
          cases hx
          have hqm := List.mem_of_find?_eq_some hq
          have hqp := List.find?_some hq
          simp only [Bool.and_eq_true, beq_iff_eq] at hqp
          obtain ⟨a2, c2, v, g1, g2, g3, g4, g5⟩ := hS.2.2.2.1 q hqm
          rw [hqp.1, q1] at g1
          cases g1
          cases hm.symm.trans g3
          rw [hqp.2, if_neg hp2.2] at g5
          refine TT.one hE (rd_one hG hΓ hrd hok.1 hcell hm g5 q3 lv t) ?_
          refine h vs (S.1.1, E.1.1 + E.1.2.2.1, lv, v :: t) fs F hp (hS.top hl (fun b hb => ?_) ?_) hW hF
          · rcases List.mem_cons.mp hb with rfl | hb
            · exact hS.1 _ (mem_fact hqm)
            · exact hc2 b (hin b hb)
          · simp only [List.map_cons, List.cons.injEq]
            exact ⟨g4.symm, q2⟩
        · split at hx
          · rename_i e he
            cases hx
            obtain ⟨v, g1, g2⟩ := (okCell_get hcell hok.2).2 k e he
            refine TT.one hE (rd_one hG hΓ hrd hok.1 hcell hm g1 q3 lv t) ?_
            have e0 : (vs ++ [v])[S.2.2.2.2.2]? = some v := by rw [hn]; simp
            have oa : okA Γ sets (vs ++ [v]) (x_new S e) := ⟨v, e0, g2, fun q hq => by cases hq⟩
            have hS1 := (hS.up v).fact (q := (p.1, p.2.2.1.toNat, k, x_new S e)) ⟨a, c, v, get_app q1, hΓ, hm, e0, by rw [if_neg hp2.2]; exact g1⟩ oa
            refine h (vs ++ [v]) (S.1.1, E.1.1 + E.1.2.2.1, lv, v :: t) fs F (pre_app hp v) (hS1.top (fun q hq => ?_) (fun b hb => ?_) ?_) hW hF
            · obtain ⟨q1, w, q2, q3⟩ := hl q hq
              exact ⟨q1.app _, w, get_app q2, q3⟩
            · rcases List.mem_cons.mp hb with rfl | hb
              · exact oa
              · exact (hc2 b (hin b hb)).app _
            · simp only [List.map_cons, List.cons.injEq]
              refine ⟨e0.symm, ?_⟩
              rw [q2]
              apply List.map_congr_left
              intro b hb
              obtain ⟨w, hw⟩ := (hc2 b (hin b hb)).get
              rw [hw, get_app hw]
          · cases hx
      · cases hx
    · cases hx
  · cases hx
theorem rdV_ok (hG : GOK Γ roles) {E : MI × Option FieldType} (hE : m_at MT S.1.1 S.1.2.1 = some E) {p i : AV} {r : List AV} {S1 : SS} (hx : x_rdV roles S E.1 p i r = some S1) (hst : S.1.2.2.2 = i :: p :: r) (ki : k_is i.2.1 0 = true) (hng : isGet E.1 = false)
    (h : Good Γ sets roles ms MT ro fty dfl vs0 F0 Q d S1) : Good Γ sets roles ms MT ro fty dfl vs0 F0 Q d S := by
  intro vs f fs F hp hS hW hF
  obtain ⟨lv, cst, rfl, hl, hc1, hc2⟩ := hS.frame
  have hin : ∀ a ∈ r, a ∈ S.1.2.2.2 := fun a ha => by rw [hst]; simp [ha]
  have op := hc2 p (by rw [hst]; simp)
  have oi := hc2 i (by rw [hst]; simp)
  rw [hst] at hc1
  obtain ⟨w, t1, rfl, k2, k3⟩ := stk1 hc1
  obtain ⟨v1, t, rfl, k5, q2⟩ := stk1 k3
  obtain ⟨w', p1, p2, -⟩ := id oi
  obtain rfl : w' = w := Option.some.inj (p1.symm.trans k2)
  have ni := p2.num (k_is_int p2 ki).2
  obtain ⟨x, rfl⟩ := (k_is_int p2 ki).1
  simp only [vz] at ni
  have hn := hS.2.2.2.2.2.2
  unfold x_rdV at hx
  split at hx
  · rename_i hp2
    split at hx
    · rename_i rd hrd
      split at hx
      · rename_i hok
        obtain ⟨v0, e1, e2, -⟩ := id op
        obtain rfl : v0 = v1 := Option.some.inj (e1.symm.trans k5)
        unfold okE at e2
        rw [if_neg (by omega), if_neg (by omega), if_pos hp2.1] at e2
        obtain ⟨a, rfl, hΓ⟩ := e2
        obtain ⟨c, hm, hcell⟩ := hW a _ rd hΓ hrd
        have hx0 : 0 ≤ x.toInt := by omega
        have step : ∀ v, (cont c)[x.toInt.toNat]? = some v → m_one ro fty dfl E.1 F lv (.int x :: .ref a :: t) = some (F, E.1.1 + E.1.2.2.1, lv, v :: t) := by
          intro v hv
          have := rd_one (fty := fty) (dfl := dfl) (E := E.1) (x := x) hG hΓ hrd hok.1 hcell hm hv (by rw [if_neg (by rw [hng]; decide)]; exact ⟨hx0, rfl⟩) lv t
          rw [if_neg (by rw [hng]; decide)] at this
          exact this
        split at hx
        · rename_i q hq
          cases hx
          have hqm := List.mem_of_find?_eq_some hq
          have hqp := List.find?_some hq
          simp only [Bool.and_eq_true, beq_iff_eq] at hqp
          obtain ⟨a2, c2, y, v, g1, g2, g3, g4, g5, g6, g7⟩ := hS.2.2.2.2.1 q hqm
          rw [hqp.1, k5] at g1
          cases g1
          cases hm.symm.trans g3
          have hxy := x_eq_ok hqp.2 (hS.1 _ (mem_ef1 hqm)) oi g4 k2
          cases hxy
          refine TT.one hE (step v g7) ?_
          refine h vs (S.1.1, E.1.1 + E.1.2.2.1, lv, v :: t) fs F hp (hS.top hl (fun b hb => ?_) ?_) hW hF
          · rcases List.mem_cons.mp hb with rfl | hb
            · exact hS.1 _ (mem_ef2 hqm)
            · exact hc2 b (hin b hb)
          · simp only [List.map_cons, List.cons.injEq]
            exact ⟨g6.symm, q2⟩
        · split at hx
          · rename_i e he
            cases hx
            have hval : ∃ v, (cont c)[x.toInt.toNat]? = some v ∧ okE Γ sets e.1 e.2.1 e.2.2 v := by
              by_cases h3 : rd.1 = 3
              · have hok2 := hok.2
                unfold x_ln at hok2
                rw [if_pos h3] at hok2 he
                split at hok2
                · rename_i q hq
                  simp only [Bool.and_eq_true, decide_eq_true_eq] at hok2
                  have hqm := List.mem_of_find?_eq_some hq
                  have hqp := List.find?_some hq
                  simp only [Bool.and_eq_true, beq_iff_eq] at hqp
                  obtain ⟨a2, c2, v, g1, g2, g3, g4, g5⟩ := hS.2.2.2.1 q hqm
                  rw [hqp.1, k5] at g1
                  cases g1
                  cases hm.symm.trans g3
                  rw [hqp.2, if_pos rfl] at g5
                  subst g5
                  have oq := hS.1 _ (mem_fact hqm)
                  obtain ⟨w2, z1, z2, -⟩ := id oq
                  obtain rfl : w2 = _ := Option.some.inj (z1.symm.trans g4)
                  have hd := a_diff_ok oi oq (k_is_int p2 ki).2 (k_is_int z2 hok2.1).2 k2 g4
                  rcases hcell with ⟨ee, -⟩ | ⟨ee, -⟩ | ⟨ee, -⟩ | ⟨-, ⟨xs, e4, e5⟩, e6, e7, e8⟩
                  · omega
                  · omega
                  · omega
                  · subst e4
                    have hcl : clen (.inr (.inl (rd.2.1, xs))) = xs.length := by simp [clen, cont]
                    rw [hcl] at hd
                    have hlen : (Int32.ofNat xs.length).toInt = (xs.length : Int) := nI_toInt (n := xs.length) (by omega)
                    simp only [i_in, vz, hlen] at hd
                    have hlt : x.toInt.toNat < (cont (.inr (.inl (rd.2.1, xs)))).length := by simp only [cont, List.length_map]; omega
                    refine ⟨_, List.getElem?_eq_getElem hlt, ?_⟩
                    rw [e7] at he
                    rw [j_es] at he
                    cases he
                    exact e8 _ (List.getElem_mem hlt)
                · cases hok2
              · have hok2 := hok.2
                unfold x_ln at hok2
                rw [if_neg h3] at hok2 he
                simp only [decide_eq_true_eq] at hok2
                obtain ⟨l1, l2⟩ := okCell_get hcell h3
                have hlt : x.toInt.toNat < rd.2.2.length := by omega
                obtain ⟨v, g1, g2⟩ := l2 x.toInt.toNat _ (List.getElem?_eq_getElem hlt)
                refine ⟨v, g1, j_es_ok _ e he ⟨_, ?_, g2⟩⟩
                rw [List.mem_iff_getElem?]
                refine ⟨x.toInt.toNat - i.2.2.1.toNat, ?_⟩
                rw [List.getElem?_take, if_pos (by omega), List.getElem?_drop, show i.2.2.1.toNat + (x.toInt.toNat - i.2.2.1.toNat) = x.toInt.toNat by omega]
                exact List.getElem?_eq_getElem hlt
            obtain ⟨v, g1, g2⟩ := hval
            refine TT.one hE (step v g1) ?_
            have e0 : (vs ++ [v])[S.2.2.2.2.2]? = some v := by rw [hn]; simp
            have oa : okA Γ sets (vs ++ [v]) (x_new S e) := ⟨v, e0, g2, fun q hq => by cases hq⟩
            have hS1 := (hS.up v).ef (q := (p.1, p.2.2.1.toNat, i, x_new S e)) ⟨a, c, x, v, get_app k5, hΓ, hm, get_app k2, hx0, e0, g1⟩ (oi.app _) oa
            refine h (vs ++ [v]) (S.1.1, E.1.1 + E.1.2.2.1, lv, v :: t) fs F (pre_app hp v) (hS1.top (fun q hq => ?_) (fun b hb => ?_) ?_) hW hF
            · obtain ⟨q1, w, q2, q3⟩ := hl q hq
              exact ⟨q1.app _, w, get_app q2, q3⟩
            · rcases List.mem_cons.mp hb with rfl | hb
              · exact oa
              · exact (hc2 b (hin b hb)).app _
            · simp only [List.map_cons, List.cons.injEq]
              refine ⟨e0.symm, ?_⟩
              rw [q2]
              apply List.map_congr_left
              intro b hb
              obtain ⟨w, hw⟩ := (hc2 b (hin b hb)).get
              rw [hw, get_app hw]
          · cases hx
      · cases hx
    · cases hx
  · cases hx
end SxO
end
section
/-! SYMBOLIC RUNS, XVI: reads together, lengths; is a value within bounds -/
def x_al (roles : List RD) (S : SS) (E : MI) : Option SS := match E.2.1, S.1.2.2.2 with
  | .arraylength, p :: r => if p.2.1 = 2 then (match roles[p.2.2.1.toNat]? with
      | some rd => if rd.1 = 3 then (match S.2.2.1.find? (fun q => q.1 == p.1 && q.2.2.1 == 5000) with
          | some q => some (s_top S (E.1 + E.2.2.1) S.1.2.2.1 (q.2.2.2 :: r))
          | none => some (s_top (s_fact (p.1, p.2.2.1.toNat, 5000, x_new S (0, 0, 320)) (s_up S)) (E.1 + E.2.2.1) S.1.2.2.1 (x_new S (0, 0, 320) :: r))) else none
      | none => none) else none
  | _, _ => none
/-- is a value of these bounds? -/
def x_sub (sets : List (List Int)) (v : AV) (e : Nat × Int × Int) : Bool :=
  if e.1 = 0 then k_is v.2.1 0 && decide (e.2.1 ≤ v.2.2.1 ∧ v.2.2.2.1 ≤ e.2.2)
  else if e.1 = 1 then decide (v.2.1 = 1 ∧ e.2.1 ≤ v.2.2.1 ∧ v.2.2.2.1 ≤ e.2.2)
  else if e.1 = 2 then decide (v.2.1 = 2 ∧ v.2.2.1.toNat = e.2.1.toNat)
  else if 10 ≤ e.1 then decide (e.2.1 ≤ v.2.2.1 ∧ v.2.2.2.1 ≤ e.2.2) && (decide (v.2.1 = e.1) || (isC v && (sets.getD (e.1 - 10) []).contains v.2.2.1))
  else false
section SxP
variable {Γ : Nat → Option Nat} {sets : List (List Int)} {roles : List RD} {ms : Mods} {MT : List MM} {ro : Nat → Option MC} {fty : Nat → Nat → FieldType} {dfl : Nat → List Value} {vs0 : List Value} {F0 : MH} {Q : Option Value → MH → Prop} {d : Nat} {S : SS}
theorem x_sub_ok {v : AV} {e : Nat × Int × Int} {w : Value} (h : x_sub sets v e = true) (ho : okE Γ sets v.2.1 v.2.2.1 v.2.2.2.1 w) : okE Γ sets e.1 e.2.1 e.2.2 w := by
  unfold x_sub at h
  unfold okE
  by_cases h0 : e.1 = 0
  · rw [if_pos h0] at h ⊢
    simp only [Bool.and_eq_true, decide_eq_true_eq] at h
    have n := ho.num (k_is_int ho h.1).2
    exact ⟨(k_is_int ho h.1).1, by omega, by omega⟩
  rw [if_neg h0] at h ⊢
  by_cases h1 : e.1 = 1
  · rw [if_pos h1] at h ⊢
    simp only [decide_eq_true_eq] at h
    have n := ho.num (by omega)
    have hk : k_is v.2.1 1 = true := by rw [h.1]; rfl
    exact ⟨(k_is_long ho hk).1, by omega, by omega⟩
  rw [if_neg h1] at h ⊢
  by_cases h2 : e.1 = 2
  · rw [if_pos h2] at h ⊢
    simp only [decide_eq_true_eq] at h
    have hk : k_is v.2.1 2 = true := by rw [h.1]; rfl
    obtain ⟨⟨a, e1, e2⟩, -⟩ := k_is_ref ho hk
    exact ⟨a, e1, by rw [e2, h.2]⟩
  rw [if_neg h2] at h ⊢
  by_cases h10 : 10 ≤ e.1
  · rw [if_pos h10] at h ⊢
    simp only [Bool.and_eq_true, decide_eq_true_eq, Bool.or_eq_true] at h
    obtain ⟨hb, hc | ⟨hc, hd⟩⟩ := h
    · unfold okE at ho
      rw [hc, if_neg h0, if_neg h1, if_neg h2, if_pos h10] at ho
      exact ⟨ho.1, by omega, by omega, ho.2.2.2⟩
    · have e1 := isC_spec hc ho
      have n := ho.num (by simp only [isC, Bool.and_eq_true, beq_iff_eq] at hc; omega)
      have hz : vz w = v.2.2.1 := by
        simp only [isC, Bool.and_eq_true, beq_iff_eq] at hc
        omega
      refine ⟨⟨_, e1⟩, by omega, by omega, ?_⟩
      rw [hz]
      exact List.contains_iff_mem.mp hd
  · rw [if_neg h10] at h; cases h
theorem g_rd (hG : GOK Γ roles) {E : MI × Option FieldType} {S1 : SS} (hE : m_at MT S.1.1 S.1.2.1 = some E) (hx : x_rd roles S E.1 = some S1)
    (h : Good Γ sets roles ms MT ro fty dfl vs0 F0 Q d S1) : Good Γ sets roles ms MT ro fty dfl vs0 F0 Q d S := by
  unfold x_rd at hx
  split at hx
  · rename_i hg
    split at hx
    · rename_i p r hst
      have hp2 : p.2.1 = 2 := by
        unfold x_rdC at hx
        split at hx
        · rename_i q; exact q.1
        · cases hx
      refine rdC_ok hG hE hx (fun a ha => by rw [hst]; simp [ha]) (by rw [hst]; simp) (fun vs cst hall hc => ?_) h
      rw [hst] at hc
      obtain ⟨v, t, rfl, q1, q2⟩ := stk1 hc
      obtain ⟨v', p1, p2, -⟩ := hall p (mem_top (by rw [hst]; simp))
      obtain rfl : v' = v := Option.some.inj (p1.symm.trans q1)
      obtain ⟨⟨a, rfl, -⟩, -⟩ := k_is_ref p2 (by rw [hp2]; rfl)
      exact ⟨a, 0, t, by rw [if_pos hg], q1, q2, by rw [if_pos hg]⟩
    · cases hx
  · rename_i hg
    have hg0 : isGet E.1 = false := by cases hq : isGet E.1 <;> simp_all
    split at hx
    · rename_i i p r hst
      split at hx
      · rename_i ki
        split at hx
        · rename_i hc0
          have hp2 : p.2.1 = 2 := by
            unfold x_rdC at hx
            split at hx
            · rename_i q; exact q.1
            · cases hx
          refine rdC_ok hG hE hx (fun a ha => by rw [hst]; simp [ha]) (by rw [hst]; simp) (fun vs cst hall hc => ?_) h
          rw [hst] at hc
          obtain ⟨w, t1, rfl, k2, k3⟩ := stk1 hc
          obtain ⟨v, t, rfl, q1, q2⟩ := stk1 k3
          obtain ⟨v', p1, p2, -⟩ := hall p (mem_top (by rw [hst]; simp))
          obtain rfl : v' = v := Option.some.inj (p1.symm.trans q1)
          obtain ⟨w', p3, p4, -⟩ := hall i (mem_top (by rw [hst]; simp))
          obtain rfl : w' = w := Option.some.inj (p3.symm.trans k2)
          obtain ⟨⟨a, rfl, -⟩, -⟩ := k_is_ref p2 (by rw [hp2]; rfl)
          have n := p4.num (k_is_int p4 ki).2
          obtain ⟨x, rfl⟩ := (k_is_int p4 ki).1
          have hci := hc0.1
          simp only [isC, Bool.and_eq_true, beq_iff_eq] at hci
          simp only [vz] at n
          refine ⟨a, x, t, by rw [if_neg hg], q1, q2, ?_⟩
          rw [if_neg hg]
          have : x.toInt = i.2.2.1 := by omega
          rw [this]
          exact ⟨hc0.2.1, rfl⟩
        · exact rdV_ok hG hE hx hst ki hg0 h
      · cases hx
    · cases hx
theorem g_al (hG : GOK Γ roles) {E : MI × Option FieldType} {S1 : SS} (hE : m_at MT S.1.1 S.1.2.1 = some E) (hx : x_al roles S E.1 = some S1)
    (h : Good Γ sets roles ms MT ro fty dfl vs0 F0 Q d S1) : Good Γ sets roles ms MT ro fty dfl vs0 F0 Q d S := by
  intro vs f fs F hp hS hW hF
  obtain ⟨lv, cst, rfl, hl, hc1, hc2⟩ := hS.frame
  have hn := hS.2.2.2.2.2.2
  unfold x_al at hx
  split at hx
  · rename_i p r hi hst
    have hin : ∀ a ∈ r, a ∈ S.1.2.2.2 := fun a ha => by rw [hst]; simp [ha]
    have op := hc2 p (by rw [hst]; simp)
    rw [hst] at hc1
    obtain ⟨v1, t, rfl, k5, q2⟩ := stk1 hc1
    split at hx
    · rename_i hp2
      split at hx
      · rename_i rd hrd
        split at hx
        · rename_i h3
          obtain ⟨v0, e1, e2, -⟩ := id op
          obtain rfl : v0 = v1 := Option.some.inj (e1.symm.trans k5)
          obtain ⟨⟨a, rfl, hΓ⟩, -⟩ := k_is_ref e2 (by rw [hp2]; rfl)
          obtain ⟨c, hm, hcell⟩ := hW a _ rd hΓ hrd
          have hKB := (hG a _ rd hΓ hrd).1 h3
          rcases hcell with ⟨ee, -⟩ | ⟨ee, -⟩ | ⟨ee, -⟩ | ⟨-, ⟨xs, e4, e5⟩, -⟩
          · omega
          · omega
          · omega
          subst e4
          have hro : ro (a - KB) = some (.inr (.inl (rd.2.1, xs))) := by unfold m_cell at hm; rw [if_neg hKB] at hm; exact hm
          have step : m_one ro fty dfl E.1 F lv (.ref a :: t) = some (F, E.1.1 + E.1.2.2.1, lv, .int (Int32.ofNat xs.length) :: t) := by
            refine one_rd (Or.inr (Or.inl hi)) ?_ lv
            unfold m_rd
            rw [hi]
            simp only
            rw [if_neg hKB, hro]
          have hcl : clen (.inr (.inl (rd.2.1, xs))) = xs.length := by simp [clen, cont]
          have hlen : (Int32.ofNat xs.length).toInt = (xs.length : Int) := nI_toInt (n := xs.length) (by omega)
          split at hx
          · rename_i q hq
            cases hx
            have hqm := List.mem_of_find?_eq_some hq
            have hqp := List.find?_some hq
            simp only [Bool.and_eq_true, beq_iff_eq] at hqp
            obtain ⟨a2, c2, v, g1, g2, g3, g4, g5⟩ := hS.2.2.2.1 q hqm
            rw [hqp.1, k5] at g1
            cases g1
            cases hm.symm.trans g3
            rw [hqp.2, if_pos rfl, hcl] at g5
            refine TT.one hE step ?_
            refine h vs (S.1.1, E.1.1 + E.1.2.2.1, lv, .int (Int32.ofNat xs.length) :: t) fs F hp (hS.top hl (fun b hb => ?_) ?_) hW hF
            · rcases List.mem_cons.mp hb with rfl | hb
              · exact hS.1 _ (mem_fact hqm)
              · exact hc2 b (hin b hb)
            · simp only [List.map_cons, List.cons.injEq]
              rw [g5] at g4
              exact ⟨g4.symm, q2⟩
          · cases hx
            refine TT.one hE step ?_
            have e0 : (vs ++ [Value.int (Int32.ofNat xs.length)])[S.2.2.2.2.2]? = some (.int (Int32.ofNat xs.length)) := by rw [hn]; simp
            have oa : okA Γ sets (vs ++ [Value.int (Int32.ofNat xs.length)]) (x_new S (0, 0, 320)) := ⟨_, e0, okE_int (by show (0 : Int) ≤ _; omega) (by show _ ≤ (320 : Int); omega), fun q hq => by cases hq⟩
            have hS1 := (hS.up (.int (Int32.ofNat xs.length))).fact (q := (p.1, p.2.2.1.toNat, 5000, x_new S (0, 0, 320))) ⟨a, _, _, get_app k5, hΓ, hm, e0, by rw [if_pos rfl, hcl]⟩ oa
            refine h _ (S.1.1, E.1.1 + E.1.2.2.1, lv, .int (Int32.ofNat xs.length) :: t) fs F (pre_app hp _) (hS1.top (fun q hq => ?_) (fun b hb => ?_) ?_) hW hF
            · obtain ⟨q1, w, q2, q3⟩ := hl q hq
              exact ⟨q1.app _, w, get_app q2, q3⟩
            · rcases List.mem_cons.mp hb with rfl | hb
              · exact oa
              · exact (hc2 b (hin b hb)).app _
            · simp only [List.map_cons, List.cons.injEq]
              refine ⟨e0.symm, ?_⟩
              rw [q2]
              apply List.map_congr_left
              intro b hb
              obtain ⟨w, hw⟩ := (hc2 b (hin b hb)).get
              rw [hw, get_app hw]
        · cases hx
      · cases hx
    · cases hx
  · cases hx
end SxP
end
section
/-! SYMBOLIC RUNS, XVII: writes -/
def ftOK (ty : FieldType) (v : AV) : Bool := match ty with
  | .int => k_is v.2.1 0
  | .boolean => k_is v.2.1 0 && decide (0 ≤ v.2.2.1 ∧ v.2.2.2.1 ≤ 1)
  | .long => v.2.1 == 1
  | .object _ => v.2.1 == 2
  | .array _ => v.2.1 == 2
  | _ => false
def wrOK (fty : Nat → Nat → FieldType) (E : MI) (rd : RD) (v : AV) : Bool := match E.2.1 with
  | .putfield _ => rd.1 == 0 && rd.2.1 == E.2.2.2.1 && !(rd.2.1 == 99) && ftOK (fty E.2.2.2.1 E.2.2.2.2.1) v
  | .iastore => rd.1 == 1 && rd.2.1 == 0 && k_is v.2.1 0
  | .bastore => rd.1 == 1 && rd.2.1 == 1 && (k_is v.2.1 0 && decide (0 ≤ v.2.2.1 ∧ v.2.2.2.1 ≤ 1))
  | _ => false
def isPut (E : MI) : Bool := match E.2.1 with
  | .putfield _ => true
  | _ => false
def s_wrt (rid role l h : Nat) (i v : AV) (S : SS) : SS := (S.1, S.2.1, (if l = h then [(rid, role, l, v)] else []) ++ S.2.2.1.filter (fun q => !(q.2.1 == role && decide (l ≤ q.2.2.1) && decide (q.2.2.1 ≤ h))), (if l = h then [] else [(rid, role, i, v)]) ++ S.2.2.2.1.filter (fun q => !(q.2.1 == role)), S.2.2.2.2.1, S.2.2.2.2.2)
/-- a write to a place, or to one of several -/
def x_w1 (sets : List (List Int)) (roles : List RD) (fty : Nat → Nat → FieldType) (ms : Mods) (S : SS) (E : MI) (p i v : AV) (l h : Nat) (r : List AV) : Option SS :=
  if p.2.1 = 2 ∧ h < 5000 ∧ l ≤ h then (match roles[p.2.2.1.toNat]? with
    | some rd => if wrOK fty E rd v = true ∧ h < rd.2.2.length ∧ ((rd.2.2.drop l).take (h - l + 1)).all (x_sub sets v) = true ∧ (ms.any fun q => q.1 == p.2.2.1.toNat && decide (q.2.1 ≤ l) && decide (h ≤ q.2.2)) = true then
        some (s_top (s_wrt p.1 p.2.2.1.toNat l h i v S) (E.1 + E.2.2.1) S.1.2.2.1 r) else none
    | none => none) else none
def x_wr (sets : List (List Int)) (roles : List RD) (fty : Nat → Nat → FieldType) (ms : Mods) (S : SS) (E : MI) : Option SS :=
  if isPut E = true then (match S.1.2.2.2 with | v :: p :: r => x_w1 sets roles fty ms S E p p v E.2.2.2.2.1 E.2.2.2.2.1 r | _ => none)
  else (match S.1.2.2.2 with
    | v :: i :: p :: r => if k_is i.2.1 0 = true ∧ 0 ≤ i.2.2.1 then x_w1 sets roles fty ms S E p i v i.2.2.1.toNat i.2.2.2.1.toNat r else none
    | _ => none)
section SxQ
variable {Γ : Nat → Option Nat} {sets : List (List Int)} {roles : List RD} {ms : Mods} {MT : List MM} {ro : Nat → Option MC} {fty : Nat → Nat → FieldType} {dfl : Nat → List Value} {vs0 : List Value} {F0 : MH} {Q : Option Value → MH → Prop} {d : Nat} {S : SS}
theorem one_wr {E : MI} (h : (∃ i, E.2.1 = .putfield i) ∨ E.2.1 = .iastore ∨ E.2.1 = .bastore) {F : MH} {st : List Value} {q : MH × List Value} (hb : m_wr fty dfl F E st = some q) (lv : LVs) : m_one ro fty dfl E F lv st = some (q.1, E.1 + E.2.2.1, lv, q.2) := by
  obtain ⟨pc, i, len, a0, b0, z0⟩ := E
  simp only at h
  have h4 : m_alu i st = none := by rcases h with ⟨o, rfl⟩ | rfl | rfl <;> rfl
  have h5 : m_br (pc, i, len, a0, b0, z0) st = none := by rcases h with ⟨o, rfl⟩ | rfl | rfl <;> rfl
  have h6 : m_rd ro F (pc, i, len, a0, b0, z0) st = none := by rcases h with ⟨o, rfl⟩ | rfl | rfl <;> rfl
  unfold m_one
  have h1 : m_push (pc, i, len, a0, b0, z0) lv = none := by rcases h with ⟨o, rfl⟩ | rfl | rfl <;> rfl
  have h2 : m_cst (pc, i, len, a0, b0, z0) = none := by rcases h with ⟨o, rfl⟩ | rfl | rfl <;> rfl
  have h3 : m_store (pc, i, len, a0, b0, z0) lv st = none := by rcases h with ⟨o, rfl⟩ | rfl | rfl <;> rfl
  rw [h1, h2, h3]
  simp only
  rw [h4]
  simp only
  rw [h5]
  simp only
  rw [h6]
  simp only
  rw [hb]
theorem b01 {x : Int32} (h0 : 0 ≤ x.toInt) (h1 : x.toInt ≤ 1) : x = 0 ∨ x = 1 := by
  rcases (show x.toInt = 0 ∨ x.toInt = 1 by omega) with e | e
  · exact Or.inl (z_of x e)
  · exact Or.inr (z_of x e)
theorem ftOK_ok {ty : FieldType} {v : AV} {w : Value} (h : ftOK ty v = true) (ho : okE Γ sets v.2.1 v.2.2.1 v.2.2.2.1 w) : narrow ty w = w ∧ fits ty w = true := by
  unfold ftOK at h
  split at h
  · obtain ⟨x, rfl⟩ := (k_is_int ho h).1; exact ⟨rfl, rfl⟩
  · simp only [Bool.and_eq_true, decide_eq_true_eq] at h
    have n := ho.num (k_is_int ho h.1).2
    obtain ⟨x, rfl⟩ := (k_is_int ho h.1).1
    simp only [vz] at n
    rcases b01 (x := x) (by omega) (by omega) with rfl | rfl <;> exact ⟨by decide, by decide⟩
  · have hk : k_is v.2.1 1 = true := by simpa [k_is] using h
    obtain ⟨x, rfl⟩ := (k_is_long ho hk).1; exact ⟨rfl, rfl⟩
  · have hk : k_is v.2.1 2 = true := by simpa [k_is] using h
    obtain ⟨⟨x, rfl, -⟩, -⟩ := k_is_ref ho hk; exact ⟨rfl, rfl⟩
  · have hk : k_is v.2.1 2 = true := by simpa [k_is] using h
    obtain ⟨⟨x, rfl, -⟩, -⟩ := k_is_ref ho hk; exact ⟨rfl, rfl⟩
  · cases h
/-- a write, out of the cell -/
theorem wr_one {E : MI} {rd : RD} {c : MC} {F : MH} {a k : Nat} {w : Value} {v : AV} {x : Int32} (hG : GOK Γ roles) {r : Nat} (hr : Γ a = some r) (hrd : roles[r]? = some rd) (hok : wrOK fty E rd v = true) (hc : okCell Γ sets rd c) (hm : m_cell ro F a = some c) (hv : okE Γ sets v.2.1 v.2.2.1 v.2.2.2.1 w) (hlt : k < rd.2.2.length) (hk : if isPut E = true then k = E.2.2.2.2.1 else 0 ≤ x.toInt ∧ x.toInt.toNat = k) (lv : LVs) (t : List Value) :
    a < KB ∧ ∃ c', m_one ro fty dfl E F lv (if isPut E = true then w :: .ref a :: t else w :: .int x :: .ref a :: t) = some (F.set a c', E.1 + E.2.2.1, lv, t) ∧ cont c' = (cont c).set k w ∧ (okL Γ sets rd.2.2 (cont c') → okCell Γ sets rd c') := by
  obtain ⟨g1, g2, g3, g4⟩ := hG a r rd hr hrd
  obtain ⟨pc, i, len, a0, b0, z0⟩ := E
  unfold wrOK at hok
  simp only at hok
  have hx : x.toNatClampNeg = x.toInt.toNat := rfl
  split at hok
  · rename_i idx
    have hg : isPut (pc, Instr.putfield idx, len, a0, b0, z0) = true := rfl
    rw [if_pos hg] at hk ⊢
    simp only [Bool.and_eq_true, beq_iff_eq, Bool.not_eq_true', beq_eq_false_iff_ne, ne_eq] at hok
    obtain ⟨⟨⟨o1, o2⟩, o3⟩, o4⟩ := hok
    have hKB := g4 o1 o3
    rcases hc with ⟨e, ⟨fs, rfl⟩, hL⟩ | ⟨e, -⟩ | ⟨e, -⟩ | ⟨e, -⟩
    · have hF : F[a]? = some (.inl (rd.2.1, fs)) := by unfold m_cell at hm; rw [if_pos hKB] at hm; exact hm
      obtain ⟨n1, n2⟩ := ftOK_ok o4 hv
      simp only at hk
      have hl : b0 < fs.length := by have := hL.1; simp only [cont] at this; omega
      refine ⟨hKB, .inl (rd.2.1, fs.set b0 w), ?_, by simp only [cont, hk], fun h => Or.inl ⟨o1, ⟨_, rfl⟩, h⟩⟩
      refine one_wr (Or.inl ⟨idx, rfl⟩) ?_ lv (q := (F.set a (.inl (rd.2.1, fs.set b0 w)), t))
      simp only [m_wr, hF]
      rw [if_pos ⟨hKB, o2, hl, by rw [o2]; exact n1, by rw [o2]; exact n2⟩]
    · omega
    · omega
    · omega
  · have hg : isPut (pc, Instr.iastore, len, a0, b0, z0) = false := rfl
    rw [if_neg (by rw [hg]; decide)] at hk ⊢
    simp only [Bool.and_eq_true, beq_iff_eq] at hok
    obtain ⟨⟨o1, o2⟩, o3⟩ := hok
    have hKB := g3 o1
    obtain ⟨y, rfl⟩ := (k_is_int hv o3).1
    rcases hc with ⟨e, -⟩ | ⟨e, ⟨xs, rfl⟩, hL⟩ | ⟨e, -⟩ | ⟨e, -⟩
    · omega
    · have hF : F[a]? = some (.inr (.inl (rd.2.1, xs))) := by unfold m_cell at hm; rw [if_pos hKB] at hm; exact hm
      have hl : k < xs.length := by have := hL.1; simp only [cont, List.length_map] at this; omega
      refine ⟨hKB, .inr (.inl (rd.2.1, xs.set k y)), ?_, by simp only [cont, List.map_set], fun h => Or.inr (Or.inl ⟨o1, ⟨_, rfl⟩, h⟩)⟩
      refine one_wr (Or.inr (Or.inl rfl)) ?_ lv (q := (F.set a (.inr (.inl (rd.2.1, xs.set k y))), t))
      simp only [m_wr, hF]
      rw [if_pos ⟨hKB, o2, m_in_of hk.1 (by omega)⟩, hx, hk.2]
    · omega
    · omega
  · have hg : isPut (pc, Instr.bastore, len, a0, b0, z0) = false := rfl
    rw [if_neg (by rw [hg]; decide)] at hk ⊢
    simp only [Bool.and_eq_true, beq_iff_eq, decide_eq_true_eq] at hok
    obtain ⟨⟨o1, o2⟩, o3, o4⟩ := hok
    have hKB := g3 o1
    have n := hv.num (k_is_int hv o3).2
    obtain ⟨y, rfl⟩ := (k_is_int hv o3).1
    simp only [vz] at n
    have hy : vp_nar .boolean y = y := by rcases b01 (x := y) (by omega) (by omega) with rfl | rfl <;> decide
    rcases hc with ⟨e, -⟩ | ⟨e, ⟨xs, rfl⟩, hL⟩ | ⟨e, -⟩ | ⟨e, -⟩
    · omega
    · have hF : F[a]? = some (.inr (.inl (rd.2.1, xs))) := by unfold m_cell at hm; rw [if_pos hKB] at hm; exact hm
      have hl : k < xs.length := by have := hL.1; simp only [cont, List.length_map] at this; omega
      refine ⟨hKB, .inr (.inl (rd.2.1, xs.set k y)), ?_, by simp only [cont, List.map_set], fun h => Or.inr (Or.inl ⟨o1, ⟨_, rfl⟩, h⟩)⟩
      refine one_wr (Or.inr (Or.inr rfl)) ?_ lv (q := (F.set a (.inr (.inl (rd.2.1, xs.set k y))), t))
      simp only [m_wr, hF]
      rw [if_pos ⟨hKB, o2, m_in_of hk.1 (by omega)⟩, hx, hk.2, hy]
    · omega
    · omega
  · cases hok
theorem cell_set {F : MH} {a b : Nat} {c c' : MC} (ha : a < KB) (hc : m_cell ro F a = some c) : m_cell ro (F.set a c') b = if b = a then some c' else m_cell ro F b := by
  unfold m_cell at hc ⊢
  rw [if_pos ha] at hc
  have hl := (List.getElem?_eq_some_iff.mp hc).1
  by_cases hb : b = a
  · subst hb
    rw [if_pos rfl, if_pos ha, List.getElem?_set_self hl]
  · rw [if_neg hb]
    split
    · rw [List.getElem?_set_ne (Ne.symm hb)]
    · rfl
theorem g_w1 (hG : GOK Γ roles) {E : MI × Option FieldType} (hE : m_at MT S.1.1 S.1.2.1 = some E) {p i v : AV} {l h : Nat} {r : List AV} {S1 : SS} (hx : x_w1 sets roles fty ms S E.1 p i v l h r = some S1) (hin : ∀ a ∈ r, a ∈ S.1.2.2.2) (hpm : p ∈ S.1.2.2.2) (him : i ∈ S.1.2.2.2) (hvm : v ∈ S.1.2.2.2)
    (hop : ∀ vs cst, (∀ a ∈ s_av S, okA Γ sets vs a) → cst.map some = S.1.2.2.2.map (fun a => vs[a.1]?) → ∃ a w x t k, cst = (if isPut E.1 = true then w :: .ref a :: t else w :: .int x :: .ref a :: t) ∧ vs[p.1]? = some (.ref a) ∧ vs[v.1]? = some w ∧ t.map some = r.map (fun a => vs[a.1]?) ∧ l ≤ k ∧ k ≤ h ∧ (if isPut E.1 = true then k = E.1.2.2.2.2.1 else (0 ≤ x.toInt ∧ x.toInt.toNat = k) ∧ vs[i.1]? = some (.int x)) ∧ (isPut E.1 = true → l = h))
    (hgd : Good Γ sets roles ms MT ro fty dfl vs0 F0 Q d S1) : Good Γ sets roles ms MT ro fty dfl vs0 F0 Q d S := by
  intro vs f fs F hp hS hW hF
  obtain ⟨lv, cst, rfl, hl, hc1, hc2⟩ := hS.frame
  obtain ⟨a, w, x, t, k, rfl, q1, qv, q2, kl, kh, q3, q4⟩ := hop vs cst hS.1 hc1
  unfold x_w1 at hx
  split at hx
  · rename_i hp2
    split at hx
    · rename_i rd hrd
      split at hx
      · rename_i hok
        obtain ⟨o1, o2, o3, o4⟩ := hok
        cases hx
        obtain ⟨v0, e1, e2, -⟩ := hc2 p hpm
        obtain rfl : v0 = .ref a := Option.some.inj (e1.symm.trans q1)
        obtain ⟨⟨a', e3, hΓ⟩, -⟩ := k_is_ref e2 (by rw [hp2.1]; rfl)
        cases e3
        obtain ⟨c, hm, hcell⟩ := hW a _ rd hΓ hrd
        obtain ⟨w0, e4, e5, -⟩ := id (hc2 v hvm)
        obtain rfl : w0 = w := Option.some.inj (e4.symm.trans qv)
        have h3 : ¬ rd.1 = 3 := by
          intro e
          unfold wrOK at o1
          split at o1 <;> simp [e] at o1
        have hcl := okCell_get hcell h3
        obtain ⟨hKB, c', s1, s2, s3⟩ := wr_one (ro := ro) (dfl := dfl) (x := x) (k := k) hG hΓ hrd o1 hcell hm e5 (by omega) (by
          cases hq : isPut E.1 with
          | true => rw [hq] at q3; simpa using q3
          | false => rw [hq] at q3; simp at q3 ⊢; exact q3.1) lv t
        have hkey : ∀ j e, rd.2.2[j]? = some e → l ≤ j → j ≤ h → okE Γ sets e.1 e.2.1 e.2.2 w0 := by
          intro j e he j1 j2
          have hm2 : e ∈ (rd.2.2.drop l).take (h - l + 1) := by
            rw [List.mem_iff_getElem?]
            refine ⟨j - l, ?_⟩
            rw [List.getElem?_take, if_pos (by omega), List.getElem?_drop, show l + (j - l) = j by omega]
            exact he
          exact x_sub_ok (List.all_eq_true.mp o3 e hm2) e5
        have hL' : okL Γ sets rd.2.2 (cont c') := by
          rw [s2]
          refine ⟨by rw [List.length_set]; exact hcl.1, fun j e he => ?_⟩
          rw [List.getElem?_set]
          by_cases hj : k = j
          · subst hj
            have : k < (cont c).length := by rw [hcl.1]; omega
            rw [if_pos rfl, if_pos this]
            exact ⟨w0, rfl, hkey k e he kl kh⟩
          · rw [if_neg hj]
            exact hcl.2 j e he
        have hcell' := s3 hL'
        have hW' : WT Γ sets roles ro (F.set a c') := by
          intro b r2 rd2 hb hb2
          rw [cell_set hKB hm]
          by_cases hba : b = a
          · subst hba
            rw [if_pos rfl]
            rw [hΓ] at hb
            cases hb
            rw [hrd] at hb2
            cases hb2
            exact ⟨c', rfl, hcell'⟩
          · rw [if_neg hba]
            exact hW b r2 rd2 hb hb2
        have hlen : clen c' = clen c := by unfold clen; rw [s2, List.length_set]
        have hF' : FRm Γ ro ms F0 (F.set a c') := by
          intro b r2 j c0 c1 hb hj hb0 hb1
          rw [cell_set hKB hm] at hb1
          by_cases hba : b = a
          · subst hba
            rw [if_pos rfl] at hb1
            cases hb1
            rw [hΓ] at hb
            cases hb
            obtain ⟨f1, f2⟩ := hF b _ j c0 c hΓ hj hb0 hm
            refine ⟨?_, hlen.trans f2⟩
            rw [s2, List.getElem?_set_ne, f1]
            intro e
            subst e
            obtain ⟨q, hq, hq2⟩ := List.any_eq_true.mp o4
            simp only [Bool.and_eq_true, beq_iff_eq, decide_eq_true_eq] at hq2
            have : inM ms p.2.2.1.toNat k = true := List.any_eq_true.mpr ⟨q, hq, by simp only [Bool.and_eq_true, beq_iff_eq, decide_eq_true_eq]; omega⟩
            rw [this] at hj
            cases hj
          · rw [if_neg hba] at hb1
            exact hF b r2 j c0 c1 hb hj hb0 hb1
        refine TT.one hE s1 ?_
        refine hgd vs (S.1.1, E.1.1 + E.1.2.2.1, lv, t) fs (F.set a c') hp ?_ hW' hF'
        have hS' : okS Γ sets ro vs (s_wrt p.1 p.2.2.1.toNat l h i v S) (S.1.1, S.1.2.1, lv, (if isPut E.1 = true then w0 :: .ref a :: t else w0 :: .int x :: .ref a :: t)) fs (F.set a c') := by
          obtain ⟨h1, h2, h3, h4, h5, h6, h7⟩ := hS
          refine ⟨fun b hb => ?_, h2, h3, fun q hq => ?_, fun q hq => ?_, h6, h7⟩
          · simp only [s_av, s_wrt, List.map_append, List.flatMap_append, List.mem_append] at hb
            rcases hb with hb | hb | (hb | hb) | (hb | hb)
            · exact h1 b (List.mem_append_left _ hb)
            · exact h1 b (List.mem_append_right _ (List.mem_append_left _ hb))
            · split at hb
              · simp only [List.map_cons, List.map_nil, List.mem_cons, List.not_mem_nil, or_false] at hb
                subst hb
                exact hc2 _ hvm
              · simp at hb
            · obtain ⟨q, hq, rfl⟩ := List.mem_map.mp hb
              exact h1 _ (mem_fact ((List.mem_filter.mp hq).1))
            · split at hb
              · simp at hb
              · simp only [List.flatMap_cons, List.flatMap_nil, List.append_nil, List.mem_cons, List.not_mem_nil, or_false] at hb
                rcases hb with rfl | rfl
                · exact hc2 _ him
                · exact hc2 _ hvm
            · obtain ⟨q, hq, hq2⟩ := List.mem_flatMap.mp hb
              exact h1 _ (List.mem_append_right _ (List.mem_append_right _ (List.mem_append_right _ (List.mem_flatMap.mpr ⟨q, (List.mem_filter.mp hq).1, hq2⟩))))
          · rcases List.mem_append.mp hq with hq | hq
            · split at hq
              · rename_i hlh
                simp only [List.mem_cons, List.not_mem_nil, or_false] at hq
                subst hq
                have hkl : k = l := by omega
                refine ⟨a, c', w0, q1, hΓ, by rw [cell_set hKB hm, if_pos rfl], qv, ?_⟩
                simp only
                rw [if_neg (by omega), s2, ← hkl, List.getElem?_set_self (by rw [hcl.1]; omega)]
              · cases hq
            · obtain ⟨hq1, hq2⟩ := List.mem_filter.mp hq
              obtain ⟨b, cb, u, g1, g2, g3, g4, g5⟩ := h4 q hq1
              simp only [Bool.not_eq_true', Bool.and_eq_false_iff, beq_eq_false_iff_ne, ne_eq, decide_eq_false_iff_not] at hq2
              by_cases hba : b = a
              · subst hba
                have g2' := Option.some.inj (hΓ.symm.trans g2)
                cases hm.symm.trans g3
                refine ⟨b, c', u, g1, g2, by rw [cell_set hKB hm, if_pos rfl], g4, ?_⟩
                split at g5
                · rename_i e5000
                  rw [if_pos e5000, hlen]; exact g5
                · rename_i e5000
                  rw [if_neg e5000, s2, List.getElem?_set_ne (by
                    rcases hq2 with (z | z) | z
                    · exact absurd g2'.symm z
                    · omega
                    · omega)]
                  exact g5
              · exact ⟨b, cb, u, g1, g2, by rw [cell_set hKB hm, if_neg hba]; exact g3, g4, g5⟩
          · rcases List.mem_append.mp hq with hq | hq
            · split at hq
              · cases hq
              · rename_i hlh
                simp only [List.mem_cons, List.not_mem_nil, or_false] at hq
                subst hq
                have hnp : isPut E.1 = false := by
                  cases hq : isPut E.1 with
                  | true => exact absurd (q4 hq) hlh
                  | false => rfl
                rw [if_neg (by rw [hnp]; decide)] at q3
                refine ⟨a, c', x, w0, q1, hΓ, by rw [cell_set hKB hm, if_pos rfl], q3.2, q3.1.1, qv, ?_⟩
                rw [s2, q3.1.2, List.getElem?_set_self (by rw [hcl.1]; omega)]
            · obtain ⟨hq1, hq2⟩ := List.mem_filter.mp hq
              obtain ⟨b, cb, y, u, g1, g2, g3, g4, g5, g6, g7⟩ := h5 q hq1
              simp only [Bool.not_eq_true', beq_eq_false_iff_ne, ne_eq] at hq2
              have hba : ¬ b = a := by
                intro e
                subst e
                rw [hΓ] at g2
                exact hq2 (Option.some.inj g2).symm
              exact ⟨b, cb, y, u, g1, g2, by rw [cell_set hKB hm, if_neg hba]; exact g3, g4, g5, g6, g7⟩
        exact hS'.top hl (fun b hb => hc2 b (hin b hb)) q2
      · cases hx
    · cases hx
  · cases hx
theorem g_wr (hG : GOK Γ roles) {E : MI × Option FieldType} (hE : m_at MT S.1.1 S.1.2.1 = some E) {S1 : SS} (hx : x_wr sets roles fty ms S E.1 = some S1) (hgd : Good Γ sets roles ms MT ro fty dfl vs0 F0 Q d S1) : Good Γ sets roles ms MT ro fty dfl vs0 F0 Q d S := by
  unfold x_wr at hx
  split at hx
  · rename_i hput
    split at hx
    · rename_i v p r hst
      have hv : v ∈ S.1.2.2.2 := by rw [hst]; simp
      have hp : p ∈ S.1.2.2.2 := by rw [hst]; simp
      have hx0 := hx
      unfold x_w1 at hx0
      split at hx0
      · rename_i hp2
        refine g_w1 hG hE hx (fun a ha => by rw [hst]; simp [ha]) hp hp hv (fun vs cst hA hc => ?_) hgd
        rw [hst] at hc
        obtain ⟨w, t, rfl, e1, e2⟩ := stk1 hc
        obtain ⟨u, t, rfl, e3, e4⟩ := stk1 e2
        obtain ⟨u', e5, e6, -⟩ := hA p (mem_top hp)
        obtain rfl : u' = u := Option.some.inj (e5.symm.trans e3)
        obtain ⟨⟨a', e7, -⟩, -⟩ := k_is_ref e6 (by rw [hp2.1]; rfl)
        subst e7
        refine ⟨a', w, 0, t, E.1.2.2.2.2.1, by rw [if_pos hput], e3, e1, e4, Nat.le_refl _, Nat.le_refl _, by rw [if_pos hput], fun _ => rfl⟩
      · cases hx0
    · cases hx
  · rename_i hput
    split at hx
    · rename_i v i p r hst
      split at hx
      · rename_i hi
        have hv : v ∈ S.1.2.2.2 := by rw [hst]; simp
        have hp : p ∈ S.1.2.2.2 := by rw [hst]; simp
        have hi2 : i ∈ S.1.2.2.2 := by rw [hst]; simp
        have hx0 := hx
        unfold x_w1 at hx0
        split at hx0
        · rename_i hp2
          refine g_w1 hG hE hx (fun a ha => by rw [hst]; simp [ha]) hp hi2 hv (fun vs cst hA hc => ?_) hgd
          rw [hst] at hc
          obtain ⟨w, t, rfl, e1, e2⟩ := stk1 hc
          obtain ⟨y, t, rfl, e3, e4⟩ := stk1 e2
          obtain ⟨u, t, rfl, f3, f4⟩ := stk1 e4
          obtain ⟨u', e5, e6, -⟩ := hA p (mem_top hp)
          obtain rfl : u' = u := Option.some.inj (e5.symm.trans f3)
          obtain ⟨⟨a', e7, -⟩, -⟩ := k_is_ref e6 (by rw [hp2.1]; rfl)
          subst e7
          obtain ⟨y', e5, e6, -⟩ := hA i (mem_top hi2)
          obtain rfl : y' = y := Option.some.inj (e5.symm.trans e3)
          have n := e6.num (k_is_int e6 hi.1).2
          obtain ⟨z, e7⟩ := (k_is_int e6 hi.1).1
          subst e7
          simp only [vz] at n
          refine ⟨a', w, z, t, z.toInt.toNat, by rw [if_neg hput], f3, e1, f4, by omega, by omega, by rw [if_neg hput]; exact ⟨⟨by omega, rfl⟩, e3⟩, fun e => absurd e hput⟩
        · cases hx0
      · cases hx
    · cases hx
end SxQ
end
section
/-! SYMBOLIC RUNS, XVIII: calls and returns -/
def catA (a : AV) : Nat := if a.2.1 = 1 then 2 else 1
def x_args : Nat → List AV → List (Nat × AV)
  | _, [] => []
  | i, a :: t => (i, a) :: x_args (i + catA a) t
def x_rcv (roles : List RD) (E : MI) (as : List AV) : Bool := match E.2.1 with
  | .invokestatic _ => true
  | .invokespecial _ => (match as with | p :: _ => decide (1 ≤ E.2.2.2.2.1) && (p.2.1 == 2 && (match roles[p.2.2.1.toNat]? with | some rd => rd.1 == 0 && !(rd.2.1 == 99) | none => false)) | _ => false)
  | .invokevirtual _ => (match as with | p :: _ => decide (1 ≤ E.2.2.2.2.1) && (p.2.1 == 2 && (match roles[p.2.2.1.toNat]? with | some rd => rd.1 == 0 && decide ((rd.2.1 : Int) = E.2.2.2.2.2) | none => false)) | _ => false)
  | _ => false
def x_call (MT : List MM) (roles : List RD) (S : SS) (E : MI) : Option SS :=
  if E.2.2.2.2.1 ≤ S.1.2.2.2.length ∧ ((S.1.2.2.2.drop E.2.2.2.2.1).map catA).sum ≤ 8 ∧ ¬ E.2.2.2.1 = 9999 ∧ ¬ E.2.2.2.1 = 9998 ∧ x_rcv roles E (S.1.2.2.2.take E.2.2.2.2.1).reverse = true then
    (match MT[E.2.2.2.1]? with
    | some M => if 0 < E.2.2.2.1 ∧ ((S.1.2.2.2.take E.2.2.2.2.1).reverse.map catA).sum ≤ M.2.2.1 then
        some ((E.2.2.2.1, 0, x_args 0 (S.1.2.2.2.take E.2.2.2.2.1).reverse, []), (S.1.1, S.1.2.1, S.1.2.2.1, S.1.2.2.2.drop E.2.2.2.2.1) :: S.2.1, S.2.2) else none
    | none => none) else none
def rtOK (ty : FieldType) (v : AV) : Bool := ftOK ty v || (match ty with
  | .byte => k_is v.2.1 0 && decide (-128 ≤ v.2.2.1 ∧ v.2.2.2.1 ≤ 127)
  | .char => k_is v.2.1 0 && decide (0 ≤ v.2.2.1 ∧ v.2.2.2.1 ≤ 65535)
  | _ => false)
/-- what is returned: none: no return -/
def x_ret (rt : Option FieldType) (i : Instr) (st : List AV) : Option (Option AV) := match i with
  | .ireturn => (match st with | [a] => (match rt with | some ty => if k_is a.2.1 0 = true ∧ rtOK ty a = true then some (some a) else none | none => none) | _ => none)
  | .lreturn => (match st with | [a] => if a.2.1 = 1 ∧ rt = some .long then some (some a) else none | _ => none)
  | .return_ => (match st with | [] => if rt = none then some none else none | _ => none)
  | _ => none
def x_pop (S : SS) (r : Option AV) : Option SS := match S.2.1 with
  | g :: gs => some ((g.1, g.2.1 + 3, g.2.2.1, r.toList ++ g.2.2.2), gs, S.2.2)
  | [] => none
section SxR
variable {Γ : Nat → Option Nat} {sets : List (List Int)} {roles : List RD} {ms : Mods} {MT : List MM} {ro : Nat → Option MC} {fty : Nat → Nat → FieldType} {dfl : Nat → List Value} {vs0 : List Value} {F0 : MH} {Q : Option Value → MH → Prop} {d : Nat} {S : SS}
theorem cat_one {vs : List Value} {a : AV} {v : Value} (h : okA Γ sets vs a) (hv : vs[a.1]? = some v) : v.category = catA a := by
  unfold catA
  split
  · rename_i e; exact (okA_cat h hv).mpr e
  · rename_i e; exact okA_cat1 h hv e
theorem cat_all {vs : List Value} : ∀ {as : List AV} {ws : List Value}, ws.map some = as.map (fun a => vs[a.1]?) → (∀ a ∈ as, okA Γ sets vs a) → ws.map (fun v => v.category) = as.map catA
  | [], [], _, _ => rfl
  | a :: as, [], h, _ => by simp at h
  | [], w :: ws, h, _ => by simp at h
  | a :: as, w :: ws, h, ho => by
    simp only [List.map_cons, List.cons.injEq] at h ⊢
    exact ⟨cat_one (ho a List.mem_cons_self) h.1.symm, cat_all h.2 (fun b hb => ho b (List.mem_cons_of_mem _ hb))⟩
theorem args_ok {vs : List Value} : ∀ {as : List AV} {ws : List Value} {i : Nat}, ws.map some = as.map (fun a => vs[a.1]?) → (∀ a ∈ as, okA Γ sets vs a) → ∀ q ∈ x_args i as, okA Γ sets vs q.2 ∧ i ≤ q.1 ∧ ∃ v, vs[q.2.1]? = some v ∧ m_get (lv_args i ws) q.1 = some v
  | [], _, _, _, _, q, hq => by simp [x_args] at hq
  | a :: as, [], _, h, _, _, _ => by simp at h
  | a :: as, w :: ws, i, h, ho, q, hq => by
    simp only [List.map_cons, List.cons.injEq] at h
    simp only [x_args, List.mem_cons] at hq
    have hc := cat_one (ho a List.mem_cons_self) h.1.symm
    rcases hq with rfl | hq
    · exact ⟨ho a List.mem_cons_self, Nat.le_refl _, w, h.1.symm, by simp [m_get, lv_args]⟩
    · obtain ⟨h1, h2, v, h3, h4⟩ := args_ok (i := i + catA a) h.2 (fun b hb => ho b (List.mem_cons_of_mem _ hb)) q hq
      have hp : 1 ≤ catA a := by unfold catA; split <;> omega
      refine ⟨h1, by omega, v, h3, ?_⟩
      simp only [m_get, lv_args, hc, List.find?_cons] at h4 ⊢
      have hne : (i == q.1) = false := by simp; omega
      rw [hne]
      have he : (if catA a = 2 then i + 2 else i + 1) = i + catA a := by unfold catA; split <;> simp
      rw [he]; exact h4
theorem one_inv {E : MI} (h : (∃ i, E.2.1 = .invokestatic i) ∨ (∃ i, E.2.1 = .invokespecial i) ∨ (∃ i, E.2.1 = .invokevirtual i)) (F : MH) (lv : LVs) (st : List Value) (rt : Option FieldType) : m_one ro fty dfl E F lv st = none ∧ m_ret rt E st = none := by
  obtain ⟨pc, i, len, a0, b0, z0⟩ := E
  simp only at h
  rcases h with ⟨o, rfl⟩ | ⟨o, rfl⟩ | ⟨o, rfl⟩ <;> exact ⟨rfl, rfl⟩
theorem rcv_inv {E : MI} {as : List AV} (h : x_rcv roles E as = true) : (∃ i, E.2.1 = .invokestatic i) ∨ (∃ i, E.2.1 = .invokespecial i) ∨ (∃ i, E.2.1 = .invokevirtual i) := by
  unfold x_rcv at h
  split at h
  · rename_i i e; exact Or.inl ⟨i, e⟩
  · rename_i i e; exact Or.inr (Or.inl ⟨i, e⟩)
  · rename_i i e; exact Or.inr (Or.inr ⟨i, e⟩)
  · cases h
theorem inv_ok (hG : GOK Γ roles) {E : MI} {vs : List Value} {F : MH} (hW : WT Γ sets roles ro F) {st : List AV} {cst : List Value} (hr : x_rcv roles E (st.take E.2.2.2.2.1).reverse = true) (hc : cst.map some = st.map (fun a => vs[a.1]?)) (ho : ∀ a ∈ st, okA Γ sets vs a) (hn : E.2.2.2.2.1 ≤ st.length) (h8 : ((st.drop E.2.2.2.2.1).map catA).sum ≤ 8) :
    m_inv ro F E cst = some (E.2.2.2.1, (cst.take E.2.2.2.2.1).reverse, cst.drop E.2.2.2.2.1) := by
  obtain ⟨pc, i, len, a0, n, z0⟩ := E
  simp only at hr hn h8 ⊢
  have hlen : cst.length = st.length := by have := congrArg List.length hc; simpa using this
  have hd : ((cst.drop n).map (fun v => v.category)).sum ≤ 8 := by
    rw [cat_all (as := st.drop n) (by rw [List.map_drop, List.map_drop, hc]) (fun a ha => ho a (List.mem_of_mem_drop ha))]; exact h8
  have ht : (cst.take n).reverse.map some = (st.take n).reverse.map (fun a => vs[a.1]?) := by
    rw [List.map_reverse, List.map_reverse, List.map_take, List.map_take, hc]
  have hta : ∀ a ∈ (st.take n).reverse, okA Γ sets vs a := fun a ha => ho a (List.mem_of_mem_take (List.mem_reverse.mp ha))
  unfold x_rcv at hr
  simp only at hr
  split at hr
  · simp only [m_inv]
    rw [if_pos ⟨by omega, hd⟩]
  · split at hr
    · rename_i p as' has
      simp only [Bool.and_eq_true, decide_eq_true_eq, beq_iff_eq] at hr
      obtain ⟨r1, r2, r3⟩ := hr
      rw [has] at ht hta
      obtain ⟨v, t, e1, e2, e3⟩ := stk1 ht
      obtain ⟨v', e4, e5, -⟩ := hta p List.mem_cons_self
      obtain rfl : v' = v := Option.some.inj (e4.symm.trans e2)
      obtain ⟨⟨a, e6, hΓ⟩, -⟩ := k_is_ref e5 (by rw [r2]; rfl)
      subst e6
      split at r3
      · rename_i rd hrd
        simp only [Bool.and_eq_true, beq_iff_eq, Bool.not_eq_true', beq_eq_false_iff_ne, ne_eq] at r3
        have hKB := (hG a _ rd hΓ hrd).2.2.2 r3.1 r3.2
        simp only [m_inv, m_iv]
        rw [if_pos ⟨r1, by omega, hd⟩, e1]
        simp only
        rw [if_pos (by simpa using hKB)]
      · cases r3
    · cases hr
  · split at hr
    · rename_i p as' has
      simp only [Bool.and_eq_true, decide_eq_true_eq, beq_iff_eq] at hr
      obtain ⟨r1, r2, r3⟩ := hr
      rw [has] at ht hta
      obtain ⟨v, t, e1, e2, e3⟩ := stk1 ht
      obtain ⟨v', e4, e5, -⟩ := hta p List.mem_cons_self
      obtain rfl : v' = v := Option.some.inj (e4.symm.trans e2)
      obtain ⟨⟨a, e6, hΓ⟩, -⟩ := k_is_ref e5 (by rw [r2]; rfl)
      subst e6
      split at r3
      · rename_i rd hrd
        simp only [Bool.and_eq_true, beq_iff_eq, decide_eq_true_eq] at r3
        obtain ⟨c, hm, hcell⟩ := hW a _ rd hΓ hrd
        have hrc : ∃ fs, c = .inl (rd.2.1, fs) := by
          rcases hcell with ⟨-, h, -⟩ | ⟨e, -⟩ | ⟨e, -⟩ | ⟨e, -⟩
          · exact h
          all_goals (have := r3.1; omega)
        obtain ⟨fs, rfl⟩ := hrc
        simp only [m_inv, m_iv]
        rw [if_pos ⟨r1, by omega, hd⟩, e1]
        simp only
        rw [if_pos (by simp only [m_rc, hm]; simpa using r3.2)]
      · cases r3
    · cases hr
  · cases hr
theorem g_call (hG : GOK Γ roles) {E : MI × Option FieldType} (hE : m_at MT S.1.1 S.1.2.1 = some E) {S1 : SS} (hx : x_call MT roles S E.1 = some S1) (h : Good Γ sets roles ms MT ro fty dfl vs0 F0 Q d S1) : Good Γ sets roles ms MT ro fty dfl vs0 F0 Q (d + 1) S := by
  intro vs f fs F hp hS hW hF
  obtain ⟨lv, cst, rfl, hl, hc1, hc2⟩ := hS.frame
  unfold x_call at hx
  split at hx
  · rename_i hc
    obtain ⟨n1, n2, n3, n4, n5⟩ := hc
    split at hx
    · rename_i M hM
      split at hx
      · rename_i hr
        cases hx
        have hinv := inv_ok (ro := ro) hG hW n5 hc1 hc2 n1 n2
        obtain ⟨o1, o2⟩ := one_inv (ro := ro) (fty := fty) (dfl := dfl) (rcv_inv n5) F lv cst E.2
        have ht : (cst.take E.1.2.2.2.2.1).reverse.map some = (S.1.2.2.2.take E.1.2.2.2.2.1).reverse.map (fun a => vs[a.1]?) := by
          rw [List.map_reverse, List.map_reverse, List.map_take, List.map_take, hc1]
        have hta : ∀ a ∈ (S.1.2.2.2.take E.1.2.2.2.2.1).reverse, okA Γ sets vs a := fun a ha => hc2 a (List.mem_of_mem_take (List.mem_reverse.mp ha))
        have hroom : m_room MT E.1.2.2.2.1 (cst.take E.1.2.2.2.2.1).reverse = true := by
          unfold m_room
          rw [hM]
          simp only [decide_eq_true_eq]
          refine ⟨hr.1, ?_⟩
          rw [cat_all ht hta]; exact hr.2
        refine TT.call hE o1 o2 hinv n3 n4 hroom ?_
        have hk := h vs (E.1.2.2.2.1, 0, lv_args 0 (cst.take E.1.2.2.2.2.1).reverse, []) ((S.1.1, S.1.2.1, lv, cst.drop E.1.2.2.2.2.1) :: fs) F hp ?_ hW hF
        · exact hk
        · obtain ⟨h1, h2, h3, h4, h5, h6, h7⟩ := hS
          have hA := fun q hq => args_ok (i := 0) ht hta q hq
          refine ⟨fun b hb => ?_, ⟨rfl, rfl, fun q hq => (hA q hq).2.2, rfl⟩, ⟨⟨rfl, rfl, fun q hq => (hl q hq).2, ?_⟩, h3⟩, h4, h5, h6, h7⟩
          · simp only [s_av, s_avF, List.append_nil, List.flatMap_cons, List.mem_append] at hb
            rcases hb with hb | ((hb | hb) | hb) | hb
            · obtain ⟨q, hq, rfl⟩ := List.mem_map.mp hb
              exact (hA q hq).1
            · exact h1 b (List.mem_append_left _ (List.mem_append_left _ hb))
            · exact hc2 b (List.mem_of_mem_drop hb)
            · exact h1 b (List.mem_append_right _ (List.mem_append_left _ hb))
            · exact h1 b (List.mem_append_right _ (List.mem_append_right _ (List.mem_append.mpr hb)))
          · rw [List.map_drop, List.map_drop, hc1]
      · cases hx
    · cases hx
  · cases hx
theorem rtOK_ok {ty : FieldType} {v : AV} {w : Value} (h : rtOK ty v = true) (hk : k_is v.2.1 0 = true) (ho : okE Γ sets v.2.1 v.2.2.1 v.2.2.2.1 w) : narrow ty w = w := by
  unfold rtOK at h
  simp only [Bool.or_eq_true] at h
  rcases h with h | h
  · exact (ftOK_ok h ho).1
  · have n := ho.num (k_is_int ho hk).2
    obtain ⟨x, rfl⟩ := (k_is_int ho hk).1
    simp only [vz] at n
    split at h
    · simp only [Bool.and_eq_true, decide_eq_true_eq] at h
      have h1 := (z_i2b x).2.2 (by omega) (by omega)
      have h2 : x.toInt8.toInt32 = x := Int32.toInt_inj.mp h1
      show Value.int x.toInt8.toInt32 = Value.int x
      rw [h2]
    · simp only [Bool.and_eq_true, decide_eq_true_eq] at h
      have h1 := (z_i2c x).2.2 (by omega) (by omega)
      have h2 : (x.toUInt32 % 65536).toInt32 = x := Int32.toInt_inj.mp h1
      show Value.int (x.toUInt32 % 65536).toInt32 = Value.int x
      rw [h2]
    · cases h
theorem ret_one {E : MI} {rt : Option FieldType} {vs : List Value} {st : List AV} {cst : List Value} {r : Option AV} (hx : x_ret rt E.2.1 st = some r) (hc : cst.map some = st.map (fun a => vs[a.1]?)) (ho : ∀ a ∈ st, okA Γ sets vs a) (F : MH) (lv : LVs) :
    m_one ro fty dfl E F lv cst = none ∧ ∃ v, m_ret rt E cst = some v ∧ v.toList.map some = r.toList.map (fun a => vs[a.1]?) ∧ ∀ a ∈ r.toList, a ∈ st := by
  obtain ⟨pc, i, len, a0, n, z0⟩ := E
  unfold x_ret at hx
  simp only at hx
  split at hx
  · split at hx
    · rename_i a
      split at hx
      · rename_i ty
        split at hx
        · rename_i hk
          cases hx
          obtain ⟨v, t, rfl, e2, e3⟩ := stk1 hc
          obtain ⟨v', e4, e5, -⟩ := ho a List.mem_cons_self
          obtain rfl : v' = v := Option.some.inj (e4.symm.trans e2)
          have hn := rtOK_ok hk.2 hk.1 e5
          obtain ⟨x, rfl⟩ := (k_is_int e5 hk.1).1
          have : t = [] := by simpa using e3
          subst this
          refine ⟨rfl, some (.int x), ?_, by simp [e2], by simp⟩
          simp only [m_ret]
          rw [if_pos hn]
        · cases hx
      · cases hx
    · cases hx
  · split at hx
    · rename_i a
      split at hx
      · rename_i hk
        cases hx
        obtain ⟨v, t, rfl, e2, e3⟩ := stk1 hc
        obtain ⟨v', e4, e5, -⟩ := ho a List.mem_cons_self
        obtain rfl : v' = v := Option.some.inj (e4.symm.trans e2)
        obtain ⟨x, rfl⟩ := (k_is_long e5 (by rw [hk.1]; rfl)).1
        have : t = [] := by simpa using e3
        subst this
        refine ⟨rfl, some (.long x), ?_, by simp [e2], by simp⟩
        simp only [m_ret]
        rw [if_pos hk.2]
      · cases hx
    · cases hx
  · split at hx
    · split at hx
      · rename_i hk
        cases hx
        have : cst = [] := by simpa using hc
        subst this
        refine ⟨rfl, none, ?_, rfl, by simp⟩
        simp only [m_ret]
        rw [if_pos hk]
      · cases hx
    · cases hx
  · cases hx
/-- a return to a frame below -/
theorem g_ret {E : MI × Option FieldType} (hE : m_at MT S.1.1 S.1.2.1 = some E) {r : Option AV} {S1 : SS} (hx : x_ret E.2 E.1.2.1 S.1.2.2.2 = some r) (hp1 : x_pop S r = some S1) (h : Good Γ sets roles ms MT ro fty dfl vs0 F0 Q (d + 1) S1) : Good Γ sets roles ms MT ro fty dfl vs0 F0 Q d S := by
  intro vs f fs F hp hS hW hF
  obtain ⟨lv, cst, rfl, hl, hc1, hc2⟩ := hS.frame
  obtain ⟨o1, v, o2, o3, o4⟩ := ret_one (ro := ro) (fty := fty) (dfl := dfl) hx hc1 hc2 F lv
  unfold x_pop at hp1
  split at hp1
  · rename_i g gs hg
    cases hp1
    obtain ⟨h1, h2, h3, h4, h5, h6, h7⟩ := hS
    rw [hg] at h3
    cases fs with
    | nil => exact h3.elim
    | cons cf cfs =>
      obtain ⟨⟨k1, k2, k3, k4⟩, k5⟩ := h3
      refine TT.ret hE o1 o2 ?_
      have hk := h vs (cf.1, cf.2.1 + 3, cf.2.2.1, v.toList ++ cf.2.2.2) cfs F hp ?_ hW hF
      · exact hk
      · refine ⟨fun b hb => ?_, ⟨k1, by show g.2.1 + 3 = _; rw [k2], k3, ?_⟩, k5, h4, h5, h6, h7⟩
        · simp only [s_av, s_avF, List.mem_append] at hb
          rcases hb with (hb | hb | hb) | hb | hb
          · exact h1 b (List.mem_append_right _ (List.mem_append_left _ (by rw [hg]; exact List.mem_append_left _ (List.mem_append_left _ hb))))
          · exact hc2 b (o4 b hb)
          · exact h1 b (List.mem_append_right _ (List.mem_append_left _ (by rw [hg]; exact List.mem_append_left _ (List.mem_append_right _ hb))))
          · exact h1 b (List.mem_append_right _ (List.mem_append_left _ (by rw [hg]; exact List.mem_append_right _ hb)))
          · exact h1 b (List.mem_append_right _ (List.mem_append_right _ (List.mem_append.mpr hb)))
        · simp only [List.map_append]
          rw [o3, k4]
  · cases hp1
/-- the last return -/
theorem g_end {E : MI × Option FieldType} (hE : m_at MT S.1.1 S.1.2.1 = some E) {r : Option AV} (hx : x_ret E.2 E.1.2.1 S.1.2.2.2 = some r) (hnil : S.2.1 = [])
    (h : ∀ vs f F v, (∃ t, vs = vs0 ++ t) → okS Γ sets ro vs S f [] F → WT Γ sets roles ro F → FRm Γ ro ms F0 F → v.toList.map some = r.toList.map (fun a => vs[a.1]?) → (∀ a ∈ r.toList, okA Γ sets vs a) → Q v F) : Good Γ sets roles ms MT ro fty dfl vs0 F0 Q d S := by
  intro vs f fs F hp hS hW hF
  have hfs : fs = [] := by
    have := hS.2.2.1
    rw [hnil] at this
    cases fs with
    | nil => rfl
    | cons a b => exact this.elim
  subst hfs
  have hS0 := hS
  obtain ⟨lv, cst, rfl, hl, hc1, hc2⟩ := hS.frame
  obtain ⟨o1, v, o2, o3, o4⟩ := ret_one (ro := ro) (fty := fty) (dfl := dfl) hx hc1 hc2 F lv
  exact TT.ret hE o1 o2 (h vs _ F v hp hS0 hW hF o3 (fun a ha => hc2 a (o4 a ha)))
end SxR
end
section
/-! SYMBOLIC RUNS, XIX: one step of a state, all kinds together; the greater of two; values told apart -/
def x_df (S : SS) (E : MI) : Option (List SS) :=
  if ((m_b32 E.2.1).isSome || (m_d32 E.2.1).isSome) = true then (match S.1.2.2.2 with
    | y :: x :: r => if k_is x.2.1 0 = true ∧ k_is y.2.1 0 = true ∧ ((m_b32 E.2.1).isSome = true ∨ ((m_d32 E.2.1).isSome = true ∧ (0 < y.2.2.1 ∨ y.2.2.2.1 < 0))) then
        some [s_top (s_sum (x_bin S E.2.1 x y).2 (s_up S)) (E.1 + E.2.2.1) S.1.2.2.1 ((x_bin S E.2.1 x y).1 :: r)] else none
    | _ => none)
  else if ((m_b64 E.2.1).isSome || (m_d64 E.2.1).isSome) = true then (match S.1.2.2.2 with
    | y :: x :: r => if k_is x.2.1 1 = true ∧ k_is y.2.1 1 = true ∧ ((m_b64 E.2.1).isSome = true ∨ ((m_d64 E.2.1).isSome = true ∧ (0 < y.2.2.1 ∨ y.2.2.2.1 < 0))) then
        some [s_top (s_sum [] (s_up S)) (E.1 + E.2.2.1) S.1.2.2.1 ((S.2.2.2.2.2, 1, (l_iv E.2.1 x y).1, (l_iv E.2.1 x y).2, l_rl E.2.1 x y) :: r)] else none
    | _ => none)
  else match x_stk E.2.1 S.1.2.2.2 with
    | some st1 => some [s_top S (E.1 + E.2.2.1) S.1.2.2.1 st1]
    | none => (match S.1.2.2.2 with
      | x :: r => if k_is x.2.1 0 = true then (match x_un E.2.1 x S.2.2.2.2.2 with
          | some a => some [s_top (s_sum [] (s_up S)) (E.1 + E.2.2.1) S.1.2.2.1 (a :: r)]
          | none => none) else none
      | _ => none)
def x_st2 (sets : List (List Int)) (roles : List RD) (fty : Nat → Nat → FieldType) (MT : List MM) (ms : Mods) (S : SS) (E : MI) : Option (List SS) := match E.2.1 with
  | .goto off => (match m_to E.1 off with | some t => some [s_top S t S.1.2.2.1 S.1.2.2.2] | none => none)
  | .if_icmp c off => (match m_to E.1 off, S.1.2.2.2 with
    | some t, y :: x :: r => if k_is x.2.1 0 = true ∧ k_is y.2.1 0 = true then (if (isC x && isC y) = true then some [s_top S (if cz c x.2.2.1 y.2.2.1 = true then t else E.1 + 3) S.1.2.2.1 r] else some (x_cmp S c x y t (E.1 + 3) r)) else none
    | _, _ => none)
  | .ifCond c off => (match m_to E.1 off, S.1.2.2.2 with
    | some t, x :: r => if k_is x.2.1 0 = true then (if isC x = true then some [s_top S (if cz c x.2.2.1 0 = true then t else E.1 + 3) S.1.2.2.1 r] else some (x_cmp (s_up S) c x (S.2.2.2.2.2, 0, 0, 0, []) t (E.1 + 3) r)) else none
    | _, _ => none)
  | .lcmp => (match m_at MT S.1.1 (E.1 + E.2.2.1), S.1.2.2.2 with
    | some E2, y :: x :: r => (match E2.1.2.1 with
      | .ifCond c off => (match m_to E2.1.1 off with
        | some t => if k_is x.2.1 1 = true ∧ k_is y.2.1 1 = true then some (x_cmp S c x y t (E2.1.1 + 3) r) else none
        | none => none)
      | _ => none)
    | _, _ => none)
  | .iinc i c => (match x_get S.1.2.2.1 i with
    | some a => if k_is a.2.1 0 = true ∧ -2147483648 ≤ c ∧ c ≤ 2147483647 then some [s_top (s_up S) (E.1 + E.2.2.1) (x_put1 S.1.2.2.1 i (x_ic a c S.2.2.2.2.2)) S.1.2.2.2] else none
    | none => none)
  | .tableswitch _ _ _ _ => (match S.1.2.2.2 with | x :: r => if k_is x.2.1 0 = true then x_sw S E x r else none | _ => none)
  | .lookupswitch _ _ => (match S.1.2.2.2 with | x :: r => if k_is x.2.1 0 = true then x_sw S E x r else none | _ => none)
  | .getfield _ => (x_rd roles S E).map fun s => [s]
  | .iaload => (x_rd roles S E).map fun s => [s]
  | .baload => (x_rd roles S E).map fun s => [s]
  | .aaload => (x_rd roles S E).map fun s => [s]
  | .arraylength => (x_al roles S E).map fun s => [s]
  | .putfield _ => (x_wr sets roles fty ms S E).map fun s => [s]
  | .iastore => (x_wr sets roles fty ms S E).map fun s => [s]
  | .bastore => (x_wr sets roles fty ms S E).map fun s => [s]
  | .ishr => (match S.1.2.2.2 with
    | y :: x :: r => if k_is x.2.1 0 = true ∧ y.2.1 = 0 ∧ y.2.2.1 = 0 ∧ y.2.2.2.1 = 0 then some [s_top S (E.1 + E.2.2.1) S.1.2.2.1 (x :: r)] else x_df S E
    | _ => none)
  | .invokestatic _ => none
  | .invokevirtual _ => none
  | .invokespecial _ => none
  | .ireturn => none
  | .lreturn => none
  | .return_ => none
  | _ => x_df S E
def x_stp (Γ : Nat → Option Nat) (sets : List (List Int)) (roles : List RD) (fty : Nat → Nat → FieldType) (MT : List MM) (ms : Mods) (S : SS) (E : MI) : Option (List SS) :=
  match l_ix E.2.1 with
  | some ic => (match x_get S.1.2.2.1 ic.1 with
    | some a => if k_is a.2.1 ic.2 = true then some [s_top S (E.1 + E.2.2.1) S.1.2.2.1 (a :: S.1.2.2.2)] else none
    | none => none)
  | none => match c_val E with
    | some v => (match c_av Γ S.2.2.2.2.2 v with | some a => some [s_top (s_up S) (E.1 + E.2.2.1) S.1.2.2.1 (a :: S.1.2.2.2)] | none => none)
    | none => match st_ix E.2.1 with
      | some ic => (match S.1.2.2.2 with
        | a :: r => if k_is a.2.1 ic.2 = true then some [s_top S (E.1 + E.2.2.1) (if ic.2 = 1 then x_put2 S.1.2.2.1 ic.1 a else x_put1 S.1.2.2.1 ic.1 a) r] else none
        | _ => none)
      | none => x_st2 sets roles fty MT ms S E
def x_max (S : SS) (E : MI) : Option SS :=
  match E.2.1, S.1.2.2.2 with
  | .invokestatic _, y :: x :: r => if E.2.2.2.1 = 9998 ∧ E.2.2.2.2.1 = 2 ∧ k_is x.2.1 0 = true ∧ k_is y.2.1 0 = true ∧ (r.map catA).sum ≤ 8 then
      some (s_top (s_up S) (S.1.2.1 + 3) S.1.2.2.1 ((S.2.2.2.2.2, 0, max x.2.2.1 y.2.2.1, max x.2.2.2.1 y.2.2.2.1, []) :: r)) else none
  | _, _ => none
def x_cs (sets : List (List Int)) (a : AV) : List Int := if a.2.1 = 0 then (List.range (a.2.2.2.1 - a.2.2.1 + 1).toNat).map (fun (i : Nat) => a.2.2.1 + (i : Int)) else (sets.getD (a.2.1 - 10) []).filter (fun c => decide (a.2.2.1 ≤ c ∧ c ≤ a.2.2.2.1))
section SxS
variable {Γ : Nat → Option Nat} {sets : List (List Int)} {roles : List RD} {ms : Mods} {MT : List MM} {ro : Nat → Option MC} {fty : Nat → Nat → FieldType} {dfl : Nat → List Value} {vs0 : List Value} {F0 : MH} {Q : Option Value → MH → Prop} {d : Nat} {S : SS}
theorem g_df {E : MI × Option FieldType} (hE : m_at MT S.1.1 S.1.2.1 = some E) {L : List SS} (hx : x_df S E.1 = some L) (h : ∀ S' ∈ L, Good Γ sets roles ms MT ro fty dfl vs0 F0 Q d S') : Good Γ sets roles ms MT ro fty dfl vs0 F0 Q d S := by
  unfold x_df at hx
  split at hx
  · split at hx
    · rename_i y x r hst
      split at hx
      · rename_i hk
        cases hx
        exact g_bin hE hst hk.1 hk.2.1 hk.2.2 (h _ List.mem_cons_self)
      · cases hx
    · cases hx
  · split at hx
    · split at hx
      · rename_i y x r hst
        split at hx
        · rename_i hk
          cases hx
          exact g_long hE hst hk.1 hk.2.1 hk.2.2 (h _ List.mem_cons_self)
        · cases hx
      · cases hx
    · split at hx
      · rename_i st1 hs
        cases hx
        exact g_stk hE hs (h _ List.mem_cons_self)
      · split at hx
        · rename_i x r hst
          split at hx
          · rename_i hk
            split at hx
            · rename_i a ha
              cases hx
              exact g_un hE hst hk ha (h _ List.mem_cons_self)
            · cases hx
          · cases hx
        · cases hx
theorem isC_z {x : AV} {a : Int32} (h : isC x = true) (ho : okE Γ sets x.2.1 x.2.2.1 x.2.2.2.1 (.int a)) : a.toInt = x.2.2.1 := by
  simp only [isC, Bool.and_eq_true, beq_iff_eq] at h
  have n := ho.num (by omega)
  simp only [vz] at n
  omega
theorem g_icmpC {E : MI × Option FieldType} {c : ClassFile.Cond} {off : Int} {t : Nat} {x y : AV} {r : List AV} (hE : m_at MT S.1.1 S.1.2.1 = some E) (hi : E.1.2.1 = .if_icmp c off) (ht : m_to E.1.1 off = some t) (hst : S.1.2.2.2 = y :: x :: r) (kx : k_is x.2.1 0 = true) (ky : k_is y.2.1 0 = true) (cx : isC x = true) (cy : isC y = true)
    (h : Good Γ sets roles ms MT ro fty dfl vs0 F0 Q d (s_top S (if cz c x.2.2.1 y.2.2.1 = true then t else E.1.1 + 3) S.1.2.2.1 r)) : Good Γ sets roles ms MT ro fty dfl vs0 F0 Q d S := by
  intro vs f fs F hp hS hW hF
  obtain ⟨lv, cst, rfl, hl, hc1, hc2⟩ := hS.frame
  have ox := hc2 x (by rw [hst]; simp)
  have oy := hc2 y (by rw [hst]; simp)
  rw [hst] at hc1
  obtain ⟨w, t1, rfl, q2, q3⟩ := stk1 hc1
  obtain ⟨v, t2, rfl, q5, q6⟩ := stk1 q3
  obtain ⟨v', p1, p2, -⟩ := id ox
  obtain ⟨w', p3, p4, -⟩ := id oy
  obtain rfl : v' = v := Option.some.inj (p1.symm.trans q5)
  obtain rfl : w' = w := Option.some.inj (p3.symm.trans q2)
  obtain ⟨a, rfl⟩ := (k_is_int p2 kx).1
  obtain ⟨b, rfl⟩ := (k_is_int p4 ky).1
  refine TT.one hE (one_br (Or.inr (Or.inr (Or.inl ⟨c, off, hi⟩))) (q := (if cz c x.2.2.1 y.2.2.1 = true then t else E.1.1 + 3, t2)) (by unfold m_br; rw [hi]; simp only; rw [m_if_of ht, cz_cmp, isC_z cx p2, isC_z cy p4]) F lv) ?_
  exact h vs (S.1.1, _, lv, t2) fs F hp (hS.top hl (fun b hb => hc2 b (by rw [hst]; simp [hb])) q6) hW hF
theorem g_ifC {E : MI × Option FieldType} {c : ClassFile.Cond} {off : Int} {t : Nat} {x : AV} {r : List AV} (hE : m_at MT S.1.1 S.1.2.1 = some E) (hi : E.1.2.1 = .ifCond c off) (ht : m_to E.1.1 off = some t) (hst : S.1.2.2.2 = x :: r) (kx : k_is x.2.1 0 = true) (cx : isC x = true)
    (h : Good Γ sets roles ms MT ro fty dfl vs0 F0 Q d (s_top S (if cz c x.2.2.1 0 = true then t else E.1.1 + 3) S.1.2.2.1 r)) : Good Γ sets roles ms MT ro fty dfl vs0 F0 Q d S := by
  intro vs f fs F hp hS hW hF
  obtain ⟨lv, cst, rfl, hl, hc1, hc2⟩ := hS.frame
  have ox := hc2 x (by rw [hst]; simp)
  rw [hst] at hc1
  obtain ⟨v, t2, rfl, q5, q6⟩ := stk1 hc1
  obtain ⟨v', p1, p2, -⟩ := id ox
  obtain rfl : v' = v := Option.some.inj (p1.symm.trans q5)
  obtain ⟨a, rfl⟩ := (k_is_int p2 kx).1
  refine TT.one hE (one_br (Or.inr (Or.inl ⟨c, off, hi⟩)) (q := (if cz c x.2.2.1 0 = true then t else E.1.1 + 3, t2)) (by unfold m_br; rw [hi]; simp only; rw [m_if_of ht, cz_cmp, isC_z cx p2, Int32.toInt_zero]) F lv) ?_
  exact h vs (S.1.1, _, lv, t2) fs F hp (hS.top hl (fun b hb => hc2 b (by rw [hst]; simp [hb])) q6) hW hF
theorem map_one {o : Option SS} {L : List SS} (h : (o.map fun s => [s]) = some L) : ∃ s, o = some s ∧ L = [s] := by
  cases o with
  | none => cases h
  | some s => exact ⟨s, rfl, by simpa using h.symm⟩
theorem g_st2 (hG : GOK Γ roles) {E : MI × Option FieldType} (hE : m_at MT S.1.1 S.1.2.1 = some E) {L : List SS} (hx : x_st2 sets roles fty MT ms S E.1 = some L) (h : ∀ S' ∈ L, Good Γ sets roles ms MT ro fty dfl vs0 F0 Q d S') : Good Γ sets roles ms MT ro fty dfl vs0 F0 Q d S := by
  unfold x_st2 at hx
  split at hx
  · rename_i off hi
    split at hx
    · rename_i t ht
      cases hx
      exact g_goto hE hi ht (h _ List.mem_cons_self)
    · cases hx
  · rename_i c off hi
    split at hx
    · rename_i t y x r ht hst
      split at hx
      · rename_i hk
        split at hx
        · rename_i hc
          cases hx
          simp only [Bool.and_eq_true] at hc
          exact g_icmpC hE hi ht hst hk.1 hk.2 hc.1 hc.2 (h _ List.mem_cons_self)
        · cases hx
          exact g_icmp hE hi ht hst hk.1 hk.2 h
      · cases hx
    · cases hx
  · rename_i c off hi
    split at hx
    · rename_i t x r ht hst
      split at hx
      · rename_i hk
        split at hx
        · rename_i hc
          cases hx
          exact g_ifC hE hi ht hst hk hc (h _ List.mem_cons_self)
        · cases hx
          exact g_if hE hi ht hst hk h
      · cases hx
    · cases hx
  · rename_i hi
    split at hx
    · rename_i E2 y x r hE2 hst
      split at hx
      · rename_i c off hi2
        split at hx
        · rename_i t ht
          split at hx
          · rename_i hk
            cases hx
            exact g_lcmp hE hi hE2 hi2 ht hst hk.1 hk.2 h
          · cases hx
        · cases hx
      · cases hx
    · cases hx
  · rename_i i c hi
    split at hx
    · rename_i a ha
      split at hx
      · rename_i hk
        cases hx
        exact g_iinc hE hi hk.2 ha hk.1 (h _ List.mem_cons_self)
      · cases hx
    · cases hx
  · split at hx
    · rename_i x r hst
      split at hx
      · rename_i hk; exact g_sw hE hst hk hx h
      · cases hx
    · cases hx
  · split at hx
    · rename_i x r hst
      split at hx
      · rename_i hk; exact g_sw hE hst hk hx h
      · cases hx
    · cases hx
  · obtain ⟨s, e1, rfl⟩ := map_one hx; exact g_rd hG hE e1 (h _ List.mem_cons_self)
  · obtain ⟨s, e1, rfl⟩ := map_one hx; exact g_rd hG hE e1 (h _ List.mem_cons_self)
  · obtain ⟨s, e1, rfl⟩ := map_one hx; exact g_rd hG hE e1 (h _ List.mem_cons_self)
  · obtain ⟨s, e1, rfl⟩ := map_one hx; exact g_rd hG hE e1 (h _ List.mem_cons_self)
  · obtain ⟨s, e1, rfl⟩ := map_one hx; exact g_al hG hE e1 (h _ List.mem_cons_self)
  · obtain ⟨s, e1, rfl⟩ := map_one hx; exact g_wr hG hE e1 (h _ List.mem_cons_self)
  · obtain ⟨s, e1, rfl⟩ := map_one hx; exact g_wr hG hE e1 (h _ List.mem_cons_self)
  · obtain ⟨s, e1, rfl⟩ := map_one hx; exact g_wr hG hE e1 (h _ List.mem_cons_self)
  · rename_i hi
    split at hx
    · rename_i y x r hst
      split at hx
      · rename_i hk
        cases hx
        exact g_shr0 hE hi hst hk.1 hk.2 (h _ List.mem_cons_self)
      · exact g_df hE hx h
    · cases hx
  · cases hx
  · cases hx
  · cases hx
  · cases hx
  · cases hx
  · cases hx
  · exact g_df hE hx h
theorem g_stp (hG : GOK Γ roles) {E : MI × Option FieldType} (hE : m_at MT S.1.1 S.1.2.1 = some E) {L : List SS} (hx : x_stp Γ sets roles fty MT ms S E.1 = some L) (h : ∀ S' ∈ L, Good Γ sets roles ms MT ro fty dfl vs0 F0 Q d S') : Good Γ sets roles ms MT ro fty dfl vs0 F0 Q d S := by
  unfold x_stp at hx
  split at hx
  · rename_i ic hi
    split at hx
    · rename_i a ha
      split at hx
      · rename_i hk
        cases hx
        exact g_load hE hi ha hk (h _ List.mem_cons_self)
      · cases hx
    · cases hx
  · split at hx
    · rename_i v hv
      split at hx
      · rename_i a ha
        cases hx
        exact g_const hE hv ha (h _ List.mem_cons_self)
      · cases hx
    · split at hx
      · rename_i ic hi
        split at hx
        · rename_i a r hst
          split at hx
          · rename_i hk
            cases hx
            exact g_store hE hi hst hk (h _ List.mem_cons_self)
          · cases hx
        · cases hx
      · exact g_st2 hG hE hx h
theorem g_max {E : MI × Option FieldType} (hE : m_at MT S.1.1 S.1.2.1 = some E) {S1 : SS} (hx : x_max S E.1 = some S1) (h : Good Γ sets roles ms MT ro fty dfl vs0 F0 Q d S1) : Good Γ sets roles ms MT ro fty dfl vs0 F0 Q d S := by
  intro vs f fs F hp hS hW hF
  obtain ⟨lv, cst, rfl, hl, hc1, hc2⟩ := hS.frame
  unfold x_max at hx
  split at hx
  · rename_i o y x r hi hst
    split at hx
    · rename_i hk
      cases hx
      obtain ⟨k1, k2, k3, k4, k5⟩ := hk
      have hst' := hst
      rw [hst] at hc1
      obtain ⟨w, t, rfl, e1, e2⟩ := stk1 hc1
      obtain ⟨v, t, rfl, e3, e4⟩ := stk1 e2
      have hym : y ∈ S.1.2.2.2 := by rw [hst]; simp
      have hxm : x ∈ S.1.2.2.2 := by rw [hst]; simp
      have hr : ∀ a ∈ r, a ∈ S.1.2.2.2 := fun a ha => by rw [hst]; simp [ha]
      obtain ⟨w', f1, f2, -⟩ := hc2 y hym
      obtain rfl : w' = w := Option.some.inj (f1.symm.trans e1)
      obtain ⟨v', f3, f4, -⟩ := hc2 x hxm
      obtain rfl : v' = v := Option.some.inj (f3.symm.trans e3)
      have n1 := f2.num (k_is_int f2 k4).2
      have n2 := f4.num (k_is_int f4 k3).2
      obtain ⟨b, rfl⟩ := (k_is_int f2 k4).1
      obtain ⟨a, rfl⟩ := (k_is_int f4 k3).1
      simp only [vz] at n1 n2
      obtain ⟨o1, o2⟩ := one_inv (ro := ro) (fty := fty) (dfl := dfl) (Or.inl ⟨o, hi⟩) F lv (.int b :: .int a :: t) E.2
      have hd : (t.map (fun v => v.category)).sum ≤ 8 := by
        rw [cat_all e4 (fun a ha => hc2 a (hr a ha))]; exact k5
      have hinv : m_inv ro F E.1 (.int b :: .int a :: t) = some (9998, [.int a, .int b], t) := by
        obtain ⟨⟨pc, i, len, a0, n, z0⟩, rt⟩ := E
        simp only at hi k1 k2
        subst hi
        subst k1
        subst k2
        simp only [m_inv]
        rw [if_pos ⟨by simp, by simpa using hd⟩]
        rfl
      refine TT.maxi hE o1 o2 hinv rfl rfl ?_
      have hn := hS.2.2.2.2.2.2
      have hz : (if a < b then b else a).toInt = max a.toInt b.toInt := by
        by_cases hab : a < b
        · rw [if_pos hab]; have := Int32.lt_iff_toInt_lt.mp hab; omega
        · rw [if_neg hab]; have hge : ¬ a.toInt < b.toInt := fun q => hab (Int32.lt_iff_toInt_lt.mpr q); omega
      refine h (vs ++ [.int (if a < b then b else a)]) (S.1.1, S.1.2.1 + 3, lv, .int (if a < b then b else a) :: t) fs F (pre_app hp _) ((hS.up _).top (fun q hq => ?_) (fun c hc => ?_) ?_) hW hF
      · obtain ⟨q1, w, q2, q3⟩ := hl q hq
        exact ⟨q1.app _, w, get_app q2, q3⟩
      · rcases List.mem_cons.mp hc with rfl | hc
        · refine ⟨.int (if a < b then b else a), by simp only; rw [hn]; simp, ?_, fun q hq => by cases hq⟩
          simp only [okE, if_pos, vz]
          refine ⟨⟨_, rfl⟩, ?_, ?_⟩ <;> rw [hz] <;> omega
        · exact (hc2 c (hr c hc)).app _
      · simp only [List.map_cons, List.cons.injEq]
        refine ⟨by rw [hn]; simp, ?_⟩
        rw [e4]
        apply List.map_congr_left
        intro b hb
        obtain ⟨w, hw⟩ := (hc2 b (hr b hb)).get
        rw [hw, get_app hw]
    · cases hx
  · cases hx
/-- a value of few that it may be: each for itself -/
theorem g_spl {a : AV} (ha : a ∈ s_av S) (hk : k_is a.2.1 0 = true) (h : ∀ c ∈ x_cs sets a, Good Γ sets roles ms MT ro fty dfl vs0 F0 Q d (s_map (a_cl a.1 c c) S)) : Good Γ sets roles ms MT ro fty dfl vs0 F0 Q d S := by
  intro vs f fs F hp hS hW hF
  obtain ⟨v, h1, h2, -⟩ := hS.1 a ha
  have n := h2.num (k_is_int h2 hk).2
  have hm : vz v ∈ x_cs sets a := by
    unfold x_cs
    split
    · rename_i h0
      refine List.mem_map.mpr ⟨(vz v - a.2.2.1).toNat, List.mem_range.mpr (by omega), by omega⟩
    · rename_i h0
      have h10 : 10 ≤ a.2.1 := by simp only [k_is, if_pos] at hk; simp at hk; omega
      unfold okE at h2
      rw [if_neg h0, if_neg (by omega), if_neg (by omega), if_pos h10] at h2
      exact List.mem_filter.mpr ⟨h2.2.2.2, by simpa using n⟩
  exact h _ hm vs f fs F hp (hS.cl h1 (Int.le_refl _) (Int.le_refl _)) hW hF
end SxS
end
section
/-! SYMBOLIC RUNS, XX: nodes: what is told of a place of the code -/
/-- method, pc, depth, stage; symbols, locals, stack, facts; facts on places that are symbols, sums, where each symbol is found (0 local, 1 stack, 2 fact, 3 ghost), ghosts; rank, what may change, new symbols of the end, where they are found (0 the result, 1 a fact); the result, facts of the end -/
abbrev ND : Type := (Nat × Nat × Nat × Nat) × (List AV × (List (Nat × Nat)) × List Nat × (List (Nat × Nat × Nat × Nat))) × ((List (Nat × Nat × Nat × Nat)) × (List (Nat × Nat × Nat)) × (List (Nat × Nat × Nat)) × (List (Nat × Nat))) × ((Int × List (Int × Nat)) × Mods × List AV × (List (Nat × Nat × Nat))) × (Option Nat × (List (Nat × Nat × Nat × Nat)) × List (List AV × (List (Nat × Nat × Nat)) × Option Nat × (List (Nat × Nat × Nat × Nat))))
def ND.mi (N : ND) : Nat := N.1.1
def ND.pc (N : ND) : Nat := N.1.2.1
def ND.dep (N : ND) : Nat := N.1.2.2.1
def ND.stg (N : ND) : Nat := N.1.2.2.2
def ND.pa (N : ND) : List AV := N.2.1.1
def ND.lc (N : ND) : List (Nat × Nat) := N.2.1.2.1
def ND.st (N : ND) : List Nat := N.2.1.2.2.1
def ND.fa (N : ND) : List (Nat × Nat × Nat × Nat) := N.2.1.2.2.2
def ND.ea (N : ND) : List (Nat × Nat × Nat × Nat) := N.2.2.1.1
def ND.su (N : ND) : List (Nat × Nat × Nat) := N.2.2.1.2.1
def ND.bs (N : ND) : List (Nat × Nat × Nat) := N.2.2.1.2.2.1
def ND.gh (N : ND) : List (Nat × Nat) := N.2.2.1.2.2.2
def ND.rk (N : ND) : Int × List (Int × Nat) := N.2.2.2.1.1
def ND.ms (N : ND) : Mods := N.2.2.2.1.2.1
def ND.xp (N : ND) : List AV := N.2.2.2.1.2.2.1
def ND.xb (N : ND) : List (Nat × Nat × Nat) := N.2.2.2.1.2.2.2
def ND.xr (N : ND) : Option Nat := N.2.2.2.2.1
def ND.xf (N : ND) : List (Nat × Nat × Nat × Nat) := N.2.2.2.2.2.1
/-- the same node with another end -/
def ND.wi (N : ND) (a : List AV × (List (Nat × Nat × Nat)) × Option Nat × (List (Nat × Nat × Nat × Nat))) : ND := (N.1, N.2.1, N.2.2.1, (N.2.2.2.1.1, N.2.2.2.1.2.1, a.1, a.2.1), (a.2.2.1, a.2.2.2, []))
/-- a node with each of its ends -/
def ND.alts (N : ND) : List ND := N :: N.2.2.2.2.2.2.map N.wi
theorem ND.alt_pa {N M : ND} (h : M ∈ N.alts) : M.pa = N.pa := by
  rcases List.mem_cons.mp h with rfl | h
  · rfl
  · obtain ⟨a, -, rfl⟩ := List.mem_map.mp h
    rfl
theorem ND.alt_ms {N M : ND} (h : M ∈ N.alts) : M.ms = N.ms := by
  rcases List.mem_cons.mp h with rfl | h
  · rfl
  · obtain ⟨a, -, rfl⟩ := List.mem_map.mp h
    rfl
def a0 : AV := (0, 0, 0, 0, [])
def n_av (N : ND) (j : Nat) : AV := N.pa.getD j a0
def n_st (N : ND) : SS := ((N.mi, N.pc, N.lc.map (fun q => (q.1, n_av N q.2)), N.st.map (n_av N)), [], N.fa.map (fun q => (q.1, q.2.1, q.2.2.1, n_av N q.2.2.2)), N.ea.map (fun q => (q.1, q.2.1, n_av N q.2.2.1, n_av N q.2.2.2)), N.su, N.pa.length)
def n_wf (N : ND) : Bool := N.pa.map (fun a => a.1) == List.range N.pa.length && (N.lc.all (fun q => decide (q.2 < N.pa.length)) && (N.st.all (fun j => decide (j < N.pa.length)) && (N.fa.all (fun q => decide (q.2.2.2 < N.pa.length)) && (N.ea.all (fun q => decide (q.2.2.1 < N.pa.length ∧ q.2.2.2 < N.pa.length)) && N.xp.map (fun a => a.1) == (List.range N.xp.length).map (fun i => N.pa.length + i)))))
def okN (Γ : Nat → Option Nat) (sets : List (List Int)) (ro : Nat → Option MC) (N : ND) (vs : List Value) (f : CF) (F : MH) : Prop := okS Γ sets ro vs (n_st N) f [] F ∧ ∀ a ∈ N.pa, okA Γ sets vs a
def n_post (Γ : Nat → Option Nat) (sets : List (List Int)) (roles : List RD) (ro : Nat → Option MC) (N : ND) (vs : List Value) (F0 : MH) (v : Option Value) (F1 : MH) : Prop :=
  WT Γ sets roles ro F1 ∧ FRm Γ ro N.ms F0 F1 ∧ ∃ t, t.length = N.xp.length ∧ v.toList.map some = N.xr.toList.map (fun j => (vs ++ t)[j]?) ∧ (∀ a ∈ N.xp, okA Γ sets (vs ++ t) a) ∧ ∀ q ∈ N.xf, okFa Γ ro F1 (vs ++ t) (q.1, q.2.1, q.2.2.1, (q.2.2.2, 0, 0, 0, []))
/-- one of the ends of a node -/
def n_posts (Γ : Nat → Option Nat) (sets : List (List Int)) (roles : List RD) (ro : Nat → Option MC) (N : ND) (vs : List Value) (F0 : MH) (v : Option Value) (F1 : MH) : Prop := ∃ M ∈ N.alts, n_post Γ sets roles ro M vs F0 v F1
def n_wfA (N : ND) : Bool := N.alts.all n_wf
theorem wfA_wf {N : ND} (h : n_wfA N = true) : n_wf N = true := List.all_eq_true.mp h N List.mem_cons_self
/-- a fact, also one that only the role tells -/
def x_mat (roles : List RD) (S : SS) (p : AV) (k : Nat) : Option (SS × AV) :=
  if p.2.1 = 2 then (match S.2.2.1.find? (fun q => q.1 == p.1 && q.2.2.1 == k) with
    | some q => some (S, q.2.2.2)
    | none => (match roles[p.2.2.1.toNat]? with
      | some rd => if rd.1 = 3 then (if k = 5000 then some (s_fact (p.1, p.2.2.1.toNat, k, x_new S (0, 0, 320)) (s_up S), x_new S (0, 0, 320)) else none)
        else if k = 5000 then none else (match rd.2.2[k]? with
        | some e => some (s_fact (p.1, p.2.2.1.toNat, k, x_new S e) (s_up S), x_new S e)
        | none => none)
      | none => none)) else none
def x_b1 (roles : List RD) (N : ND) (S : SS) (m : List AV) (b : Nat × Nat × Nat) : Option (SS × AV) :=
  if b.1 = 0 then (x_get S.1.2.2.1 b.2.1).map fun a => (S, a)
  else if b.1 = 1 then (S.1.2.2.2[b.2.1]?).map fun a => (S, a)
  else if b.1 = 2 then (match m[b.2.1]? with | some p => x_mat roles S p b.2.2 | none => none)
  else (match N.gh.find? (fun q => q.1 == b.2.1) with | some q => (N.pa[q.2]?).map fun a => (S, a) | none => none)
def x_bs (roles : List RD) (N : ND) : List (Nat × Nat × Nat) → SS → List AV → Option (SS × List AV)
  | [], S, m => some (S, m)
  | b :: t, S, m => match x_b1 roles N S m b with | some q => x_bs roles N t q.1 (m ++ [q.2]) | none => none
/-- values m are as symbol a asks -/
def x_ent (sets : List (List Int)) (m : List AV) (a : AV) : Bool := match m[a.1]? with
  | some b => x_sub sets b (a.2.1, a.2.2.1, a.2.2.2.1) && a.2.2.2.2.all (fun r => match m[r.1]? with
    | some c => !(b.2.1 == 2) && (!(c.2.1 == 2) && decide (r.2.1 ≤ (a_diff b c).1 ∧ (a_diff b c).2 ≤ r.2.2))
    | none => false)
  | none => false
def x_has (S : SS) (m : List AV) (q : Nat × Nat × Nat × Nat) : Bool := match m[q.1]?, m[q.2.2.2]? with
  | some p, some b => S.2.2.1.any (fun g => g.1 == p.1 && (g.2.1 == q.2.1 && (g.2.2.1 == q.2.2.1 && x_eq g.2.2.2 b)))
  | _, _ => false
def x_hasE (S : SS) (m : List AV) (q : Nat × Nat × Nat × Nat) : Bool := match m[q.1]?, m[q.2.2.1]?, m[q.2.2.2]? with
  | some p, some i, some b => S.2.2.2.1.any (fun g => g.1 == p.1 && (g.2.1 == q.2.1 && (x_eq g.2.2.1 i && x_eq g.2.2.2 b)))
  | _, _, _ => false
def x_hasS (S : SS) (m : List AV) (q : Nat × Nat × Nat) : Bool := match m[q.1]?, m[q.2.1]?, m[q.2.2]? with
  | some a, some b, some c => S.2.2.2.2.1.any (fun g => g.1 == a.1 && ((g.2.1 == b.1 || (!(b.2.1 == 2) && b.2.2.2.2.any (fun r => r.1 == g.2.1 && decide (r.2.1 = 0 ∧ r.2.2 = 0)))) && g.2.2 == c.1))
  | _, _, _ => false
def x_eqs (m : List AV) : List AV → List Nat → Bool
  | [], [] => true
  | a :: s, j :: t => (match m[j]? with | some b => x_eq a b | none => false) && x_eqs m s t
  | _, _ => false
def x_mt (sets : List (List Int)) (M : ND) (S : SS) (m : List AV) : Bool :=
  decide (M.mi = S.1.1 ∧ M.pc = S.1.2.1 ∧ m.length = M.pa.length) && (M.pa.all (x_ent sets m) && (M.lc.all (fun q => match x_get S.1.2.2.1 q.1, m[q.2]? with | some a, some b => x_eq a b | _, _ => false) && (x_eqs m S.1.2.2.2 M.st && (M.fa.all (x_has S m) && (M.ea.all (x_hasE S m) && M.su.all (x_hasS S m))))))
section SxT
variable {Γ : Nat → Option Nat} {sets : List (List Int)} {roles : List RD} {ms : Mods} {MT : List MM} {ro : Nat → Option MC} {fty : Nat → Nat → FieldType} {dfl : Nat → List Value} {vs0 : List Value} {F0 : MH} {Q : Option Value → MH → Prop} {d : Nat} {S : SS}
theorem mat_ok {p a : AV} {k : Nat} {S1 : SS} {vs : List Value} {f : CF} {fs : List CF} {F : MH} (hx : x_mat roles S p k = some (S1, a)) (hS : okS Γ sets ro vs S f fs F) (hW : WT Γ sets roles ro F) (hp : okA Γ sets vs p) : ∃ t, okS Γ sets ro (vs ++ t) S1 f fs F ∧ okA Γ sets (vs ++ t) a ∧ S1.1 = S.1 ∧ S1.2.1 = S.2.1 := by
  unfold x_mat at hx
  split at hx
  · rename_i hk
    split at hx
    · rename_i q hq
      cases hx
      exact ⟨[], by rw [List.append_nil]; exact hS, by rw [List.append_nil]; exact hS.1 _ (mem_fact (List.mem_of_find?_eq_some hq)), rfl, rfl⟩
    · obtain ⟨u, e1, e2, -⟩ := hp
      obtain ⟨⟨b, rfl, hΓ⟩, -⟩ := k_is_ref e2 (by rw [hk]; rfl)
      have hn := hS.2.2.2.2.2.2
      split at hx
      · rename_i rd hrd
        obtain ⟨c, hm, hcell⟩ := hW b _ rd hΓ hrd
        split at hx
        · rename_i h3
          split at hx
          · rename_i h5
            cases hx
            have e0 : (vs ++ [Value.int (Int32.ofNat (clen c))])[S.2.2.2.2.2]? = some (Value.int (Int32.ofNat (clen c))) := by rw [hn]; simp
            have hl : clen c ≤ 320 := by
              rcases hcell with ⟨e, -⟩ | ⟨e, -⟩ | ⟨e, -⟩ | ⟨-, ⟨xs, rfl, hxs⟩, -⟩
              · omega
              · omega
              · omega
              · simpa [clen, cont] using hxs
            have oa : okA Γ sets (vs ++ [Value.int (Int32.ofNat (clen c))]) (x_new S (0, 0, 320)) := by
              refine ⟨_, e0, ?_, fun q hq => by cases hq⟩
              have hz : (Int32.ofNat (clen c)).toInt = (clen c : Int) := nI_toInt (Nat.lt_of_le_of_lt hl (by decide))
              refine ⟨⟨_, rfl⟩, ?_, ?_⟩ <;> simp only [x_new, vz] <;> rw [hz] <;> omega
            refine ⟨[Value.int (Int32.ofNat (clen c))], (hS.up _).fact ⟨b, c, _, get_app e1, hΓ, hm, e0, by simp only [h5, if_pos]⟩ oa, oa, rfl, rfl⟩
          · cases hx
        · rename_i h3
          split at hx
          · cases hx
          · rename_i h5
            split at hx
            · rename_i e he
              cases hx
              obtain ⟨v, g1, g2⟩ := (okCell_get hcell h3).2 k e he
              have e0 : (vs ++ [v])[S.2.2.2.2.2]? = some v := by rw [hn]; simp
              have oa : okA Γ sets (vs ++ [v]) (x_new S e) := ⟨v, e0, g2, fun q hq => by cases hq⟩
              exact ⟨[v], (hS.up v).fact ⟨b, c, v, get_app e1, hΓ, hm, e0, by simp only; rw [if_neg h5]; exact g1⟩ oa, oa, rfl, rfl⟩
            · cases hx
      · cases hx
  · cases hx
theorem b1_ok {N : ND} {m : List AV} {b : Nat × Nat × Nat} {q : SS × AV} {vs : List Value} {f : CF} {fs : List CF} {F : MH} (hx : x_b1 roles N S m b = some q) (hS : okS Γ sets ro vs S f fs F) (hW : WT Γ sets roles ro F) (hm : ∀ a ∈ m, okA Γ sets vs a) (hN : ∀ a ∈ N.pa, okA Γ sets vs a) : ∃ t, okS Γ sets ro (vs ++ t) q.1 f fs F ∧ okA Γ sets (vs ++ t) q.2 ∧ q.1.1 = S.1 ∧ q.1.2.1 = S.2.1 := by
  obtain ⟨S1, a⟩ := q
  unfold x_b1 at hx
  split at hx
  · cases hg : x_get S.1.2.2.1 b.2.1 with
    | none => rw [hg] at hx; cases hx
    | some c =>
      rw [hg] at hx
      cases hx
      exact ⟨[], by rw [List.append_nil]; exact hS, by rw [List.append_nil]; exact hS.1 _ (mem_loc (x_get_mem hg)), rfl, rfl⟩
  · split at hx
    · cases hg : S.1.2.2.2[b.2.1]? with
      | none => rw [hg] at hx; cases hx
      | some c =>
        rw [hg] at hx
        cases hx
        exact ⟨[], by rw [List.append_nil]; exact hS, by rw [List.append_nil]; exact hS.1 _ (mem_top (List.mem_of_getElem? hg)), rfl, rfl⟩
    · split at hx
      · split at hx
        · rename_i p hp
          exact mat_ok hx hS hW (hm p (List.mem_of_getElem? hp))
        · cases hx
      · split at hx
        · rename_i q hq
          cases hg : N.pa[q.2]? with
          | none => rw [hg] at hx; cases hx
          | some c =>
            rw [hg] at hx
            cases hx
            exact ⟨[], by rw [List.append_nil]; exact hS, by rw [List.append_nil]; exact hN _ (List.mem_of_getElem? hg), rfl, rfl⟩
        · cases hx
theorem bs_ok {N : ND} {f : CF} {fs : List CF} {F : MH} (hW : WT Γ sets roles ro F) : ∀ (bs : List (Nat × Nat × Nat)) (S : SS) (m : List AV) (q : SS × List AV) (vs : List Value), x_bs roles N bs S m = some q → okS Γ sets ro vs S f fs F → (∀ a ∈ m, okA Γ sets vs a) → (∀ a ∈ N.pa, okA Γ sets vs a) → ∃ t, okS Γ sets ro (vs ++ t) q.1 f fs F ∧ (∀ a ∈ q.2, okA Γ sets (vs ++ t) a) ∧ q.1.1 = S.1 ∧ q.1.2.1 = S.2.1
  | [], S, m, q, vs, hx, hS, hm, hN => by
    cases hx
    exact ⟨[], by rw [List.append_nil]; exact hS, by rw [List.append_nil]; exact hm, rfl, rfl⟩
  | b :: bs, S, m, q, vs, hx, hS, hm, hN => by
    rw [x_bs] at hx
    split at hx
    · rename_i q1 hq1
      obtain ⟨t, h1, h2, h3, h4⟩ := b1_ok hq1 hS hW hm hN
      obtain ⟨t2, g1, g2, g3, g4⟩ := bs_ok hW bs q1.1 (m ++ [q1.2]) q (vs ++ t) hx h1 (fun a ha => by
        rcases List.mem_append.mp ha with ha | ha
        · exact (hm a ha).app _
        · simp only [List.mem_cons, List.not_mem_nil, or_false] at ha
          subst ha; exact h2) (fun a ha => (hN a ha).app _)
      rw [List.append_assoc] at g1 g2
      exact ⟨t ++ t2, g1, g2, g3.trans h3, g4.trans h4⟩
    · cases hx
/-- the values of m -/
theorem vals_of {vs : List Value} : ∀ (m : List AV), (∀ a ∈ m, okA Γ sets vs a) → ∃ ws : List Value, ws.map some = m.map (fun a => vs[a.1]?)
  | [], _ => ⟨[], rfl⟩
  | a :: m, h => by
    obtain ⟨ws, hw⟩ := vals_of m (fun b hb => h b (List.mem_cons_of_mem _ hb))
    obtain ⟨v, hv⟩ := (h a List.mem_cons_self).get
    exact ⟨v :: ws, by simp only [List.map_cons, hw, hv]⟩
theorem vals_get {vs ws : List Value} {m : List AV} (h : ws.map some = m.map (fun a => vs[a.1]?)) {j : Nat} {b : AV} (hb : m[j]? = some b) : ∃ v, ws[j]? = some v ∧ vs[b.1]? = some v := by
  have h1 : (ws.map some)[j]? = (m.map (fun a => vs[a.1]?))[j]? := by rw [h]
  rw [List.getElem?_map, List.getElem?_map, hb] at h1
  cases hw : ws[j]? with
  | none => rw [hw] at h1; simp at h1
  | some v => rw [hw] at h1; simp at h1; exact ⟨v, rfl, h1.symm⟩
theorem vals_len {vs ws : List Value} {m : List AV} (h : ws.map some = m.map (fun a => vs[a.1]?)) : ws.length = m.length := by
  have := congrArg List.length h
  simpa using this
theorem ent_ok {vs ws : List Value} {m : List AV} (h : ws.map some = m.map (fun a => vs[a.1]?)) (hm : ∀ a ∈ m, okA Γ sets vs a) {a : AV} (hx : x_ent sets m a = true) : okA Γ sets ws a := by
  unfold x_ent at hx
  split at hx
  · rename_i b hb
    simp only [Bool.and_eq_true] at hx
    obtain ⟨v, h1, h2⟩ := vals_get h hb
    have ob := hm b (List.mem_of_getElem? hb)
    have ob' := ob
    obtain ⟨v', g1, g2, -⟩ := ob
    obtain rfl : v' = v := Option.some.inj (g1.symm.trans h2)
    refine ⟨v', h1, x_sub_ok hx.1 g2, fun r hr => ?_⟩
    have hr2 := List.all_eq_true.mp hx.2 r hr
    split at hr2
    · rename_i c hc
      simp only [Bool.and_eq_true, Bool.not_eq_true', beq_eq_false_iff_ne, ne_eq, decide_eq_true_eq] at hr2
      obtain ⟨w, k1, k2⟩ := vals_get h hc
      have hd := a_diff_ok ob' (hm c (List.mem_of_getElem? hc)) hr2.1 hr2.2.1 h2 k2
      simp only [i_in] at hd
      exact ⟨w, k1, by omega, by omega⟩
    · cases hr2
  · cases hx
theorem av_mem {N : ND} {j : Nat} (h : j < N.pa.length) : n_av N j ∈ N.pa := by
  unfold n_av
  rw [List.getD_eq_getElem?_getD, List.getElem?_eq_getElem h]
  exact List.getElem_mem h
theorem wf_id {N : ND} (h : n_wf N = true) {j : Nat} (hj : j < N.pa.length) : (n_av N j).1 = j := by
  unfold n_wf at h
  simp only [Bool.and_eq_true, beq_iff_eq] at h
  have h1 : (N.pa.map (fun a => a.1))[j]? = (List.range N.pa.length)[j]? := by rw [h.1]
  rw [List.getElem?_map, List.getElem?_eq_getElem hj, List.getElem?_range hj] at h1
  unfold n_av
  rw [List.getD_eq_getElem?_getD, List.getElem?_eq_getElem hj]
  simpa using h1
theorem st_av {N : ND} (h : n_wf N = true) {a : AV} (ha : a ∈ s_av (n_st N)) : a ∈ N.pa := by
  have h0 := h
  unfold n_wf at h
  simp only [Bool.and_eq_true, List.all_eq_true, decide_eq_true_eq] at h
  obtain ⟨-, w1, w2, w3, w4, -⟩ := h
  simp only [s_av, s_avF, n_st, List.mem_append, List.map_map, List.flatMap_nil, List.not_mem_nil, false_or] at ha
  rcases ha with (ha | ha) | ha | ha
  · obtain ⟨q, hq, rfl⟩ := List.mem_map.mp ha
    exact av_mem (w1 q hq)
  · obtain ⟨q, hq, rfl⟩ := List.mem_map.mp ha
    exact av_mem (w2 q hq)
  · obtain ⟨q, hq, rfl⟩ := List.mem_map.mp ha
    exact av_mem (w3 q hq)
  · obtain ⟨q, hq, hq2⟩ := List.mem_flatMap.mp ha
    obtain ⟨q0, hq0, rfl⟩ := List.mem_map.mp hq
    simp only [List.mem_cons, List.not_mem_nil, or_false] at hq2
    rcases hq2 with rfl | rfl
    · exact av_mem (w4 q0 hq0).1
    · exact av_mem (w4 q0 hq0).2
theorem has_ok {vs ws : List Value} {m : List AV} {f : CF} {fs : List CF} {F : MH} (h : ws.map some = m.map (fun a => vs[a.1]?)) (hm : ∀ a ∈ m, okA Γ sets vs a) (hS : okS Γ sets ro vs S f fs F) {q : Nat × Nat × Nat × Nat} (hx : x_has S m q = true) : okFa Γ ro F ws (q.1, q.2.1, q.2.2.1, (q.2.2.2, 0, 0, 0, [])) := by
  unfold x_has at hx
  split at hx
  · rename_i p b hp hb
    obtain ⟨g, hg, hg2⟩ := List.any_eq_true.mp hx
    simp only [Bool.and_eq_true, beq_iff_eq] at hg2
    obtain ⟨a, c, v, g1, g2, g3, g4, g5⟩ := hS.2.2.2.1 g hg
    obtain ⟨u, k1, k2⟩ := vals_get h hp
    obtain ⟨w, k3, k4⟩ := vals_get h hb
    rw [hg2.1, k2] at g1
    cases g1
    have := x_eq_ok hg2.2.2.2 (hS.1 _ (mem_fact hg)) (hm b (List.mem_of_getElem? hb)) g4 k4
    subst this
    rw [hg2.2.1] at g2
    rw [hg2.2.2.1] at g5
    exact ⟨a, c, v, k1, g2, g3, k3, g5⟩
  · cases hx
theorem mt_ok {M : ND} {m : List AV} {vs ws : List Value} {f : CF} {fs : List CF} {F : MH} (hwf : n_wf M = true) (hx : x_mt sets M S m = true) (hS : okS Γ sets ro vs S f fs F) (hm : ∀ a ∈ m, okA Γ sets vs a) (h : ws.map some = m.map (fun a => vs[a.1]?)) : okN Γ sets ro M ws f F := by
  unfold x_mt at hx
  simp only [Bool.and_eq_true, decide_eq_true_eq, List.all_eq_true] at hx
  obtain ⟨⟨c1, c2, c3⟩, c4, c5, c6, c7, c8, c9⟩ := hx
  have hpa : ∀ a ∈ M.pa, okA Γ sets ws a := fun a ha => ent_ok h hm (c4 a ha)
  have hid : ∀ {j : Nat} {b : AV}, m[j]? = some b → (n_av M j).1 = j := by
    intro j b hb
    have hl := (List.getElem?_eq_some_iff.mp hb).1
    exact wf_id hwf (by omega)
  obtain ⟨lv, cst, rfl, hl, hc1, hc2⟩ := hS.frame
  refine ⟨⟨fun a ha => hpa a (st_av hwf ha), ⟨c1, c2, fun q hq => ?_, ?_⟩, trivial, fun q hq => ?_, fun q hq => ?_, fun q hq => ?_, ?_⟩, hpa⟩
  · obtain ⟨q0, hq0, rfl⟩ := List.mem_map.mp hq
    have hq1 := c5 q0 hq0
    split at hq1
    · rename_i a b ha hb
      obtain ⟨w, k3, k4⟩ := vals_get h hb
      obtain ⟨oa, v, hv, hg⟩ := hl _ (x_get_mem ha)
      have := x_eq_ok hq1 oa (hm b (List.mem_of_getElem? hb)) hv k4
      subst this
      exact ⟨v, by simp only [hid hb]; exact k3, hg⟩
    · cases hq1
  · have key : ∀ (s : List AV) (t : List Nat) (cs : List Value), x_eqs m s t = true → (∀ a ∈ s, okA Γ sets vs a) → cs.map some = s.map (fun a => vs[a.1]?) → cs.map some = (t.map (n_av M)).map (fun a => ws[a.1]?) := by
      intro s
      induction s with
      | nil =>
        intro t cs he _ hcs
        cases t with
        | nil => exact hcs
        | cons j t => cases he
      | cons a s ih =>
        intro t cs he ho hcs
        cases t with
        | nil => cases he
        | cons j t =>
          simp only [x_eqs, Bool.and_eq_true] at he
          obtain ⟨v, cs, rfl, e1, e2⟩ := stk1 hcs
          have h1 := he.1
          split at h1
          · rename_i b hb
            obtain ⟨w, k3, k4⟩ := vals_get h hb
            have := x_eq_ok h1 (ho a List.mem_cons_self) (hm b (List.mem_of_getElem? hb)) e1 k4
            subst this
            simp only [List.map_cons, List.cons.injEq]
            exact ⟨by rw [hid hb, k3], ih t cs he.2 (fun b hb => ho b (List.mem_cons_of_mem _ hb)) e2⟩
          · cases h1
    exact key _ _ _ c6 hc2 hc1
  · obtain ⟨q0, hq0, rfl⟩ := List.mem_map.mp hq
    have := has_ok h hm hS (c7 q0 hq0)
    obtain ⟨a, c, v, g1, g2, g3, g4, g5⟩ := this
    have hlt : q0.2.2.2 < M.pa.length := by
      unfold n_wf at hwf
      simp only [Bool.and_eq_true, List.all_eq_true, decide_eq_true_eq] at hwf
      exact hwf.2.2.2.1 q0 hq0
    exact ⟨a, c, v, g1, g2, g3, by simp only [wf_id hwf hlt]; exact g4, g5⟩
  · obtain ⟨q0, hq0, rfl⟩ := List.mem_map.mp hq
    have hx := c8 q0 hq0
    unfold x_hasE at hx
    split at hx
    · rename_i p i b hp hi hb
      obtain ⟨g, hg, hg2⟩ := List.any_eq_true.mp hx
      simp only [Bool.and_eq_true, beq_iff_eq] at hg2
      obtain ⟨a, c, x, v, g1, g2, g3, g4, g5, g6, g7⟩ := hS.2.2.2.2.1 g hg
      obtain ⟨u, k1, k2⟩ := vals_get h hp
      obtain ⟨w, k3, k4⟩ := vals_get h hb
      obtain ⟨y, k5, k6⟩ := vals_get h hi
      rw [hg2.1, k2] at g1
      cases g1
      have e1 := x_eq_ok hg2.2.2.2 (hS.1 _ (mem_ef2 hg)) (hm b (List.mem_of_getElem? hb)) g6 k4
      subst e1
      have e2 := x_eq_ok hg2.2.2.1 (hS.1 _ (mem_ef1 hg)) (hm i (List.mem_of_getElem? hi)) g4 k6
      subst e2
      rw [hg2.2.1] at g2
      exact ⟨a, c, x, v, k1, g2, g3, by simp only [hid hi]; exact k5, g5, by simp only [hid hb]; exact k3, g7⟩
    · cases hx
  · have hx := c9 q hq
    unfold x_hasS at hx
    split at hx
    · rename_i a b c ha hb hc
      obtain ⟨g, hg, hg2⟩ := List.any_eq_true.mp hx
      simp only [Bool.and_eq_true, Bool.or_eq_true, beq_iff_eq] at hg2
      obtain ⟨u, v, w, g1, g2, g3, g4⟩ := hS.2.2.2.2.2.1 g hg
      obtain ⟨u', k1, k2⟩ := vals_get h ha
      obtain ⟨v', k3, k4⟩ := vals_get h hb
      obtain ⟨w', k5, k6⟩ := vals_get h hc
      rw [hg2.1, k2] at g1
      rw [hg2.2.2, k6] at g3
      cases g1
      cases g3
      have hz : vz v = vz v' := by
        rcases hg2.2.1 with e | ⟨-, e⟩
        · rw [e, k4] at g2
          cases g2; rfl
        · obtain ⟨r, hr, hr2⟩ := List.any_eq_true.mp e
          simp only [Bool.and_eq_true, beq_iff_eq, decide_eq_true_eq] at hr2
          obtain ⟨z, z1, z2, z3⟩ := hm b (List.mem_of_getElem? hb)
          obtain rfl : z = v' := Option.some.inj (z1.symm.trans k4)
          obtain ⟨y, y1, y2, y3⟩ := z3 r hr
          rw [hr2.1, g2] at y1
          cases y1
          omega
      exact ⟨u, v', w, k1, k3, k5, by omega⟩
    · cases hx
  · show M.pa.length = ws.length
    rw [vals_len h, c3]
end SxT
end
section
/-! SYMBOLIC RUNS, XXI: a node is used; what is told of the end; ranks -/
def x_tid (M : ND) (m : List AV) (n j : Nat) : Nat := if j < M.pa.length then (m.getD j a0).1 else n + (j - M.pa.length)
def x_tav (M : ND) (m : List AV) (n : Nat) (a : AV) : AV := (x_tid M m n a.1, a.2.1, a.2.2.1, a.2.2.2.1, a.2.2.2.2.map (fun r => (x_tid M m n r.1, r.2)) ++ (a.2.2.2.2.flatMap (fun r => if r.1 < M.pa.length then (m.getD r.1 a0).2.2.2.2.map (fun q => (q.1, q.2.1 + r.2.1, q.2.2 + r.2.2)) else [])).take 8)
def x_xav (M : ND) (m : List AV) (n j : Nat) : AV := if j < M.pa.length then m.getD j a0 else x_tav M m n (M.xp.getD (j - M.pa.length) a0)
/-- the state behind a node -/
def x_aft (M : ND) (m : List AV) (S : SS) : SS := (S.1, S.2.1, M.xf.map (fun q => (x_tid M m S.2.2.2.2.2 q.1, q.2.1, q.2.2.1, x_xav M m S.2.2.2.2.2 q.2.2.2)) ++ S.2.2.1.filter (fun q => !(inM M.ms q.2.1 q.2.2.1)), S.2.2.2.1.filter (fun q => !(M.ms.any (fun r => r.1 == q.2.1))), S.2.2.2.2.1, S.2.2.2.2.2 + M.xp.length)
def x_msub (a b : Mods) : Bool := a.all (fun q => b.any (fun p => p.1 == q.1 && decide (p.2.1 ≤ q.2.1 ∧ q.2.2 ≤ p.2.2)))
def rsum : List (Int × Nat) → List Value → Int
  | [], _ => 0
  | q :: t, vs => q.1 * vz (vs.getD q.2 .null) + rsum t vs
def n_mes (N : ND) (vs : List Value) : Nat := (N.rk.1 + rsum N.rk.2 vs).toNat
def mU (w : Int) (b : Int × Int) : Int := max (w * b.1) (w * b.2)
/-- a bound of minus the sum -/
def x_ubO (pa : List AV) : List (Int × Nat) → Option Int
  | [] => some 0
  | q :: t => match pa[q.2]?, x_ubO pa t with
    | some b, some z => if b.2.1 = 2 then none else some (mU (-q.1) (b.2.2.1, b.2.2.2.1) + z)
    | _, _ => none
/-- a bound of the new sum less the old -/
def x_ub (m pa : List AV) : List (Int × Nat) → List (Int × Nat) → Option Int
  | [], t => x_ubO pa t
  | q :: s, [] => (match m[q.2]?, x_ub m pa s [] with
    | some a, some z => if a.2.1 = 2 then none else some (mU q.1 (a.2.2.1, a.2.2.2.1) + z)
    | _, _ => none)
  | q :: s, p :: t => (match m[q.2]?, pa[p.2]?, x_ub m pa s t with
    | some a, some b, some z => if a.2.1 = 2 ∨ b.2.1 = 2 then none else if q.1 = p.1 then some (mU q.1 (a_diff a b) + z) else some (mU q.1 (a.2.2.1, a.2.2.2.1) + (mU (-p.1) (b.2.2.1, b.2.2.2.1) + z))
    | _, _, _ => none)
def x_rk (N M : ND) (m : List AV) : Bool := match x_ub m N.pa M.rk.2 N.rk.2, x_ubO N.pa N.rk.2 with
  | some z, some l => decide (M.rk.1 - N.rk.1 + z ≤ -1 ∧ 1 ≤ N.rk.1 - l)
  | _, _ => false
def x_ap (sets : List (List Int)) (roles : List RD) (N M : ND) (d : Nat) (S : SS) : Option (List (SS × Option AV)) :=
  if M.pc = S.1.2.1 ∧ M.mi = S.1.1 ∧ M.dep ≤ d ∧ M.stg ≤ N.stg then (match x_bs roles N M.bs S [] with
    | some q => if (x_mt sets M q.1 q.2 && ((decide (M.stg < N.stg) || x_rk N M q.2) && x_msub M.ms N.ms)) = true then some (M.alts.map (fun M' => (x_aft M' q.2 q.1, M'.xr.map (x_xav M' q.2 q.1.2.2.2.2.2)))) else none
    | none => none) else none
/-- an address that has a role has a cell that is told, or never one -/
def RK (Γ : Nat → Option Nat) (roles : List RD) (ro : Nat → Option MC) : Prop := ∀ a r, Γ a = some r → (∃ rd, roles[r]? = some rd) ∨ ∀ F, m_cell ro F a = none
section SxU
variable {Γ : Nat → Option Nat} {sets : List (List Int)} {roles : List RD} {ms : Mods} {MT : List MM} {ro : Nat → Option MC} {fty : Nat → Nat → FieldType} {dfl : Nat → List Value} {vs0 : List Value} {F0 : MH} {Q : Option Value → MH → Prop} {d : Nat} {S : SS}
theorem tid_ok {M : ND} {m : List AV} {vs ws t : List Value} (h : ws.map some = m.map (fun a => vs[a.1]?)) (hl : m.length = M.pa.length) {j : Nat} {v : Value} (hv : (ws ++ t)[j]? = some v) : (vs ++ t)[x_tid M m vs.length j]? = some v := by
  have hwl := vals_len h
  unfold x_tid
  split
  · rename_i hj
    rw [List.getElem?_append_left (by omega)] at hv
    have hb : m[j]? = some m[j] := List.getElem?_eq_getElem (by omega)
    obtain ⟨w, h1, h2⟩ := vals_get h hb
    cases h1.symm.trans hv
    rw [List.getD_eq_getElem?_getD, hb]
    exact get_app h2
  · rename_i hj
    rw [List.getElem?_append_right (by omega)] at hv
    rw [List.getElem?_append_right (by omega)]
    rw [show vs.length + (j - M.pa.length) - vs.length = j - ws.length by omega]
    exact hv
theorem tav_ok {M : ND} {m : List AV} {vs ws t : List Value} (h : ws.map some = m.map (fun a => vs[a.1]?)) (hm : ∀ a ∈ m, okA Γ sets vs a) (hl : m.length = M.pa.length) {a : AV} (ha : okA Γ sets (ws ++ t) a) : okA Γ sets (vs ++ t) (x_tav M m vs.length a) := by
  obtain ⟨v, h1, h2, h3⟩ := ha
  refine ⟨v, tid_ok h hl h1, h2, fun r hr => ?_⟩
  rcases List.mem_append.mp hr with hr | hr
  · obtain ⟨r0, hr0, rfl⟩ := List.mem_map.mp hr
    obtain ⟨w, g1, g2⟩ := h3 r0 hr0
    exact ⟨w, tid_ok h hl g1, g2⟩
  · obtain ⟨r0, hr0, hr⟩ := List.mem_flatMap.mp (List.mem_of_mem_take hr)
    split at hr
    · rename_i hlt
      obtain ⟨q, hq, rfl⟩ := List.mem_map.mp hr
      obtain ⟨w, g1, g2⟩ := h3 r0 hr0
      have g3 := tid_ok h hl g1
      have hlt2 : r0.1 < m.length := by omega
      have hb : m.getD r0.1 a0 = m[r0.1] := by rw [List.getD_eq_getElem?_getD, List.getElem?_eq_getElem hlt2]; rfl
      simp only [x_tid, if_pos hlt] at g3
      rw [hb] at g3 hq
      obtain ⟨v', k1, -, k3⟩ := hm _ (List.getElem_mem hlt2)
      rw [get_app k1] at g3
      cases g3
      obtain ⟨u, j1, j2⟩ := k3 q hq
      exact ⟨u, get_app j1, by simp only; omega, by simp only; omega⟩
    · cases hr
theorem wf_xp {M : ND} (h : n_wf M = true) {i : Nat} (hi : i < M.xp.length) : (M.xp.getD i a0).1 = M.pa.length + i := by
  unfold n_wf at h
  simp only [Bool.and_eq_true, beq_iff_eq] at h
  have h1 : (M.xp.map (fun a => a.1))[i]? = ((List.range M.xp.length).map (fun i => M.pa.length + i))[i]? := by rw [h.2.2.2.2.2]
  rw [List.getElem?_map, List.getElem?_map, List.getElem?_eq_getElem hi, List.getElem?_range hi] at h1
  rw [List.getD_eq_getElem?_getD, List.getElem?_eq_getElem hi]
  simpa using h1
theorem xav_ok {M : ND} (hwf : n_wf M = true) {m : List AV} {vs ws t : List Value} (h : ws.map some = m.map (fun a => vs[a.1]?)) (hm : ∀ a ∈ m, okA Γ sets vs a) (hl : m.length = M.pa.length) (ht : t.length = M.xp.length) (hxp : ∀ a ∈ M.xp, okA Γ sets (ws ++ t) a) {j : Nat} {v : Value} (hv : (ws ++ t)[j]? = some v) : okA Γ sets (vs ++ t) (x_xav M m vs.length j) ∧ (vs ++ t)[(x_xav M m vs.length j).1]? = some v := by
  have hwl := vals_len h
  have hlt := (List.getElem?_eq_some_iff.mp hv).1
  rw [List.length_append] at hlt
  have h0 := tid_ok (M := M) h hl hv
  unfold x_xav
  unfold x_tid at h0
  split
  · rename_i hj
    rw [if_pos hj] at h0
    refine ⟨?_, h0⟩
    have hb : m[j]? = some m[j] := List.getElem?_eq_getElem (by omega)
    rw [List.getD_eq_getElem?_getD, hb]
    exact (hm _ (List.getElem_mem _)).app _
  · rename_i hj
    rw [if_neg hj] at h0
    have hi : j - M.pa.length < M.xp.length := by omega
    have hmem : M.xp.getD (j - M.pa.length) a0 ∈ M.xp := by
      rw [List.getD_eq_getElem?_getD, List.getElem?_eq_getElem hi]
      exact List.getElem_mem _
    refine ⟨tav_ok h hm hl (hxp _ hmem), ?_⟩
    simp only [x_tav]
    rw [wf_xp hwf hi, show M.pa.length + (j - M.pa.length) = j by omega]
    unfold x_tid
    rw [if_neg hj]
    exact h0
theorem fa_keep (hR : RK Γ roles ro) {vs : List Value} {F F1 : MH} {q : FA} (h : okFa Γ ro F vs q) (hi : inM ms q.2.1 q.2.2.1 = false) (hF : FRm Γ ro ms F F1) (hW : WT Γ sets roles ro F1) : okFa Γ ro F1 vs q := by
  obtain ⟨a, c, v, g1, g2, g3, g4, g5⟩ := h
  obtain ⟨rd, hrd⟩ := (hR a _ g2).resolve_right (fun z => by rw [z F] at g3; cases g3)
  obtain ⟨c1, k1, -⟩ := hW a _ rd g2 hrd
  obtain ⟨k2, k3⟩ := hF a _ _ c c1 g2 hi g3 k1
  refine ⟨a, c1, v, g1, g2, k1, g4, ?_⟩
  rw [k2, k3]
  exact g5
theorem ea_keep (hR : RK Γ roles ro) {vs : List Value} {F F1 : MH} {q : EA} (h : okEa Γ ro F vs q) (hi : (ms.any (fun r => r.1 == q.2.1)) = false) (hF : FRm Γ ro ms F F1) (hW : WT Γ sets roles ro F1) : okEa Γ ro F1 vs q := by
  obtain ⟨a, c, x, v, g1, g2, g3, g4, g5, g6, g7⟩ := h
  obtain ⟨rd, hrd⟩ := (hR a _ g2).resolve_right (fun z => by rw [z F] at g3; cases g3)
  obtain ⟨c1, k1, -⟩ := hW a _ rd g2 hrd
  have hi2 : inM ms q.2.1 x.toInt.toNat = false := by
    unfold inM
    rw [List.any_eq_false] at hi ⊢
    intro p hp
    have := hi p hp
    simp only [Bool.and_eq_true, beq_iff_eq] at this ⊢
    exact fun z => this z.1.1
  obtain ⟨k2, -⟩ := hF a _ _ c c1 g2 hi2 g3 k1
  exact ⟨a, c1, x, v, g1, g2, k1, g4, g5, g6, by rw [k2]; exact g7⟩
theorem aft_ok (hR : RK Γ roles ro) {M : ND} (hwf : n_wf M = true) {m : List AV} {vs ws : List Value} {f : CF} {fs : List CF} {F F1 : MH} {v : Option Value} (h : ws.map some = m.map (fun a => vs[a.1]?)) (hm : ∀ a ∈ m, okA Γ sets vs a) (hl : m.length = M.pa.length) (hS : okS Γ sets ro vs S f fs F) (hP : n_post Γ sets roles ro M ws F v F1) :
    ∃ t, okS Γ sets ro (vs ++ t) (x_aft M m S) f fs F1 ∧ v.toList.map some = (M.xr.map (x_xav M m S.2.2.2.2.2)).toList.map (fun a => (vs ++ t)[a.1]?) ∧ ∀ a ∈ (M.xr.map (x_xav M m S.2.2.2.2.2)).toList, okA Γ sets (vs ++ t) a := by
  obtain ⟨p1, p2, t, p3, p4, p5, p6⟩ := hP
  obtain ⟨h1, h2, h3, h4, h5, h6, h7⟩ := hS
  refine ⟨t, ⟨fun a ha => ?_, h2.app (fun a ha => (h1 a (mem_top ha)).get) _, h3.app _ (fun f hf a ha => (h1 a (mem_rest hf ha)).get), fun q hq => ?_, fun q hq => ?_, fun q hq => ?_, ?_⟩, ?_, ?_⟩
  · simp only [s_av, x_aft, List.map_append, List.mem_append] at ha
    rcases ha with ha | ha | (ha | ha) | ha
    · exact (h1 a (List.mem_append_left _ ha)).app _
    · exact (h1 a (List.mem_append_right _ (List.mem_append_left _ ha))).app _
    · obtain ⟨q, hq, rfl⟩ := List.mem_map.mp ha
      obtain ⟨q0, hq0, rfl⟩ := List.mem_map.mp hq
      obtain ⟨a, c, v, g1, g2, g3, g4, g5⟩ := p6 q0 hq0
      simp only at g4 ⊢
      rw [h7]
      exact (xav_ok hwf h hm hl p3 p5 g4).1
    · obtain ⟨q, hq, rfl⟩ := List.mem_map.mp ha
      exact (h1 _ (mem_fact (List.mem_filter.mp hq).1)).app _
    · obtain ⟨q, hq, hq2⟩ := List.mem_flatMap.mp ha
      exact (h1 _ (List.mem_append_right _ (List.mem_append_right _ (List.mem_append_right _ (List.mem_flatMap.mpr ⟨q, (List.mem_filter.mp hq).1, hq2⟩))))).app _
  · simp only [x_aft, List.mem_append] at hq
    rcases hq with hq | hq
    · obtain ⟨q0, hq0, rfl⟩ := List.mem_map.mp hq
      obtain ⟨a, c, v, g1, g2, g3, g4, g5⟩ := p6 q0 hq0
      simp only at g1 g2 g4 g5
      rw [h7]
      exact ⟨a, c, v, tid_ok h hl g1, g2, g3, (xav_ok hwf h hm hl p3 p5 g4).2, g5⟩
    · obtain ⟨hq1, hq2⟩ := List.mem_filter.mp hq
      have := fa_keep hR (h4 q hq1) (by simpa using hq2) p2 p1
      obtain ⟨a, c, v, g1, g2, g3, g4, g5⟩ := this
      exact ⟨a, c, v, get_app g1, g2, g3, get_app g4, g5⟩
  · simp only [x_aft] at hq
    obtain ⟨hq1, hq2⟩ := List.mem_filter.mp hq
    have := ea_keep hR (h5 q hq1) (by
      cases hc : M.ms.any (fun r => r.1 == q.2.1) with
      | false => rfl
      | true => rw [hc] at hq2; cases hq2) p2 p1
    obtain ⟨a, c, x, v, g1, g2, g3, g4, g5, g6, g7⟩ := this
    exact ⟨a, c, x, v, get_app g1, g2, g3, get_app g4, g5, get_app g6, g7⟩
  · obtain ⟨u, v, w, g1, g2, g3, g4⟩ := h6 q hq
    exact ⟨u, v, w, get_app g1, get_app g2, get_app g3, g4⟩
  · show S.2.2.2.2.2 + M.xp.length = _
    rw [h7, List.length_append, p3]
  · rw [h7]
    cases hx : M.xr with
    | none => rw [hx] at p4; exact p4
    | some j =>
      rw [hx] at p4
      simp only [Option.toList, List.map_cons, List.map_nil, Option.map] at p4 ⊢
      cases v with
      | none => simp at p4
      | some w =>
        simp only [List.map_cons, List.map_nil, List.cons.injEq, and_true] at p4 ⊢
        exact (xav_ok hwf h hm hl p3 p5 p4.symm).2.symm
  · rw [h7]
    cases hx : M.xr with
    | none => intro a ha; cases ha
    | some j =>
      rw [hx] at p4
      intro a ha
      simp only [Option.toList, List.map_cons, List.map_nil, Option.map, List.mem_cons, List.not_mem_nil, or_false] at p4 ha
      subst ha
      cases v with
      | none => simp at p4
      | some w =>
        simp only [List.map_cons, List.map_nil, List.cons.injEq, and_true] at p4
        exact (xav_ok hwf h hm hl p3 p5 p4.symm).1
theorem fr_trans (hR : RK Γ roles ro) {ns : Mods} {F F1 : MH} (hs : x_msub ns ms = true) (h1 : FRm Γ ro ms F0 F) (hW : WT Γ sets roles ro F) (h2 : FRm Γ ro ns F F1) : FRm Γ ro ms F0 F1 := by
  intro a r k c0 c ha hi hc0 hc
  obtain ⟨rd, hrd⟩ := (hR a r ha).resolve_right (fun z => by rw [z F0] at hc0; cases hc0)
  obtain ⟨c1, k1, -⟩ := hW a r rd ha hrd
  have hi2 : inM ns r k = false := by
    cases hc : inM ns r k with
    | false => rfl
    | true =>
      obtain ⟨q, hq, hq2⟩ := List.any_eq_true.mp hc
      obtain ⟨p, hp, hp2⟩ := List.any_eq_true.mp (List.all_eq_true.mp hs q hq)
      simp only [Bool.and_eq_true, beq_iff_eq, decide_eq_true_eq] at hq2 hp2
      have : inM ms r k = true := List.any_eq_true.mpr ⟨p, hp, by simp only [Bool.and_eq_true, beq_iff_eq, decide_eq_true_eq]; omega⟩
      rw [this] at hi; cases hi
  obtain ⟨a1, a2⟩ := h1 a r k c0 c1 ha hi hc0 k1
  obtain ⟨b1, b2⟩ := h2 a r k c1 c ha hi2 k1 hc
  exact ⟨b1.trans a1, b2.trans a2⟩
theorem mU_ok {w x : Int} {b : Int × Int} (h : i_in x b) : w * x ≤ mU w b := by
  unfold mU
  rcases Int.le_total 0 w with hw | hw
  · have := Int.mul_le_mul_of_nonneg_left h.2 hw
    omega
  · have := Int.mul_le_mul_of_nonpos_left hw h.1
    omega
theorem getD_val {vs : List Value} {j : Nat} {v : Value} (h : vs[j]? = some v) : vs.getD j .null = v := by
  rw [List.getD_eq_getElem?_getD, h]; rfl
theorem ubO_ok {pa : List AV} {vs : List Value} (hpa : ∀ i b, pa[i]? = some b → okA Γ sets vs b ∧ b.1 = i) : ∀ (t : List (Int × Nat)) (z : Int), x_ubO pa t = some z → -(rsum t vs) ≤ z
  | [], z, h => by cases h; simp [rsum]
  | q :: t, z, h => by
    rw [x_ubO] at h
    split at h
    · rename_i b z1 hb hz
      split at h
      · cases h
      · rename_i hk
        cases h
        have ih := ubO_ok hpa t z1 hz
        obtain ⟨⟨v, e1, e2, -⟩, e3⟩ := hpa _ b hb
        rw [e3] at e1
        have n := e2.num hk
        rw [rsum, getD_val e1]
        have := mU_ok (w := -q.1) (x := vz v) (b := (b.2.2.1, b.2.2.2.1)) n
        rw [Int.neg_mul] at this
        omega
    · cases h
theorem ub_ok {m pa : List AV} {vs vs0 ws : List Value} (hpa : ∀ i b, pa[i]? = some b → okA Γ sets vs b ∧ b.1 = i) (hpre : ∀ i, i < pa.length → vs0[i]? = vs[i]?) (hm : ∀ a ∈ m, okA Γ sets vs a) (h : ws.map some = m.map (fun a => vs[a.1]?)) : ∀ (s t : List (Int × Nat)) (z : Int), x_ub m pa s t = some z → rsum s ws - rsum t vs0 ≤ z
  | [], t, z, hx => by
    rw [x_ub] at hx
    have hpa0 : ∀ i b, pa[i]? = some b → vs0[i]? = vs[i]? := fun i b hb => hpre i (List.getElem?_eq_some_iff.mp hb).1
    have key : ∀ (t : List (Int × Nat)) (z : Int), x_ubO pa t = some z → rsum t vs0 = rsum t vs := by
      intro t
      induction t with
      | nil => intro z _; rfl
      | cons q t ih =>
        intro z hz
        rw [x_ubO] at hz
        split at hz
        · rename_i b z1 hb hz1
          rw [rsum, rsum, ih z1 hz1, List.getD_eq_getElem?_getD, List.getD_eq_getElem?_getD, hpa0 _ b hb]
        · cases hz
    have := ubO_ok hpa t z hx
    rw [key t z hx]
    simp only [rsum]
    omega
  | q :: s, [], z, hx => by
    rw [x_ub] at hx
    split at hx
    · rename_i a z1 ha hz
      split at hx
      · cases hx
      · rename_i hk
        cases hx
        have ih := ub_ok hpa hpre hm h s [] z1 hz
        obtain ⟨v, h1, h2⟩ := vals_get h ha
        obtain ⟨v', g1, g2, -⟩ := hm a (List.mem_of_getElem? ha)
        obtain rfl : v' = v := Option.some.inj (g1.symm.trans h2)
        have n := g2.num hk
        simp only [rsum] at ih ⊢
        rw [getD_val h1]
        have := mU_ok (w := q.1) (x := vz v') (b := (a.2.2.1, a.2.2.2.1)) n
        omega
    · cases hx
  | q :: s, p :: t, z, hx => by
    rw [x_ub] at hx
    split at hx
    · rename_i a b z1 ha hb hz
      split at hx
      · cases hx
      · rename_i hk
        have ih := ub_ok hpa hpre hm h s t z1 hz
        obtain ⟨v, h1, h2⟩ := vals_get h ha
        have oa := hm a (List.mem_of_getElem? ha)
        have oa' := oa
        obtain ⟨v', g1, g2, -⟩ := oa
        obtain rfl : v' = v := Option.some.inj (g1.symm.trans h2)
        have na := g2.num (fun e => hk (Or.inl e))
        obtain ⟨ob, e3⟩ := hpa _ b hb
        have ob' := ob
        obtain ⟨w, e1, e2, -⟩ := ob
        have nb := e2.num (fun e => hk (Or.inr e))
        have e1' := e1
        rw [e3] at e1
        rw [← hpre p.2 (List.getElem?_eq_some_iff.mp hb).1] at e1
        rw [rsum, rsum, getD_val h1, getD_val e1]
        split at hx
        · rename_i hw
          cases hx
          have hd := a_diff_ok oa' ob' (fun e => hk (Or.inl e)) (fun e => hk (Or.inr e)) h2 e1'
          have := mU_ok (w := q.1) hd
          rw [Int.mul_sub] at this
          rw [← hw]
          omega
        · cases hx
          have u1 := mU_ok (w := q.1) (x := vz v') (b := (a.2.2.1, a.2.2.2.1)) na
          have u2 := mU_ok (w := -p.1) (x := vz w) (b := (b.2.2.1, b.2.2.2.1)) nb
          rw [Int.neg_mul] at u2
          omega
    · cases hx
theorem wf_pa {N : ND} (hwf : n_wf N = true) {vs : List Value} (hN : ∀ a ∈ N.pa, okA Γ sets vs a) : ∀ i b, N.pa[i]? = some b → okA Γ sets vs b ∧ b.1 = i := by
  intro i b hb
  refine ⟨hN b (List.mem_of_getElem? hb), ?_⟩
  have := wf_id hwf (List.getElem?_eq_some_iff.mp hb).1
  unfold n_av at this
  rw [List.getD_eq_getElem?_getD, hb] at this
  exact this
theorem rk_ok {N M : ND} (hwf : n_wf N = true) {m : List AV} {vs ws : List Value} (hN : ∀ a ∈ N.pa, okA Γ sets vs a) (hn : vs0.length = N.pa.length) (hp : ∃ t, vs = vs0 ++ t) (hm : ∀ a ∈ m, okA Γ sets vs a) (h : ws.map some = m.map (fun a => vs[a.1]?)) (hx : x_rk N M m = true) : n_mes M ws < n_mes N vs0 := by
  unfold x_rk at hx
  split at hx
  · rename_i z l hz hl
    simp only [decide_eq_true_eq] at hx
    obtain ⟨t, rfl⟩ := hp
    have hpre : ∀ i, i < N.pa.length → vs0[i]? = (vs0 ++ t)[i]? := fun i hi => by rw [List.getElem?_append_left (by omega)]
    have h1 := ub_ok (wf_pa hwf hN) hpre hm h _ _ z hz
    have h2 := ub_ok (m := []) (ws := []) (wf_pa hwf hN) hpre (fun a ha => by cases ha) rfl [] _ l (by rw [x_ub]; exact hl)
    simp only [rsum] at h2
    unfold n_mes
    omega
  · cases hx
end SxU
end
section
/-! SYMBOLIC RUNS, XXII: the end of a node; the runs as a function; all nodes hold -/
def x_xb (S : SS) (r : Option AV) : List (Nat × Nat × Nat) → Option (List AV)
  | [] => some []
  | b :: t => match (if b.1 = 0 then r else (S.2.2.1.find? (fun q => q.1 == b.2.1 && q.2.2.1 == b.2.2)).map (fun q => q.2.2.2)), x_xb S r t with
    | some a, some m => some (a :: m)
    | _, _ => none
def x_end (sets : List (List Int)) (N : ND) (S : SS) (r : Option AV) : Bool := match x_xb S r N.xb with
  | some m => decide (m.length = N.xp.length) && (N.xp.all (x_ent sets (N.pa ++ m)) && ((match N.xr, r with
      | none, none => true
      | some j, some b => (match (N.pa ++ m)[j]? with | some c => x_eq b c | none => false)
      | _, _ => false) && N.xf.all (x_has S (N.pa ++ m))))
  | none => false
def x_try (sets : List (List Int)) (roles : List RD) (N : ND) (d : Nat) (S : SS) : List ND → Option (List (SS × Option AV))
  | [] => none
  | M :: t => match x_ap sets roles N M d S with
    | some q => some q
    | none => x_try sets roles N d S t
def x_sym (S : SS) (j : Nat) : Option AV := if j < 100 then x_get S.1.2.2.1 j else if j < 1000 then S.1.2.2.2[j - 100]? else (match x_get S.1.2.2.1 0 with | some p => (S.2.2.1.find? (fun q => q.1 == p.1 && q.2.2.1 == j - 1000)).map (fun q => q.2.2.2) | none => none)
/-- what is told apart at a place: pc, symbol, and 0 (each value), or where the bounds are cut -/
abbrev SP : Type := Nat × Nat × Int
def x_spl (sets : List (List Int)) (S : SS) : List SP → Option (List SS)
  | [] => none
  | q :: t => if q.1 = S.1.2.1 then (match x_sym S q.2.1 with
      | some a => if k_is a.2.1 0 = true ∧ a.2.2.1 < a.2.2.2.1 then
          (if q.2.2 = 0 then (if a.2.2.2.1 - a.2.2.1 ≤ 200 then some ((x_cs sets a).map (fun c => s_map (a_cl a.1 c c) S)) else x_spl sets S t)
          else if a.2.2.1 < q.2.2 ∧ q.2.2 ≤ a.2.2.2.1 then some [s_map (a_cl a.1 a.2.2.1 (q.2.2 - 1)) S, s_map (a_cl a.1 q.2.2 a.2.2.2.1) S] else x_spl sets S t)
        else x_spl sets S t
      | none => x_spl sets S t) else x_spl sets S t
abbrev AN : Type := List (List ND × List SP)
def an_at (A : AN) (mi : Nat) : List ND × List SP := A.getD mi ([], [])
def sx (Γ : Nat → Option Nat) (sets : List (List Int)) (roles : List RD) (fty : Nat → Nat → FieldType) (MT : List MM) (A : AN) (N : ND) : Nat → Nat → SS → Bool
  | 0, _, _ => false
  | n + 1, d, S => match x_try sets roles N d S (an_at A S.1.1).1 with
    | some l => l.all (fun q => match x_pop q.1 q.2 with
      | some S3 => sx Γ sets roles fty MT A N n (d + 1) S3
      | none => N.alts.any (fun N' => x_end sets N' q.1 q.2))
    | none => match x_spl sets S (an_at A S.1.1).2 with
      | some L => L.all (fun S3 => sx Γ sets roles fty MT A N n d S3)
      | none => match m_at MT S.1.1 S.1.2.1 with
        | none => false
        | some E => match x_stp Γ sets roles fty MT N.ms S E.1 with
          | some L => L.all (fun S3 => sx Γ sets roles fty MT A N n d S3)
          | none => match x_ret E.2 E.1.2.1 S.1.2.2.2 with
            | some r => (match x_pop S r with
              | some S3 => sx Γ sets roles fty MT A N n (d + 1) S3
              | none => N.alts.any (fun N' => x_end sets N' S r))
            | none => match x_max S E.1 with
              | some S3 => sx Γ sets roles fty MT A N n d S3
              | none => match x_call MT roles S E.1 with
                | some S3 => (match d with | 0 => false | d' + 1 => sx Γ sets roles fty MT A N n d' S3)
                | none => false
def n_chk (Γ : Nat → Option Nat) (sets : List (List Int)) (roles : List RD) (fty : Nat → Nat → FieldType) (MT : List MM) (A : AN) (n : Nat) (N : ND) : Bool := n_wfA N && sx Γ sets roles fty MT A N n N.dep (n_st N)
section SxV
variable {Γ : Nat → Option Nat} {sets : List (List Int)} {roles : List RD} {ms : Mods} {MT : List MM} {ro : Nat → Option MC} {fty : Nat → Nat → FieldType} {dfl : Nat → List Value} {vs0 : List Value} {F0 : MH} {Q : Option Value → MH → Prop} {d : Nat} {S : SS}
/-- what must hold when the running frame has ended with r -/
def Fin (Γ : Nat → Option Nat) (sets : List (List Int)) (roles : List RD) (ms : Mods) (MT : List MM) (ro : Nat → Option MC) (fty : Nat → Nat → FieldType) (dfl : Nat → List Value) (vs0 : List Value) (F0 : MH) (Q : Option Value → MH → Prop) (d : Nat) (S : SS) (r : Option AV) : Prop :=
  ∀ vs f fs F v, (∃ t, vs = vs0 ++ t) → okS Γ sets ro vs S f fs F → WT Γ sets roles ro F → FRm Γ ro ms F0 F → v.toList.map some = r.toList.map (fun a => vs[a.1]?) → (∀ a ∈ r.toList, okA Γ sets vs a) → KK MT ro fty dfl d fs Q v F
theorem fin_pop {r : Option AV} {S1 : SS} (hp1 : x_pop S r = some S1) (h : Good Γ sets roles ms MT ro fty dfl vs0 F0 Q (d + 1) S1) : Fin Γ sets roles ms MT ro fty dfl vs0 F0 Q d S r := by
  intro vs f fs F v hp hS hW hF o3 o4
  unfold x_pop at hp1
  split at hp1
  · rename_i g gs hg
    cases hp1
    obtain ⟨h1, h2, h3, h4, h5, h6, h7⟩ := hS
    rw [hg] at h3
    cases fs with
    | nil => exact h3.elim
    | cons cf cfs =>
      obtain ⟨⟨k1, k2, k3, k4⟩, k5⟩ := h3
      have hk := h vs (cf.1, cf.2.1 + 3, cf.2.2.1, v.toList ++ cf.2.2.2) cfs F hp ?_ hW hF
      · exact hk
      · refine ⟨fun b hb => ?_, ⟨k1, by show g.2.1 + 3 = _; rw [k2], k3, ?_⟩, k5, h4, h5, h6, h7⟩
        · simp only [s_av, s_avF, List.mem_append] at hb
          rcases hb with (hb | hb | hb) | hb | hb
          · exact h1 b (List.mem_append_right _ (List.mem_append_left _ (by rw [hg]; exact List.mem_append_left _ (List.mem_append_left _ hb))))
          · exact o4 b hb
          · exact h1 b (List.mem_append_right _ (List.mem_append_left _ (by rw [hg]; exact List.mem_append_left _ (List.mem_append_right _ hb))))
          · exact h1 b (List.mem_append_right _ (List.mem_append_left _ (by rw [hg]; exact List.mem_append_right _ hb)))
          · exact h1 b (List.mem_append_right _ (List.mem_append_right _ (List.mem_append.mpr hb)))
        · simp only [List.map_append]
          rw [o3, k4]
  · cases hp1
theorem xb_ok {r : Option AV} {vs : List Value} {f : CF} {fs : List CF} {F : MH} (hS : okS Γ sets ro vs S f fs F) (hr : ∀ a ∈ r.toList, okA Γ sets vs a) : ∀ (xb : List (Nat × Nat × Nat)) (m : List AV), x_xb S r xb = some m → ∀ a ∈ m, okA Γ sets vs a
  | [], m, h => by cases h; intro a ha; cases ha
  | b :: t, m, h => by
    rw [x_xb] at h
    split at h
    · rename_i a m1 ha hm
      cases h
      intro c hc
      rcases List.mem_cons.mp hc with rfl | hc
      · split at ha
        · exact hr _ (by rw [ha]; exact List.mem_cons_self)
        · cases hq : S.2.2.1.find? (fun q => q.1 == b.2.1 && q.2.2.1 == b.2.2) with
          | none => rw [hq] at ha; cases ha
          | some q =>
            rw [hq] at ha
            cases ha
            exact hS.1 _ (mem_fact (List.mem_of_find?_eq_some hq))
      · exact xb_ok hS hr t m1 hm c hc
    · cases h
theorem fin_end {N : ND} {r : Option AV} (hwf : n_wf N = true) (hn : vs0.length = N.pa.length) (hN : ∀ a ∈ N.pa, okA Γ sets vs0 a) (hnil : S.2.1 = []) (hx : x_end sets N S r = true) : Fin Γ sets roles N.ms MT ro fty dfl vs0 F0 (n_post Γ sets roles ro N vs0 F0) d S r := by
  intro vs f fs F v hp hS hW hF o3 o4
  have hfs : fs = [] := by
    have := hS.2.2.1
    rw [hnil] at this
    cases fs with
    | nil => rfl
    | cons a b => exact this.elim
  subst hfs
  unfold x_end at hx
  split at hx
  · rename_i m hm
    simp only [Bool.and_eq_true, decide_eq_true_eq, List.all_eq_true] at hx
    obtain ⟨c1, c2, c3, c4⟩ := hx
    have hma := xb_ok hS o4 _ _ hm
    obtain ⟨t, ht⟩ := vals_of m hma
    obtain ⟨t0, rfl⟩ := hp
    have hNv : ∀ a ∈ N.pa, okA Γ sets (vs0 ++ t0) a := fun a ha => (hN a ha).app _
    have hall : ∀ a ∈ N.pa ++ m, okA Γ sets (vs0 ++ t0) a := fun a ha => (List.mem_append.mp ha).elim (hNv a) (hma a)
    have hws : (vs0 ++ t).map some = (N.pa ++ m).map (fun a => (vs0 ++ t0)[a.1]?) := by
      rw [List.map_append, List.map_append, ht]
      congr 1
      apply List.ext_getElem?
      intro i
      rw [List.getElem?_map, List.getElem?_map]
      cases hb : N.pa[i]? with
      | none =>
        have : vs0.length ≤ i := by rw [hn]; exact List.getElem?_eq_none_iff.mp hb
        rw [List.getElem?_eq_none this]; rfl
      | some b =>
        have hi := (List.getElem?_eq_some_iff.mp hb).1
        rw [List.getElem?_eq_getElem (by omega)]
        simp only [Option.map]
        rw [(wf_pa hwf hN i b hb).2, List.getElem?_append_left (by omega), List.getElem?_eq_getElem (by omega)]
    refine ⟨hW, hF, t, by rw [vals_len ht, c1], ?_, fun a ha => ent_ok hws hall (c2 a ha), fun q hq => has_ok hws hall hS (c4 q hq)⟩
    rw [o3]
    split at c3
    · rename_i e1
      rw [e1]; rfl
    · rename_i j b e1
      rw [e1]
      split at c3
      · rename_i c hc
        simp only [Option.toList, List.map_cons, List.map_nil]
        obtain ⟨w, k1, k2⟩ := vals_get hws hc
        have ob := o4 b (by simp)
        obtain ⟨u, hu⟩ := ob.get
        have := x_eq_ok c3 ob (hall c (List.mem_of_getElem? hc)) hu k2
        subst this
        rw [hu, k1]
      · cases c3
    · cases c3
  · cases hx
theorem g_retF {E : MI × Option FieldType} (hE : m_at MT S.1.1 S.1.2.1 = some E) {r : Option AV} (hx : x_ret E.2 E.1.2.1 S.1.2.2.2 = some r) (h : Fin Γ sets roles ms MT ro fty dfl vs0 F0 Q d S r) : Good Γ sets roles ms MT ro fty dfl vs0 F0 Q d S := by
  intro vs f fs F hp hS hW hF
  have hS0 := hS
  obtain ⟨lv, cst, rfl, hl, hc1, hc2⟩ := hS.frame
  obtain ⟨o1, v, o2, o3, o4⟩ := ret_one (ro := ro) (fty := fty) (dfl := dfl) hx hc1 hc2 F lv
  exact TT.ret hE o1 o2 (h vs _ fs F v hp hS0 hW hF o3 (fun a ha => hc2 a (o4 a ha)))
theorem fin_ends {N : ND} {r : Option AV} (hwf : n_wfA N = true) (hn : vs0.length = N.pa.length) (hN : ∀ a ∈ N.pa, okA Γ sets vs0 a) (hnil : S.2.1 = []) (hx : N.alts.any (fun N' => x_end sets N' S r) = true) : Fin Γ sets roles N.ms MT ro fty dfl vs0 F0 (n_posts Γ sets roles ro N vs0 F0) d S r := by
  obtain ⟨M, hM, hx⟩ := List.any_eq_true.mp hx
  have hw := List.all_eq_true.mp hwf M hM
  have e := ND.alt_pa hM
  have f1 : Fin Γ sets roles M.ms MT ro fty dfl vs0 F0 (n_post Γ sets roles ro M vs0 F0) d S r := fin_end hw (by rw [e]; exact hn) (by rw [e]; exact hN) hnil hx
  rw [ND.alt_ms hM] at f1
  intro vs f fs F v a1 a2 a3 a4 a5 a6
  have hfs : fs = [] := by
    have := a2.2.2.1
    rw [hnil] at this
    cases fs with
    | nil => rfl
    | cons a b => exact this.elim
  subst hfs
  exact ⟨M, hM, f1 vs f [] F v a1 a2 a3 a4 a5 a6⟩
/-- a node holds, where its rank is below k or its stage is earlier -/
def NH (Γ : Nat → Option Nat) (sets : List (List Int)) (roles : List RD) (MT : List MM) (ro : Nat → Option MC) (fty : Nat → Nat → FieldType) (dfl : Nat → List Value) (A : AN) (s k : Nat) : Prop := ∀ p ∈ A, ∀ M ∈ p.1, n_wfA M = true ∧ ∀ ws f F, (M.stg < s ∨ (M.stg = s ∧ n_mes M ws < k)) → okN Γ sets ro M ws f F → WT Γ sets roles ro F → TT MT ro fty dfl M.dep f.1 F f.2.1 f.2.2.1 f.2.2.2 (n_posts Γ sets roles ro M ws F)
theorem g_ap (hR : RK Γ roles ro) {A : AN} {N M : ND} (hwfN : n_wf N = true) (hn : vs0.length = N.pa.length) (hN : ∀ a ∈ N.pa, okA Γ sets vs0 a) (hH : NH Γ sets roles MT ro fty dfl A N.stg (n_mes N vs0)) {p : List ND × List SP} (hp : p ∈ A) (hM : M ∈ p.1) {l : List (SS × Option AV)} (hx : x_ap sets roles N M d S = some l) (h : ∀ q ∈ l, Fin Γ sets roles N.ms MT ro fty dfl vs0 F0 Q d q.1 q.2) : Good Γ sets roles N.ms MT ro fty dfl vs0 F0 Q d S := by
  intro vs f fs F hpre hS hW hF
  obtain ⟨hwf, hMM⟩ := hH p hp M hM
  unfold x_ap at hx
  split at hx
  · rename_i hc
    obtain ⟨-, -, hd, hstg⟩ := hc
    split at hx
    · rename_i q1 hq1
      split at hx
      · rename_i hck
        cases hx
        simp only [Bool.and_eq_true, Bool.or_eq_true, decide_eq_true_eq] at hck
        obtain ⟨k1, k2, k3⟩ := hck
        obtain ⟨t0, rfl⟩ := hpre
        obtain ⟨t, b1, b2, b3, b4⟩ := bs_ok (N := N) hW M.bs S [] q1 (vs0 ++ t0) hq1 hS (fun a ha => by cases ha) (fun a ha => (hN a ha).app _)
        obtain ⟨ws, hws⟩ := vals_of q1.2 b2
        have hok := mt_ok (wfA_wf hwf) k1 b1 b2 hws
        have hl : q1.2.length = M.pa.length := by
          unfold x_mt at k1
          simp only [Bool.and_eq_true, decide_eq_true_eq] at k1
          exact k1.1.2.2
        have hT := hMM ws f F (by
          rcases k2 with k2 | k2
          · exact Or.inl k2
          · rcases Nat.lt_or_ge M.stg N.stg with hlt | hge
            · exact Or.inl hlt
            · exact Or.inr ⟨by omega, rk_ok (vs0 := vs0) hwfN (fun a ha => by rw [List.append_assoc]; exact (hN a ha).app _) hn ⟨t0 ++ t, by rw [List.append_assoc]⟩ b2 hws k2⟩) hok hW
        refine (hT.deep hd).imp (fun v F1 hP => ?_)
        obtain ⟨M', hM', hP⟩ := hP
        obtain ⟨t2, g1, g2, g3⟩ := aft_ok hR (List.all_eq_true.mp hwf M' hM') hws b2 (by rw [ND.alt_pa hM']; exact hl) b1 hP
        rw [← ND.alt_ms hM'] at k3
        refine h _ (List.mem_map.mpr ⟨M', hM', rfl⟩) _ f fs F1 v ⟨t0 ++ (t ++ t2), ?_⟩ g1 hP.1 (fr_trans hR k3 hF hW hP.2.1) g2 g3
        simp only [List.append_assoc]
      · cases hx
    · cases hx
  · cases hx
theorem try_ok {N : ND} {q : List (SS × Option AV)} : ∀ (l : List ND), x_try sets roles N d S l = some q → ∃ M ∈ l, x_ap sets roles N M d S = some q
  | [], h => by cases h
  | M :: t, h => by
    rw [x_try] at h
    split at h
    · rename_i q1 hq
      cases h
      exact ⟨M, List.mem_cons_self, hq⟩
    · obtain ⟨M2, h1, h2⟩ := try_ok t h
      exact ⟨M2, List.mem_cons_of_mem _ h1, h2⟩
theorem sym_mem {j : Nat} {a : AV} (h : x_sym S j = some a) : a ∈ s_av S := by
  unfold x_sym at h
  split at h
  · exact mem_loc (x_get_mem h)
  · split at h
    · exact mem_top (List.mem_of_getElem? h)
    · split at h
      · rename_i p hp
        cases hq : S.2.2.1.find? (fun q => q.1 == p.1 && q.2.2.1 == j - 1000) with
        | none => rw [hq] at h; cases h
        | some q =>
          rw [hq] at h
          cases h
          exact mem_fact (List.mem_of_find?_eq_some hq)
      · cases h
theorem spl_ok {L : List SS} : ∀ (l : List SP), x_spl sets S l = some L → (∀ S3 ∈ L, Good Γ sets roles ms MT ro fty dfl vs0 F0 Q d S3) → Good Γ sets roles ms MT ro fty dfl vs0 F0 Q d S
  | [], h, _ => by cases h
  | q :: t, h, hL => by
    rw [x_spl] at h
    split at h
    · split at h
      · rename_i a ha
        split at h
        · rename_i hk
          split at h
          · split at h
            · cases h
              exact g_spl (sym_mem ha) hk.1 (fun c hc => hL _ (List.mem_map.mpr ⟨c, hc, rfl⟩))
            · exact spl_ok t h hL
          · split at h
            · rename_i hc
              cases h
              intro vs f fs F hp hS hW hF
              obtain ⟨v, h1, h2, -⟩ := hS.1 a (sym_mem ha)
              have n := h2.num (k_is_int h2 hk.1).2
              by_cases hv : vz v < q.2.2
              · exact hL _ List.mem_cons_self vs f fs F hp (hS.cl h1 n.1 (by omega)) hW hF
              · exact hL _ (List.mem_cons_of_mem _ List.mem_cons_self) vs f fs F hp (hS.cl h1 (by omega) n.2) hW hF
            · exact spl_ok t h hL
        · exact spl_ok t h hL
      · exact spl_ok t h hL
    · exact spl_ok t h hL
theorem an_mem {A : AN} {mi : Nat} {M : ND} (h : M ∈ (an_at A mi).1) : ∃ p ∈ A, M ∈ p.1 := by
  unfold an_at at h
  rw [List.getD_eq_getElem?_getD] at h
  cases hp : A[mi]? with
  | none => rw [hp] at h; cases h
  | some p =>
    rw [hp] at h
    exact ⟨p, List.mem_of_getElem? hp, h⟩
theorem fin_or {N : ND} {r : Option AV} {A : AN} {n : Nat} (hwf : n_wfA N = true) (hn : vs0.length = N.pa.length) (hN : ∀ a ∈ N.pa, okA Γ sets vs0 a) (ih : ∀ d S, sx Γ sets roles fty MT A N n d S = true → Good Γ sets roles N.ms MT ro fty dfl vs0 F0 (n_posts Γ sets roles ro N vs0 F0) d S) (h : (match x_pop S r with | some S3 => sx Γ sets roles fty MT A N n (d + 1) S3 | none => N.alts.any (fun N' => x_end sets N' S r)) = true) : Fin Γ sets roles N.ms MT ro fty dfl vs0 F0 (n_posts Γ sets roles ro N vs0 F0) d S r := by
  split at h
  · rename_i S3 hS3
    exact fin_pop hS3 (ih _ _ h)
  · rename_i hnone
    refine fin_ends hwf hn hN ?_ h
    unfold x_pop at hnone
    split at hnone
    · cases hnone
    · rename_i e; exact e
theorem sx_ok (hG : GOK Γ roles) (hR : RK Γ roles ro) {A : AN} {N : ND} (hwf : n_wfA N = true) (hn : vs0.length = N.pa.length) (hN : ∀ a ∈ N.pa, okA Γ sets vs0 a) (hH : NH Γ sets roles MT ro fty dfl A N.stg (n_mes N vs0)) : ∀ (n d : Nat) (S : SS), sx Γ sets roles fty MT A N n d S = true → Good Γ sets roles N.ms MT ro fty dfl vs0 F0 (n_posts Γ sets roles ro N vs0 F0) d S := by
  intro n
  induction n with
  | zero => intro d S h; cases h
  | succ n ih =>
    intro d S h
    rw [sx] at h
    split at h
    · rename_i q hq
      obtain ⟨M, hM, hap⟩ := try_ok _ hq
      obtain ⟨p, hp, hMp⟩ := an_mem hM
      exact g_ap hR (wfA_wf hwf) hn hN hH hp hMp hap (fun q hq => fin_or hwf hn hN ih (List.all_eq_true.mp h q hq))
    · split at h
      · rename_i L hL
        exact spl_ok _ hL (fun S3 h3 => ih _ _ (List.all_eq_true.mp h S3 h3))
      · split at h
        · cases h
        · rename_i E hE
          split at h
          · rename_i L hL
            exact g_stp hG hE hL (fun S3 h3 => ih _ _ (List.all_eq_true.mp h S3 h3))
          · split at h
            · rename_i r hr
              exact g_retF hE hr (fin_or hwf hn hN ih h)
            · split at h
              · rename_i S3 hS3
                exact g_max hE hS3 (ih _ _ h)
              · split at h
                · rename_i S3 hS3
                  cases d with
                  | zero => cases h
                  | succ d' => exact g_call hG hE hS3 (ih _ _ h)
                · cases h
theorem nodes_ok (hG : GOK Γ roles) (hR : RK Γ roles ro) {A : AN} (n : Nat) (hA : ∀ p ∈ A, ∀ M ∈ p.1, n_chk Γ sets roles fty MT A n M = true ∨ (n_wfA M = true ∧ ∀ ws f F, okN Γ sets ro M ws f F → WT Γ sets roles ro F → TT MT ro fty dfl M.dep f.1 F f.2.1 f.2.2.1 f.2.2.2 (n_posts Γ sets roles ro M ws F))) : ∀ s k, NH Γ sets roles MT ro fty dfl A s k := by
  have hwf : ∀ p ∈ A, ∀ M ∈ p.1, n_wfA M = true := fun p hp M hM => by
    rcases hA p hp M hM with h | h
    · unfold n_chk at h
      simp only [Bool.and_eq_true] at h
      exact h.1
    · exact h.1
  have one : ∀ s k, NH Γ sets roles MT ro fty dfl A s k → ∀ p ∈ A, ∀ M ∈ p.1, ∀ ws f F, M.stg = s → n_mes M ws = k → okN Γ sets ro M ws f F → WT Γ sets roles ro F → TT MT ro fty dfl M.dep f.1 F f.2.1 f.2.2.1 f.2.2.2 (n_posts Γ sets roles ro M ws F) := by
    intro s k hNH p hp M hM ws f F hs hk hok hW
    subst hs
    subst hk
    rcases hA p hp M hM with hc | hc
    rotate_left
    · exact hc.2 ws f F hok hW
    unfold n_chk at hc
    simp only [Bool.and_eq_true] at hc
    have hlen : ws.length = M.pa.length := hok.1.2.2.2.2.2.2.symm
    have hg := sx_ok (vs0 := ws) (F0 := F) hG hR hc.1 hlen hok.2 hNH n M.dep (n_st M) hc.2
    exact hg ws f [] F ⟨[], by rw [List.append_nil]⟩ hok.1 hW (fun a r k c0 c _ _ h0 h1 => by
      cases h0.symm.trans h1; exact ⟨rfl, rfl⟩)
  intro s
  induction s using Nat.strongRecOn with
  | ind s ihs =>
    intro k
    induction k using Nat.strongRecOn with
    | ind k ihk =>
      intro p hp M hM
      refine ⟨hwf p hp M hM, fun ws f F hor hok hW => ?_⟩
      rcases hor with h | ⟨h1, h2⟩
      · exact one M.stg (n_mes M ws) (ihs M.stg h _) p hp M hM ws f F rfl rfl hok hW
      · exact one s (n_mes M ws) (ihk _ h2) p hp M hM ws f F h1 rfl hok hW
end SxV
end
