section
-- ===== PART A: goes FIRST, ahead of the names: the tables' words, and 'selects' of the private methods out of them =====
/-- a private method of a class that the tables say can be made, by its rows of tables_1 -/
def lw_okq (q : MethodName × Nat) : Prop := (q.1.cls ≠ "java/lang/invoke/MethodHandle" ∧ q.1.cls ≠ "java/lang/invoke/VarHandle") ∧ Cond.instantiable q.1.cls q.2 ∈ tables_1 ∧ Cond.privateMethod q.1 ∈ tables_1 ∧ Cond.instanceMethod q.1 ∈ tables_1
theorem lw_p0 : lw_okq (⟨"DoorPaints$Tape", "skip", "(II)Z"⟩, 6) := ⟨⟨by decide +kernel, by decide +kernel⟩, List.mem_of_getElem? (i := 161) (by decide +kernel), List.mem_of_getElem? (i := 347) (by decide +kernel), List.mem_of_getElem? (i := 348) (by decide +kernel)⟩
theorem lw_p1 : lw_okq (⟨"DoorPaints$Tape", "takeNumber", "()V"⟩, 6) := ⟨⟨by decide +kernel, by decide +kernel⟩, List.mem_of_getElem? (i := 161) (by decide +kernel), List.mem_of_getElem? (i := 351) (by decide +kernel), List.mem_of_getElem? (i := 352) (by decide +kernel)⟩
theorem lw_p2 : lw_okq (⟨"DoorPaints$Reader", "readLine", "()V"⟩, 5) := ⟨⟨by decide +kernel, by decide +kernel⟩, List.mem_of_getElem? (i := 26) (by decide +kernel), List.mem_of_getElem? (i := 355) (by decide +kernel), List.mem_of_getElem? (i := 356) (by decide +kernel)⟩
theorem lw_p3 : lw_okq (⟨"DoorPaints$Reader", "stands", "(I)Z"⟩, 5) := ⟨⟨by decide +kernel, by decide +kernel⟩, List.mem_of_getElem? (i := 26) (by decide +kernel), List.mem_of_getElem? (i := 359) (by decide +kernel), List.mem_of_getElem? (i := 360) (by decide +kernel)⟩
theorem lw_p4 : lw_okq (⟨"DoorPaints$Reader", "fail", "(I)V"⟩, 5) := ⟨⟨by decide +kernel, by decide +kernel⟩, List.mem_of_getElem? (i := 26) (by decide +kernel), List.mem_of_getElem? (i := 363) (by decide +kernel), List.mem_of_getElem? (i := 364) (by decide +kernel)⟩
theorem lw_p5 : lw_okq (⟨"DoorPaints$Reader", "readDoor", "()V"⟩, 5) := ⟨⟨by decide +kernel, by decide +kernel⟩, List.mem_of_getElem? (i := 26) (by decide +kernel), List.mem_of_getElem? (i := 420) (by decide +kernel), List.mem_of_getElem? (i := 421) (by decide +kernel)⟩
theorem lw_p6 : lw_okq (⟨"DoorPaints$Reader", "numberStands", "(I)Z"⟩, 5) := ⟨⟨by decide +kernel, by decide +kernel⟩, List.mem_of_getElem? (i := 26) (by decide +kernel), List.mem_of_getElem? (i := 425) (by decide +kernel), List.mem_of_getElem? (i := 426) (by decide +kernel)⟩
theorem lw_p7 : lw_okq (⟨"DoorPaints$Reader", "endLine", "()V"⟩, 5) := ⟨⟨by decide +kernel, by decide +kernel⟩, List.mem_of_getElem? (i := 26) (by decide +kernel), List.mem_of_getElem? (i := 433) (by decide +kernel), List.mem_of_getElem? (i := 434) (by decide +kernel)⟩
theorem lw_p8 : lw_okq (⟨"DoorPaints$Reader", "readNot", "()V"⟩, 5) := ⟨⟨by decide +kernel, by decide +kernel⟩, List.mem_of_getElem? (i := 26) (by decide +kernel), List.mem_of_getElem? (i := 438) (by decide +kernel), List.mem_of_getElem? (i := 439) (by decide +kernel)⟩
theorem lw_p9 : lw_okq (⟨"DoorPaints$Reader", "readPlan", "()V"⟩, 5) := ⟨⟨by decide +kernel, by decide +kernel⟩, List.mem_of_getElem? (i := 26) (by decide +kernel), List.mem_of_getElem? (i := 451) (by decide +kernel), List.mem_of_getElem? (i := 452) (by decide +kernel)⟩
theorem lw_p10 : lw_okq (⟨"DoorPaints$Reader", "kindNamed", "()I"⟩, 5) := ⟨⟨by decide +kernel, by decide +kernel⟩, List.mem_of_getElem? (i := 26) (by decide +kernel), List.mem_of_getElem? (i := 465) (by decide +kernel), List.mem_of_getElem? (i := 466) (by decide +kernel)⟩
theorem lw_p11 : lw_okq (⟨"DoorPaints$Reader", "readVisitor", "(I)V"⟩, 5) := ⟨⟨by decide +kernel, by decide +kernel⟩, List.mem_of_getElem? (i := 26) (by decide +kernel), List.mem_of_getElem? (i := 473) (by decide +kernel), List.mem_of_getElem? (i := 474) (by decide +kernel)⟩
theorem lw_p12 : lw_okq (⟨"DoorPaints", "rehearse", "()I"⟩, 13) := ⟨⟨by decide +kernel, by decide +kernel⟩, List.mem_of_getElem? (i := 18) (by decide +kernel), List.mem_of_getElem? (i := 656) (by decide +kernel), List.mem_of_getElem? (i := 657) (by decide +kernel)⟩
theorem lw_p13 : lw_okq (⟨"DoorPaints", "actInTrial", "(II)I"⟩, 13) := ⟨⟨by decide +kernel, by decide +kernel⟩, List.mem_of_getElem? (i := 18) (by decide +kernel), List.mem_of_getElem? (i := 661) (by decide +kernel), List.mem_of_getElem? (i := 662) (by decide +kernel)⟩
theorem lw_p14 : lw_okq (⟨"DoorPaints", "takenInTrial", "()I"⟩, 13) := ⟨⟨by decide +kernel, by decide +kernel⟩, List.mem_of_getElem? (i := 18) (by decide +kernel), List.mem_of_getElem? (i := 674) (by decide +kernel), List.mem_of_getElem? (i := 675) (by decide +kernel)⟩
theorem lw_p15 : lw_okq (⟨"DoorPaints$Search", "begin", "(LDoorPaints$Town;I)V"⟩, 7) := ⟨⟨by decide +kernel, by decide +kernel⟩, List.mem_of_getElem? (i := 215) (by decide +kernel), List.mem_of_getElem? (i := 701) (by decide +kernel), List.mem_of_getElem? (i := 702) (by decide +kernel)⟩
def lw_privs_1 : List (MethodName × Nat) := [(⟨"DoorPaints$Tape", "skip", "(II)Z"⟩, 6), (⟨"DoorPaints$Tape", "takeNumber", "()V"⟩, 6), (⟨"DoorPaints$Reader", "readLine", "()V"⟩, 5), (⟨"DoorPaints$Reader", "stands", "(I)Z"⟩, 5), (⟨"DoorPaints$Reader", "fail", "(I)V"⟩, 5), (⟨"DoorPaints$Reader", "readDoor", "()V"⟩, 5), (⟨"DoorPaints$Reader", "numberStands", "(I)Z"⟩, 5), (⟨"DoorPaints$Reader", "endLine", "()V"⟩, 5), (⟨"DoorPaints$Reader", "readNot", "()V"⟩, 5), (⟨"DoorPaints$Reader", "readPlan", "()V"⟩, 5), (⟨"DoorPaints$Reader", "kindNamed", "()I"⟩, 5), (⟨"DoorPaints$Reader", "readVisitor", "(I)V"⟩, 5), (⟨"DoorPaints", "rehearse", "()I"⟩, 13), (⟨"DoorPaints", "actInTrial", "(II)I"⟩, 13), (⟨"DoorPaints", "takenInTrial", "()I"⟩, 13), (⟨"DoorPaints$Search", "begin", "(LDoorPaints$Town;I)V"⟩, 7)]
theorem lw_r1 : ∀ q ∈ lw_privs_1, lw_okq q := List.forall_mem_cons.mpr ⟨lw_p0, List.forall_mem_cons.mpr ⟨lw_p1, List.forall_mem_cons.mpr ⟨lw_p2, List.forall_mem_cons.mpr ⟨lw_p3, List.forall_mem_cons.mpr ⟨lw_p4, List.forall_mem_cons.mpr ⟨lw_p5, List.forall_mem_cons.mpr ⟨lw_p6, List.forall_mem_cons.mpr ⟨lw_p7, List.forall_mem_cons.mpr ⟨lw_p8, List.forall_mem_cons.mpr ⟨lw_p9, List.forall_mem_cons.mpr ⟨lw_p10, List.forall_mem_cons.mpr ⟨lw_p11, List.forall_mem_cons.mpr ⟨lw_p12, List.forall_mem_cons.mpr ⟨lw_p13, List.forall_mem_cons.mpr ⟨lw_p14, List.forall_mem_cons.mpr ⟨lw_p15, fun _ h => absurd h List.not_mem_nil⟩⟩⟩⟩⟩⟩⟩⟩⟩⟩⟩⟩⟩⟩⟩⟩
theorem lw_p16 : lw_okq (⟨"DoorPaints$Search", "tryFrom", "(III)V"⟩, 7) := ⟨⟨by decide +kernel, by decide +kernel⟩, List.mem_of_getElem? (i := 215) (by decide +kernel), List.mem_of_getElem? (i := 717) (by decide +kernel), List.mem_of_getElem? (i := 718) (by decide +kernel)⟩
theorem lw_p17 : lw_okq (⟨"DoorPaints$Search", "isBetter", "(II)Z"⟩, 7) := ⟨⟨by decide +kernel, by decide +kernel⟩, List.mem_of_getElem? (i := 215) (by decide +kernel), List.mem_of_getElem? (i := 721) (by decide +kernel), List.mem_of_getElem? (i := 722) (by decide +kernel)⟩
theorem lw_p18 : lw_okq (⟨"DoorPaints$Search", "take", "(II)V"⟩, 7) := ⟨⟨by decide +kernel, by decide +kernel⟩, List.mem_of_getElem? (i := 215) (by decide +kernel), List.mem_of_getElem? (i := 725) (by decide +kernel), List.mem_of_getElem? (i := 726) (by decide +kernel)⟩
theorem lw_p19 : lw_okq (⟨"DoorPaints$Search", "mayImprove", "(III)Z"⟩, 7) := ⟨⟨by decide +kernel, by decide +kernel⟩, List.mem_of_getElem? (i := 215) (by decide +kernel), List.mem_of_getElem? (i := 729) (by decide +kernel), List.mem_of_getElem? (i := 730) (by decide +kernel)⟩
theorem lw_p20 : lw_okq (⟨"DoorPaints$Search", "tryVisit", "(IIIII)V"⟩, 7) := ⟨⟨by decide +kernel, by decide +kernel⟩, List.mem_of_getElem? (i := 215) (by decide +kernel), List.mem_of_getElem? (i := 736) (by decide +kernel), List.mem_of_getElem? (i := 737) (by decide +kernel)⟩
theorem lw_p21 : lw_okq (⟨"DoorPaints", "arrange", "(II)V"⟩, 13) := ⟨⟨by decide +kernel, by decide +kernel⟩, List.mem_of_getElem? (i := 18) (by decide +kernel), List.mem_of_getElem? (i := 801) (by decide +kernel), List.mem_of_getElem? (i := 802) (by decide +kernel)⟩
theorem lw_p22 : lw_okq (⟨"DoorPaints", "judgeOrder", "(I)V"⟩, 13) := ⟨⟨by decide +kernel, by decide +kernel⟩, List.mem_of_getElem? (i := 18) (by decide +kernel), List.mem_of_getElem? (i := 805) (by decide +kernel), List.mem_of_getElem? (i := 806) (by decide +kernel)⟩
theorem lw_p23 : lw_okq (⟨"DoorPaints", "actChosen", "(I)V"⟩, 13) := ⟨⟨by decide +kernel, by decide +kernel⟩, List.mem_of_getElem? (i := 18) (by decide +kernel), List.mem_of_getElem? (i := 822) (by decide +kernel), List.mem_of_getElem? (i := 823) (by decide +kernel)⟩
theorem lw_p24 : lw_okq (⟨"DoorPaintsModel", "firstDraft", "()V"⟩, 33) := ⟨⟨by decide +kernel, by decide +kernel⟩, List.mem_of_getElem? (i := 903) (by decide +kernel), List.mem_of_getElem? (i := 909) (by decide +kernel), List.mem_of_getElem? (i := 910) (by decide +kernel)⟩
theorem lw_p25 : lw_okq (⟨"DoorPaintsModel", "keepDraft", "()V"⟩, 33) := ⟨⟨by decide +kernel, by decide +kernel⟩, List.mem_of_getElem? (i := 903) (by decide +kernel), List.mem_of_getElem? (i := 913) (by decide +kernel), List.mem_of_getElem? (i := 914) (by decide +kernel)⟩
theorem lw_p26 : lw_okq (⟨"DoorPaintsModel", "next", "()V"⟩, 33) := ⟨⟨by decide +kernel, by decide +kernel⟩, List.mem_of_getElem? (i := 903) (by decide +kernel), List.mem_of_getElem? (i := 1033) (by decide +kernel), List.mem_of_getElem? (i := 1034) (by decide +kernel)⟩
theorem lw_p27 : lw_okq (⟨"DoorPaintsModel", "byteAt", "(I)I"⟩, 33) := ⟨⟨by decide +kernel, by decide +kernel⟩, List.mem_of_getElem? (i := 903) (by decide +kernel), List.mem_of_getElem? (i := 1037) (by decide +kernel), List.mem_of_getElem? (i := 1038) (by decide +kernel)⟩
theorem lw_p28 : lw_okq (⟨"DoorPaintsModel", "needs", "(ZI)V"⟩, 33) := ⟨⟨by decide +kernel, by decide +kernel⟩, List.mem_of_getElem? (i := 903) (by decide +kernel), List.mem_of_getElem? (i := 1045) (by decide +kernel), List.mem_of_getElem? (i := 1046) (by decide +kernel)⟩
theorem lw_p29 : lw_okq (⟨"DoorPaintsModel", "readLine", "()V"⟩, 33) := ⟨⟨by decide +kernel, by decide +kernel⟩, List.mem_of_getElem? (i := 903) (by decide +kernel), List.mem_of_getElem? (i := 1049) (by decide +kernel), List.mem_of_getElem? (i := 1050) (by decide +kernel)⟩
theorem lw_p30 : lw_okq (⟨"DoorPaintsModel", "lineNow", "()I"⟩, 33) := ⟨⟨by decide +kernel, by decide +kernel⟩, List.mem_of_getElem? (i := 903) (by decide +kernel), List.mem_of_getElem? (i := 1053) (by decide +kernel), List.mem_of_getElem? (i := 1054) (by decide +kernel)⟩
theorem lw_p31 : lw_okq (⟨"DoorPaintsModel", "is", "(IIII)Z"⟩, 33) := ⟨⟨by decide +kernel, by decide +kernel⟩, List.mem_of_getElem? (i := 903) (by decide +kernel), List.mem_of_getElem? (i := 1057) (by decide +kernel), List.mem_of_getElem? (i := 1058) (by decide +kernel)⟩
def lw_privs_2 : List (MethodName × Nat) := [(⟨"DoorPaints$Search", "tryFrom", "(III)V"⟩, 7), (⟨"DoorPaints$Search", "isBetter", "(II)Z"⟩, 7), (⟨"DoorPaints$Search", "take", "(II)V"⟩, 7), (⟨"DoorPaints$Search", "mayImprove", "(III)Z"⟩, 7), (⟨"DoorPaints$Search", "tryVisit", "(IIIII)V"⟩, 7), (⟨"DoorPaints", "arrange", "(II)V"⟩, 13), (⟨"DoorPaints", "judgeOrder", "(I)V"⟩, 13), (⟨"DoorPaints", "actChosen", "(I)V"⟩, 13), (⟨"DoorPaintsModel", "firstDraft", "()V"⟩, 33), (⟨"DoorPaintsModel", "keepDraft", "()V"⟩, 33), (⟨"DoorPaintsModel", "next", "()V"⟩, 33), (⟨"DoorPaintsModel", "byteAt", "(I)I"⟩, 33), (⟨"DoorPaintsModel", "needs", "(ZI)V"⟩, 33), (⟨"DoorPaintsModel", "readLine", "()V"⟩, 33), (⟨"DoorPaintsModel", "lineNow", "()I"⟩, 33), (⟨"DoorPaintsModel", "is", "(IIII)Z"⟩, 33)]
theorem lw_r2 : ∀ q ∈ lw_privs_2, lw_okq q := List.forall_mem_cons.mpr ⟨lw_p16, List.forall_mem_cons.mpr ⟨lw_p17, List.forall_mem_cons.mpr ⟨lw_p18, List.forall_mem_cons.mpr ⟨lw_p19, List.forall_mem_cons.mpr ⟨lw_p20, List.forall_mem_cons.mpr ⟨lw_p21, List.forall_mem_cons.mpr ⟨lw_p22, List.forall_mem_cons.mpr ⟨lw_p23, List.forall_mem_cons.mpr ⟨lw_p24, List.forall_mem_cons.mpr ⟨lw_p25, List.forall_mem_cons.mpr ⟨lw_p26, List.forall_mem_cons.mpr ⟨lw_p27, List.forall_mem_cons.mpr ⟨lw_p28, List.forall_mem_cons.mpr ⟨lw_p29, List.forall_mem_cons.mpr ⟨lw_p30, List.forall_mem_cons.mpr ⟨lw_p31, fun _ h => absurd h List.not_mem_nil⟩⟩⟩⟩⟩⟩⟩⟩⟩⟩⟩⟩⟩⟩⟩⟩
theorem lw_p32 : lw_okq (⟨"DoorPaintsModel", "ends", "(III)Z"⟩, 33) := ⟨⟨by decide +kernel, by decide +kernel⟩, List.mem_of_getElem? (i := 903) (by decide +kernel), List.mem_of_getElem? (i := 1061) (by decide +kernel), List.mem_of_getElem? (i := 1062) (by decide +kernel)⟩
theorem lw_p33 : lw_okq (⟨"DoorPaintsModel", "readLineOf", "(I)V"⟩, 33) := ⟨⟨by decide +kernel, by decide +kernel⟩, List.mem_of_getElem? (i := 903) (by decide +kernel), List.mem_of_getElem? (i := 1065) (by decide +kernel), List.mem_of_getElem? (i := 1066) (by decide +kernel)⟩
theorem lw_p34 : lw_okq (⟨"DoorPaintsModel", "readDoor", "()V"⟩, 33) := ⟨⟨by decide +kernel, by decide +kernel⟩, List.mem_of_getElem? (i := 903) (by decide +kernel), List.mem_of_getElem? (i := 1069) (by decide +kernel), List.mem_of_getElem? (i := 1070) (by decide +kernel)⟩
theorem lw_p35 : lw_okq (⟨"DoorPaintsModel", "readNumber", "(II)I"⟩, 33) := ⟨⟨by decide +kernel, by decide +kernel⟩, List.mem_of_getElem? (i := 903) (by decide +kernel), List.mem_of_getElem? (i := 1073) (by decide +kernel), List.mem_of_getElem? (i := 1074) (by decide +kernel)⟩
theorem lw_p36 : lw_okq (⟨"DoorPaintsModel", "looked", "(II)I"⟩, 33) := ⟨⟨by decide +kernel, by decide +kernel⟩, List.mem_of_getElem? (i := 903) (by decide +kernel), List.mem_of_getElem? (i := 1077) (by decide +kernel), List.mem_of_getElem? (i := 1078) (by decide +kernel)⟩
theorem lw_p37 : lw_okq (⟨"DoorPaintsModel", "readNot", "()V"⟩, 33) := ⟨⟨by decide +kernel, by decide +kernel⟩, List.mem_of_getElem? (i := 903) (by decide +kernel), List.mem_of_getElem? (i := 1081) (by decide +kernel), List.mem_of_getElem? (i := 1082) (by decide +kernel)⟩
theorem lw_p38 : lw_okq (⟨"DoorPaintsModel", "readPlan", "()V"⟩, 33) := ⟨⟨by decide +kernel, by decide +kernel⟩, List.mem_of_getElem? (i := 903) (by decide +kernel), List.mem_of_getElem? (i := 1085) (by decide +kernel), List.mem_of_getElem? (i := 1086) (by decide +kernel)⟩
theorem lw_p39 : lw_okq (⟨"DoorPaintsModel", "readVisitor", "(I)V"⟩, 33) := ⟨⟨by decide +kernel, by decide +kernel⟩, List.mem_of_getElem? (i := 903) (by decide +kernel), List.mem_of_getElem? (i := 1095) (by decide +kernel), List.mem_of_getElem? (i := 1096) (by decide +kernel)⟩
theorem lw_p40 : lw_okq (⟨"DoorPaintsModel", "starts", "()V"⟩, 33) := ⟨⟨by decide +kernel, by decide +kernel⟩, List.mem_of_getElem? (i := 903) (by decide +kernel), List.mem_of_getElem? (i := 1107) (by decide +kernel), List.mem_of_getElem? (i := 1108) (by decide +kernel)⟩
theorem lw_p41 : lw_okq (⟨"DoorPaintsModel", "ofDoor", "(II)I"⟩, 33) := ⟨⟨by decide +kernel, by decide +kernel⟩, List.mem_of_getElem? (i := 903) (by decide +kernel), List.mem_of_getElem? (i := 1111) (by decide +kernel), List.mem_of_getElem? (i := 1112) (by decide +kernel)⟩
theorem lw_p42 : lw_okq (⟨"DoorPaintsModel", "of", "(II)I"⟩, 33) := ⟨⟨by decide +kernel, by decide +kernel⟩, List.mem_of_getElem? (i := 903) (by decide +kernel), List.mem_of_getElem? (i := 1115) (by decide +kernel), List.mem_of_getElem? (i := 1116) (by decide +kernel)⟩
theorem lw_p43 : lw_okq (⟨"DoorPaintsModel", "wrong", "()I"⟩, 33) := ⟨⟨by decide +kernel, by decide +kernel⟩, List.mem_of_getElem? (i := 903) (by decide +kernel), List.mem_of_getElem? (i := 1119) (by decide +kernel), List.mem_of_getElem? (i := 1120) (by decide +kernel)⟩
theorem lw_p44 : lw_okq (⟨"DoorPaintsModel", "isWrong", "(I)Z"⟩, 33) := ⟨⟨by decide +kernel, by decide +kernel⟩, List.mem_of_getElem? (i := 903) (by decide +kernel), List.mem_of_getElem? (i := 1123) (by decide +kernel), List.mem_of_getElem? (i := 1124) (by decide +kernel)⟩
theorem lw_p45 : lw_okq (⟨"DoorPaintsModel", "showsOf", "(I)I"⟩, 33) := ⟨⟨by decide +kernel, by decide +kernel⟩, List.mem_of_getElem? (i := 903) (by decide +kernel), List.mem_of_getElem? (i := 1127) (by decide +kernel), List.mem_of_getElem? (i := 1128) (by decide +kernel)⟩
theorem lw_p46 : lw_okq (⟨"DoorPaintsModel", "layerOf", "(II)I"⟩, 33) := ⟨⟨by decide +kernel, by decide +kernel⟩, List.mem_of_getElem? (i := 903) (by decide +kernel), List.mem_of_getElem? (i := 1131) (by decide +kernel), List.mem_of_getElem? (i := 1132) (by decide +kernel)⟩
theorem lw_p47 : lw_okq (⟨"DoorPaintsModel", "isVisitor", "(I)Z"⟩, 33) := ⟨⟨by decide +kernel, by decide +kernel⟩, List.mem_of_getElem? (i := 903) (by decide +kernel), List.mem_of_getElem? (i := 1142) (by decide +kernel), List.mem_of_getElem? (i := 1143) (by decide +kernel)⟩
def lw_privs_3 : List (MethodName × Nat) := [(⟨"DoorPaintsModel", "ends", "(III)Z"⟩, 33), (⟨"DoorPaintsModel", "readLineOf", "(I)V"⟩, 33), (⟨"DoorPaintsModel", "readDoor", "()V"⟩, 33), (⟨"DoorPaintsModel", "readNumber", "(II)I"⟩, 33), (⟨"DoorPaintsModel", "looked", "(II)I"⟩, 33), (⟨"DoorPaintsModel", "readNot", "()V"⟩, 33), (⟨"DoorPaintsModel", "readPlan", "()V"⟩, 33), (⟨"DoorPaintsModel", "readVisitor", "(I)V"⟩, 33), (⟨"DoorPaintsModel", "starts", "()V"⟩, 33), (⟨"DoorPaintsModel", "ofDoor", "(II)I"⟩, 33), (⟨"DoorPaintsModel", "of", "(II)I"⟩, 33), (⟨"DoorPaintsModel", "wrong", "()I"⟩, 33), (⟨"DoorPaintsModel", "isWrong", "(I)Z"⟩, 33), (⟨"DoorPaintsModel", "showsOf", "(I)I"⟩, 33), (⟨"DoorPaintsModel", "layerOf", "(II)I"⟩, 33), (⟨"DoorPaintsModel", "isVisitor", "(I)Z"⟩, 33)]
theorem lw_r3 : ∀ q ∈ lw_privs_3, lw_okq q := List.forall_mem_cons.mpr ⟨lw_p32, List.forall_mem_cons.mpr ⟨lw_p33, List.forall_mem_cons.mpr ⟨lw_p34, List.forall_mem_cons.mpr ⟨lw_p35, List.forall_mem_cons.mpr ⟨lw_p36, List.forall_mem_cons.mpr ⟨lw_p37, List.forall_mem_cons.mpr ⟨lw_p38, List.forall_mem_cons.mpr ⟨lw_p39, List.forall_mem_cons.mpr ⟨lw_p40, List.forall_mem_cons.mpr ⟨lw_p41, List.forall_mem_cons.mpr ⟨lw_p42, List.forall_mem_cons.mpr ⟨lw_p43, List.forall_mem_cons.mpr ⟨lw_p44, List.forall_mem_cons.mpr ⟨lw_p45, List.forall_mem_cons.mpr ⟨lw_p46, List.forall_mem_cons.mpr ⟨lw_p47, fun _ h => absurd h List.not_mem_nil⟩⟩⟩⟩⟩⟩⟩⟩⟩⟩⟩⟩⟩⟩⟩⟩
theorem lw_p48 : lw_okq (⟨"DoorPaintsModel", "brushOf", "(I)I"⟩, 33) := ⟨⟨by decide +kernel, by decide +kernel⟩, List.mem_of_getElem? (i := 903) (by decide +kernel), List.mem_of_getElem? (i := 1147) (by decide +kernel), List.mem_of_getElem? (i := 1148) (by decide +kernel)⟩
theorem lw_p49 : lw_okq (⟨"DoorPaintsModel", "ownBrush", "(I)I"⟩, 33) := ⟨⟨by decide +kernel, by decide +kernel⟩, List.mem_of_getElem? (i := 903) (by decide +kernel), List.mem_of_getElem? (i := 1151) (by decide +kernel), List.mem_of_getElem? (i := 1152) (by decide +kernel)⟩
theorem lw_p50 : lw_okq (⟨"DoorPaintsModel", "isDoor", "(I)Z"⟩, 33) := ⟨⟨by decide +kernel, by decide +kernel⟩, List.mem_of_getElem? (i := 903) (by decide +kernel), List.mem_of_getElem? (i := 1159) (by decide +kernel), List.mem_of_getElem? (i := 1160) (by decide +kernel)⟩
theorem lw_p51 : lw_okq (⟨"DoorPaintsModel", "usesOf", "(II)I"⟩, 33) := ⟨⟨by decide +kernel, by decide +kernel⟩, List.mem_of_getElem? (i := 903) (by decide +kernel), List.mem_of_getElem? (i := 1172) (by decide +kernel), List.mem_of_getElem? (i := 1173) (by decide +kernel)⟩
theorem lw_p52 : lw_okq (⟨"DoorPaintsModel", "keepsOut", "(II)I"⟩, 33) := ⟨⟨by decide +kernel, by decide +kernel⟩, List.mem_of_getElem? (i := 903) (by decide +kernel), List.mem_of_getElem? (i := 1180) (by decide +kernel), List.mem_of_getElem? (i := 1181) (by decide +kernel)⟩
theorem lw_p53 : lw_okq (⟨"DoorPaintsModel", "visits", "(II)I"⟩, 33) := ⟨⟨by decide +kernel, by decide +kernel⟩, List.mem_of_getElem? (i := 903) (by decide +kernel), List.mem_of_getElem? (i := 1184) (by decide +kernel), List.mem_of_getElem? (i := 1185) (by decide +kernel)⟩
theorem lw_p54 : lw_okq (⟨"DoorPaintsModel", "becomesDoor", "(III)V"⟩, 33) := ⟨⟨by decide +kernel, by decide +kernel⟩, List.mem_of_getElem? (i := 903) (by decide +kernel), List.mem_of_getElem? (i := 1188) (by decide +kernel), List.mem_of_getElem? (i := 1189) (by decide +kernel)⟩
theorem lw_p55 : lw_okq (⟨"DoorPaintsModel", "settles", "()V"⟩, 33) := ⟨⟨by decide +kernel, by decide +kernel⟩, List.mem_of_getElem? (i := 903) (by decide +kernel), List.mem_of_getElem? (i := 1192) (by decide +kernel), List.mem_of_getElem? (i := 1193) (by decide +kernel)⟩
theorem lw_p56 : lw_okq (⟨"DoorPaintsModel", "goesBy", "(I)V"⟩, 33) := ⟨⟨by decide +kernel, by decide +kernel⟩, List.mem_of_getElem? (i := 903) (by decide +kernel), List.mem_of_getElem? (i := 1201) (by decide +kernel), List.mem_of_getElem? (i := 1202) (by decide +kernel)⟩
theorem lw_p57 : lw_okq (⟨"DoorPaintsModel", "rains", "(I)V"⟩, 33) := ⟨⟨by decide +kernel, by decide +kernel⟩, List.mem_of_getElem? (i := 903) (by decide +kernel), List.mem_of_getElem? (i := 1205) (by decide +kernel), List.mem_of_getElem? (i := 1206) (by decide +kernel)⟩
theorem lw_p58 : lw_okq (⟨"DoorPaintsModel", "layers", "()I"⟩, 33) := ⟨⟨by decide +kernel, by decide +kernel⟩, List.mem_of_getElem? (i := 903) (by decide +kernel), List.mem_of_getElem? (i := 1209) (by decide +kernel), List.mem_of_getElem? (i := 1210) (by decide +kernel)⟩
theorem lw_p59 : lw_okq (⟨"DoorPaintsModel", "becomes", "(II)I"⟩, 33) := ⟨⟨by decide +kernel, by decide +kernel⟩, List.mem_of_getElem? (i := 903) (by decide +kernel), List.mem_of_getElem? (i := 1224) (by decide +kernel), List.mem_of_getElem? (i := 1225) (by decide +kernel)⟩
theorem lw_p60 : lw_okq (⟨"DoorPaintsModel", "isAct", "(I)Z"⟩, 33) := ⟨⟨by decide +kernel, by decide +kernel⟩, List.mem_of_getElem? (i := 903) (by decide +kernel), List.mem_of_getElem? (i := 1236) (by decide +kernel), List.mem_of_getElem? (i := 1237) (by decide +kernel)⟩
theorem lw_p61 : lw_okq (⟨"DoorPaintsModel", "acts", "(I)V"⟩, 33) := ⟨⟨by decide +kernel, by decide +kernel⟩, List.mem_of_getElem? (i := 903) (by decide +kernel), List.mem_of_getElem? (i := 1248) (by decide +kernel), List.mem_of_getElem? (i := 1249) (by decide +kernel)⟩
theorem lw_p62 : lw_okq (⟨"DoorPaintsModel", "plansGo", "()V"⟩, 33) := ⟨⟨by decide +kernel, by decide +kernel⟩, List.mem_of_getElem? (i := 903) (by decide +kernel), List.mem_of_getElem? (i := 1256) (by decide +kernel), List.mem_of_getElem? (i := 1257) (by decide +kernel)⟩
theorem lw_p63 : lw_okq (⟨"DoorPaintsModel", "kindsOfVisit", "()I"⟩, 33) := ⟨⟨by decide +kernel, by decide +kernel⟩, List.mem_of_getElem? (i := 903) (by decide +kernel), List.mem_of_getElem? (i := 1271) (by decide +kernel), List.mem_of_getElem? (i := 1272) (by decide +kernel)⟩
def lw_privs_4 : List (MethodName × Nat) := [(⟨"DoorPaintsModel", "brushOf", "(I)I"⟩, 33), (⟨"DoorPaintsModel", "ownBrush", "(I)I"⟩, 33), (⟨"DoorPaintsModel", "isDoor", "(I)Z"⟩, 33), (⟨"DoorPaintsModel", "usesOf", "(II)I"⟩, 33), (⟨"DoorPaintsModel", "keepsOut", "(II)I"⟩, 33), (⟨"DoorPaintsModel", "visits", "(II)I"⟩, 33), (⟨"DoorPaintsModel", "becomesDoor", "(III)V"⟩, 33), (⟨"DoorPaintsModel", "settles", "()V"⟩, 33), (⟨"DoorPaintsModel", "goesBy", "(I)V"⟩, 33), (⟨"DoorPaintsModel", "rains", "(I)V"⟩, 33), (⟨"DoorPaintsModel", "layers", "()I"⟩, 33), (⟨"DoorPaintsModel", "becomes", "(II)I"⟩, 33), (⟨"DoorPaintsModel", "isAct", "(I)Z"⟩, 33), (⟨"DoorPaintsModel", "acts", "(I)V"⟩, 33), (⟨"DoorPaintsModel", "plansGo", "()V"⟩, 33), (⟨"DoorPaintsModel", "kindsOfVisit", "()I"⟩, 33)]
theorem lw_r4 : ∀ q ∈ lw_privs_4, lw_okq q := List.forall_mem_cons.mpr ⟨lw_p48, List.forall_mem_cons.mpr ⟨lw_p49, List.forall_mem_cons.mpr ⟨lw_p50, List.forall_mem_cons.mpr ⟨lw_p51, List.forall_mem_cons.mpr ⟨lw_p52, List.forall_mem_cons.mpr ⟨lw_p53, List.forall_mem_cons.mpr ⟨lw_p54, List.forall_mem_cons.mpr ⟨lw_p55, List.forall_mem_cons.mpr ⟨lw_p56, List.forall_mem_cons.mpr ⟨lw_p57, List.forall_mem_cons.mpr ⟨lw_p58, List.forall_mem_cons.mpr ⟨lw_p59, List.forall_mem_cons.mpr ⟨lw_p60, List.forall_mem_cons.mpr ⟨lw_p61, List.forall_mem_cons.mpr ⟨lw_p62, List.forall_mem_cons.mpr ⟨lw_p63, fun _ h => absurd h List.not_mem_nil⟩⟩⟩⟩⟩⟩⟩⟩⟩⟩⟩⟩⟩⟩⟩⟩
theorem lw_p64 : lw_okq (⟨"DoorPaintsModel", "rowsOf", "(I)I"⟩, 33) := ⟨⟨by decide +kernel, by decide +kernel⟩, List.mem_of_getElem? (i := 903) (by decide +kernel), List.mem_of_getElem? (i := 1276) (by decide +kernel), List.mem_of_getElem? (i := 1277) (by decide +kernel)⟩
theorem lw_p65 : lw_okq (⟨"DoorPaintsModel", "goesRow", "(II)V"⟩, 33) := ⟨⟨by decide +kernel, by decide +kernel⟩, List.mem_of_getElem? (i := 903) (by decide +kernel), List.mem_of_getElem? (i := 1280) (by decide +kernel), List.mem_of_getElem? (i := 1281) (by decide +kernel)⟩
theorem lw_p66 : lw_okq (⟨"DoorPaintsModel", "actAt", "(I)I"⟩, 33) := ⟨⟨by decide +kernel, by decide +kernel⟩, List.mem_of_getElem? (i := 903) (by decide +kernel), List.mem_of_getElem? (i := 1284) (by decide +kernel), List.mem_of_getElem? (i := 1285) (by decide +kernel)⟩
theorem lw_p67 : lw_okq (⟨"DoorPaintsModel", "visitIn", "(III)I"⟩, 33) := ⟨⟨by decide +kernel, by decide +kernel⟩, List.mem_of_getElem? (i := 903) (by decide +kernel), List.mem_of_getElem? (i := 1291) (by decide +kernel), List.mem_of_getElem? (i := 1292) (by decide +kernel)⟩
theorem lw_p68 : lw_okq (⟨"DoorPaintsModel", "isSo", "()Z"⟩, 33) := ⟨⟨by decide +kernel, by decide +kernel⟩, List.mem_of_getElem? (i := 903) (by decide +kernel), List.mem_of_getElem? (i := 1315) (by decide +kernel), List.mem_of_getElem? (i := 1316) (by decide +kernel)⟩
theorem lw_p69 : lw_okq (⟨"DoorPaintsModel", "isOrder", "(I)Z"⟩, 33) := ⟨⟨by decide +kernel, by decide +kernel⟩, List.mem_of_getElem? (i := 903) (by decide +kernel), List.mem_of_getElem? (i := 1327) (by decide +kernel), List.mem_of_getElem? (i := 1328) (by decide +kernel)⟩
theorem lw_p70 : lw_okq (⟨"DoorPaintsModel", "findOdds", "(II)V"⟩, 33) := ⟨⟨by decide +kernel, by decide +kernel⟩, List.mem_of_getElem? (i := 903) (by decide +kernel), List.mem_of_getElem? (i := 1337) (by decide +kernel), List.mem_of_getElem? (i := 1338) (by decide +kernel)⟩
theorem lw_p71 : lw_okq (⟨"DoorPaintsModel", "copies", "(II)V"⟩, 33) := ⟨⟨by decide +kernel, by decide +kernel⟩, List.mem_of_getElem? (i := 903) (by decide +kernel), List.mem_of_getElem? (i := 1361) (by decide +kernel), List.mem_of_getElem? (i := 1362) (by decide +kernel)⟩
def lw_privs_5 : List (MethodName × Nat) := [(⟨"DoorPaintsModel", "rowsOf", "(I)I"⟩, 33), (⟨"DoorPaintsModel", "goesRow", "(II)V"⟩, 33), (⟨"DoorPaintsModel", "actAt", "(I)I"⟩, 33), (⟨"DoorPaintsModel", "visitIn", "(III)I"⟩, 33), (⟨"DoorPaintsModel", "isSo", "()Z"⟩, 33), (⟨"DoorPaintsModel", "isOrder", "(I)Z"⟩, 33), (⟨"DoorPaintsModel", "findOdds", "(II)V"⟩, 33), (⟨"DoorPaintsModel", "copies", "(II)V"⟩, 33)]
theorem lw_r5 : ∀ q ∈ lw_privs_5, lw_okq q := List.forall_mem_cons.mpr ⟨lw_p64, List.forall_mem_cons.mpr ⟨lw_p65, List.forall_mem_cons.mpr ⟨lw_p66, List.forall_mem_cons.mpr ⟨lw_p67, List.forall_mem_cons.mpr ⟨lw_p68, List.forall_mem_cons.mpr ⟨lw_p69, List.forall_mem_cons.mpr ⟨lw_p70, List.forall_mem_cons.mpr ⟨lw_p71, fun _ h => absurd h List.not_mem_nil⟩⟩⟩⟩⟩⟩⟩⟩
def lw_privs : List (MethodName × Nat) := lw_privs_1 ++ (lw_privs_2 ++ (lw_privs_3 ++ (lw_privs_4 ++ (lw_privs_5))))
def lw_tbl : List Cond := k2_sels lw_privs ++ tables_1
theorem lw_privs_ok : ∀ q ∈ lw_privs, lw_okq q := by
  show ∀ q ∈ lw_privs_1 ++ (lw_privs_2 ++ (lw_privs_3 ++ (lw_privs_4 ++ (lw_privs_5)))), lw_okq q
  exact List.forall_mem_append.mpr ⟨lw_r1, List.forall_mem_append.mpr ⟨lw_r2, List.forall_mem_append.mpr ⟨lw_r3, List.forall_mem_append.mpr ⟨lw_r4, lw_r5⟩⟩⟩⟩
-- ===== end of PART A; then your names; then what follows =====
end
section
/-! THE SMALL MACHINE: a run of the bytecode over a list of cells, as a function. What it answers, the machine answers (the parts behind). -/
/-- a cell: an object (number of its class, fields), a row of ints (kind, contents), a row of references (kind, contents) -/
abbrev MC : Type := (Nat × List Value) ⊕ (Nat × List Int32) ⊕ (Nat × List (Option Nat))
abbrev MH : Type := List MC
abbrev LVs : Type := List (Nat × Value)
/-- an instruction as it is listed: pc, the instruction, its length, and three numbers that it is resolved to -/
abbrev MI : Type := Nat × Instr × Nat × Nat × Nat × Int
noncomputable def m_get (lv : LVs) (i : Nat) : Option Value := (lv.find? (fun q => q.1 == i)).map (fun q => q.2)
noncomputable def m_put1 (lv : LVs) (i : Nat) (v : Value) : LVs := (i, v) :: lv.filter (fun q => !(q.1 == i) && !(q.1 + 1 == i && q.2.category == 2))
noncomputable def m_put2 (lv : LVs) (i : Nat) (v : Value) : LVs := (i, v) :: lv.filter (fun q => !(q.1 == i) && (!(q.1 == i + 1) && !(q.1 + 1 == i && q.2.category == 2)))
noncomputable def m_isI (v : Value) : Bool := match v with | .int _ => true | _ => false
noncomputable def m_isL (v : Value) : Bool := match v with | .long _ => true | _ => false
noncomputable def m_isA (v : Value) : Bool := match v with | .null => true | .ref _ => true | _ => false
/-- what an instruction pushes that reads constants or locals alone -/
noncomputable def m_push (E : MI) (lv : LVs) : Option Value := match E.2.1 with
  | .iconst n => some (.int (Int32.ofInt n))
  | .bipush n => some (.int (Int8.ofInt n).toInt32)
  | .sipush n => some (.int (Int16.ofInt n).toInt32)
  | .lconst n => some (.long (Int64.ofNat (n : Nat)))
  | .aconst_null => some .null
  | .iload i => (m_get lv i).filter m_isI
  | .iload_n i => (m_get lv i).filter m_isI
  | .lload i => (m_get lv i).filter m_isL
  | .lload_n i => (m_get lv i).filter m_isL
  | .aload i => (m_get lv i).filter m_isA
  | .aload_n i => (m_get lv i).filter m_isA
  | _ => none
noncomputable def m_b32 (i : Instr) : Option (Int32 → Int32 → Int32) := match i with
  | .iadd => some fun x y => x + y
  | .isub => some fun x y => x - y
  | .imul => some fun x y => x * y
  | .iand => some fun x y => x &&& y
  | .ior => some fun x y => x ||| y
  | .ixor => some fun x y => x ^^^ y
  | .ishl => some fun x y => x <<< (y &&& 31)
  | .ishr => some fun x y => x >>> (y &&& 31)
  | .iushr => some fun x y => (x.toUInt32 >>> (y.toUInt32 &&& Int32.toUInt32 31)).toInt32
  | _ => none
noncomputable def m_d32 (i : Instr) : Option (Int32 → Int32 → Int32) := match i with
  | .idiv => some fun x y => x / y
  | .irem => some fun x y => x - x / y * y
  | _ => none
noncomputable def m_b64 (i : Instr) : Option (Int64 → Int64 → Int64) := match i with
  | .ladd => some fun x y => x + y
  | .lsub => some fun x y => x - y
  | .lmul => some fun x y => x * y
  | .land => some fun x y => x &&& y
  | .lor => some fun x y => x ||| y
  | .lxor => some fun x y => x ^^^ y
  | _ => none
noncomputable def m_d64 (i : Instr) : Option (Int64 → Int64 → Int64) := match i with
  | .ldiv => some fun x y => x / y
  | .lrem => some fun x y => x - x / y * y
  | _ => none
noncomputable def m_u32 (i : Instr) : Option (Int32 → Value) := match i with
  | .ineg => some fun x => .int (-x)
  | .i2b => some fun x => .int x.toInt8.toInt32
  | .i2s => some fun x => .int x.toInt16.toInt32
  | .i2c => some fun x => .int (x.toUInt32 % 65536).toInt32
  | .i2l => some fun x => .long x.toInt64
  | _ => none
noncomputable def m_cmp (c : ClassFile.Cond) (x y : Int32) : Bool := match c with
  | .eq => decide (x = y)
  | .ne => decide (¬ x = y)
  | .lt => decide (x < y)
  | .ge => decide (y ≤ x)
  | .gt => decide (y < x)
  | .le => decide (x ≤ y)
/-- the operand stack alone: what is neither arithmetic of two ints nor of two longs -/
noncomputable def m_stk (i : Instr) (st : List Value) : Option (List Value) := match i with
  | .l2i => (match st with | .long x :: r => some (.int x.toInt32 :: r) | _ => none)
  | .lcmp => (match st with | .long y :: .long x :: r => some (.int (lg_cmp x y) :: r) | _ => none)
  | .dup => (match st with | a :: r => if a.category = 1 then some (a :: a :: r) else none | _ => none)
  | .pop => (match st with | a :: r => if a.category = 1 then some r else none | _ => none)
  | .pop2 => (match st with | a :: r => if a.category = 2 then some r else none | _ => none)
  | .dup_x1 => (match st with | a :: b :: r => if a.category = 1 ∧ b.category = 1 then some (a :: b :: a :: r) else none | _ => none)
  | .dup_x2 => (match st with | a :: b :: d :: r => if a.category = 1 ∧ b.category = 1 ∧ d.category = 1 then some (a :: b :: d :: a :: r) else none | _ => none)
  | .dup2 => (match st with | a :: b :: r => if a.category = 1 ∧ b.category = 1 then some (a :: b :: a :: b :: r) else none | _ => none)
  | _ => none
noncomputable def m_alu (i : Instr) (st : List Value) : Option (List Value) :=
  match m_b32 i with
  | some f => (match st with | .int y :: .int x :: r => some (.int (f x y) :: r) | _ => none)
  | none => match m_d32 i with
  | some f => (match st with | .int y :: .int x :: r => if y = 0 then none else some (.int (f x y) :: r) | _ => none)
  | none => match m_b64 i with
  | some f => (match st with | .long y :: .long x :: r => some (.long (f x y) :: r) | _ => none)
  | none => match m_d64 i with
  | some f => (match st with | .long y :: .long x :: r => if y = 0 then none else some (.long (f x y) :: r) | _ => none)
  | none => match m_u32 i with
  | some f => (match st with | .int x :: r => some (f x :: r) | _ => none)
  | none => m_stk i st
noncomputable def m_to (pc : Nat) (off : Int) : Option Nat := if 0 ≤ (pc : Int) + off then some ((pc : Int) + off).toNat else none
noncomputable def m_if (pc : Nat) (off : Int) (b : Bool) (r : List Value) : Option (Nat × List Value) := (m_to pc off).map fun t => (if b = true then t else pc + 3, r)
/-- where a branch goes, and the operand stack there -/
noncomputable def m_br (E : MI) (st : List Value) : Option (Nat × List Value) := match E.2.1 with
  | .goto off => (m_to E.1 off).map fun t => (t, st)
  | .ifCond c off => (match st with | .int x :: r => m_if E.1 off (m_cmp c x 0) r | _ => none)
  | .if_icmp c off => (match st with | .int y :: .int x :: r => m_if E.1 off (m_cmp c x y) r | _ => none)
  | .tableswitch d lo hi offs => (match st with
    | .int x :: r => if x.toInt < lo ∨ hi < x.toInt then (m_to E.1 d).map (fun t => (t, r)) else (match offs[(x.toInt - lo).toNat]? with | some off => (m_to E.1 off).map (fun t => (t, r)) | none => none)
    | _ => none)
  | .lookupswitch d ps => (match st with
    | .int x :: r => if (ps.toList.zip (ps.toList.drop 1)).all (fun q => decide (q.1.1 < q.2.1)) = true then (m_to E.1 (Op.lookupswitch.offset ps.toList d x.toInt)).map (fun t => (t, r)) else none
    | _ => none)
  | _ => none
/-- a local that is stored -/
noncomputable def m_store (E : MI) (lv : LVs) (st : List Value) : Option (LVs × List Value) := match E.2.1 with
  | .istore i => (match st with | .int x :: r => some (m_put1 lv i (.int x), r) | _ => none)
  | .istore_n i => (match st with | .int x :: r => some (m_put1 lv i (.int x), r) | _ => none)
  | .lstore i => (match st with | .long x :: r => some (m_put2 lv i (.long x), r) | _ => none)
  | .lstore_n i => (match st with | .long x :: r => some (m_put2 lv i (.long x), r) | _ => none)
  | .astore i => (match st with | .ref x :: r => some (m_put1 lv i (.ref x), r) | .null :: r => some (m_put1 lv i .null, r) | _ => none)
  | .astore_n i => (match st with | .ref x :: r => some (m_put1 lv i (.ref x), r) | .null :: r => some (m_put1 lv i .null, r) | _ => none)
  | .iinc i n => (match m_get lv i with | some (.int x) => some (m_put1 lv i (.int (x + Int32.ofInt n)), st) | _ => none)
  | _ => none
/-- addresses from here on are of cells that nobody writes: the script, the texts -/
noncomputable def KB : Nat := 1000000
noncomputable def m_cell (ro : Nat → Option MC) (F : MH) (a : Nat) : Option MC := if a < KB then F[a]? else ro (a - KB)
/-- a method: its name, its code, its locals, what it returns, its listing -/
abbrev MM : Type := MethodName × ByteArray × Nat × Option FieldType × List MI
noncomputable def m_in (i : Int32) (n : Nat) : Bool := decide (0 ≤ i.toInt ∧ i.toInt < n)
/-- what is read of the cells -/
noncomputable def m_rd (ro : Nat → Option MC) (F : MH) (E : MI) (st : List Value) : Option (List Value) := match E.2.1 with
  | .getfield _ => (match st with
    | .ref a :: r => (match m_cell ro F a with
      | some (.inl (ci, fs)) => if ci = E.2.2.2.1 then (match fs[E.2.2.2.2.1]? with | some v => some (v :: r) | none => none) else none
      | _ => none)
    | _ => none)
  | .arraylength => (match st with
    | .ref a :: r => if a < KB then none else (match ro (a - KB) with
      | some (.inr (.inl (_, xs))) => some (.int (Int32.ofNat xs.length) :: r)
      | _ => none)
    | _ => none)
  | .iaload => (match st with
    | .int i :: .ref a :: r => (match m_cell ro F a with
      | some (.inr (.inl (k, xs))) => if k = 0 ∧ m_in i xs.length = true then some (.int (xs.getD i.toNatClampNeg 0) :: r) else none
      | _ => none)
    | _ => none)
  | .baload => (match st with
    | .int i :: .ref a :: r => (match m_cell ro F a with
      | some (.inr (.inl (k, xs))) => if (k = 1 ∨ k = 2) ∧ m_in i xs.length = true then some (.int (xs.getD i.toNatClampNeg 0) :: r) else none
      | _ => none)
    | _ => none)
  | .aaload => (match st with
    | .int i :: .ref a :: r => (match m_cell ro F a with
      | some (.inr (.inr (k, os))) => if a < KB ∧ 3 ≤ k ∧ k ≤ 6 ∧ m_in i os.length = true then some (va_rf (os.getD i.toNatClampNeg none) :: r) else none
      | _ => none)
    | _ => none)
  | _ => none
/-- what is written to the cells, or made -/
noncomputable def m_wr (fty : Nat → Nat → FieldType) (dfl : Nat → List Value) (F : MH) (E : MI) (st : List Value) : Option (MH × List Value) := match E.2.1 with
  | .putfield _ => (match st with
    | v :: .ref a :: r => (match F[a]? with
      | some (.inl (ci, fs)) => if a < KB ∧ ci = E.2.2.2.1 ∧ E.2.2.2.2.1 < fs.length ∧ narrow (fty ci E.2.2.2.2.1) v = v ∧ fits (fty ci E.2.2.2.2.1) v = true then some (F.set a (.inl (ci, fs.set E.2.2.2.2.1 v)), r) else none
      | _ => none)
    | _ => none)
  | .iastore => (match st with
    | .int x :: .int i :: .ref a :: r => (match F[a]? with
      | some (.inr (.inl (k, xs))) => if a < KB ∧ k = 0 ∧ m_in i xs.length = true then some (F.set a (.inr (.inl (k, xs.set i.toNatClampNeg x))), r) else none
      | _ => none)
    | _ => none)
  | .bastore => (match st with
    | .int x :: .int i :: .ref a :: r => (match F[a]? with
      | some (.inr (.inl (k, xs))) => if a < KB ∧ k = 1 ∧ m_in i xs.length = true then some (F.set a (.inr (.inl (k, xs.set i.toNatClampNeg (vp_nar .boolean x)))), r) else none
      | _ => none)
    | _ => none)
  | .aastore => (match st with
    | .ref o :: .int i :: .ref a :: r => (match F[a]?, F[o]? with
      | some (.inr (.inr (k, os))), some (.inl (ci, _)) => if a < KB ∧ o < KB ∧ E.2.2.2.1 = ci ∧ E.2.2.2.2.1 = k ∧ m_in i os.length = true then some (F.set a (.inr (.inr (k, os.set i.toNatClampNeg (some o)))), r) else none
      | _, _ => none)
    | _ => none)
  | .new _ => if F.length < KB then some (F ++ [.inl (E.2.2.2.1, dfl E.2.2.2.1)], .ref F.length :: st) else none
  | .newarray t => (match st with
    | .int n :: r => if F.length < KB ∧ 0 ≤ n.toInt ∧ n.toInt ≤ 100000 ∧ ((t = .int ∧ E.2.2.2.1 = 0) ∨ (t = .boolean ∧ E.2.2.2.1 = 1)) then some (F ++ [.inr (.inl (E.2.2.2.1, List.replicate n.toNatClampNeg 0))], .ref F.length :: r) else none
    | _ => none)
  | .anewarray _ => (match st with
    | .int n :: r => if F.length < KB ∧ 0 ≤ n.toInt ∧ n.toInt ≤ 100000 then some (F ++ [.inr (.inr (E.2.2.2.1, List.replicate n.toNatClampNeg none))], .ref F.length :: r) else none
    | _ => none)
  | _ => none
/-- constants of the pools: the third number says which -/
noncomputable def m_cst (E : MI) : Option Value := match E.2.1 with
  | .ldc _ => if E.2.2.2.1 = 0 then some (.int (Int32.ofInt E.2.2.2.2.2)) else some (.ref (KB + E.2.2.2.2.1))
  | .ldc_w _ => some (.int (Int32.ofInt E.2.2.2.2.2))
  | .ldc2_w _ => some (.long (Int64.ofInt E.2.2.2.2.2))
  | .getstatic _ => if E.2.2.2.1 = 0 then some (.int (Int32.ofInt E.2.2.2.2.2)) else some (.ref (KB + E.2.2.2.2.1))
  | _ => none
/-- a call: which method, its arguments, what stays on the stack -/
noncomputable def m_iv (E : MI) (st : List Value) (ok : Nat → Bool) : Option (Nat × List Value × List Value) :=
  if 1 ≤ E.2.2.2.2.1 ∧ E.2.2.2.2.1 ≤ st.length ∧ ((st.drop E.2.2.2.2.1).map fun v => v.category).sum ≤ 8 then (match (st.take E.2.2.2.2.1).reverse with
    | .ref a :: As => if ok a = true then some (E.2.2.2.1, .ref a :: As, st.drop E.2.2.2.2.1) else none
    | _ => none) else none
noncomputable def m_rc (ro : Nat → Option MC) (F : MH) (E : MI) (a : Nat) : Bool := match m_cell ro F a with
  | some (.inl o) => decide ((o.1 : Int) = E.2.2.2.2.2)
  | _ => false
noncomputable def m_inv (ro : Nat → Option MC) (F : MH) (E : MI) (st : List Value) : Option (Nat × List Value × List Value) := match E.2.1 with
  | .invokestatic _ => if E.2.2.2.2.1 ≤ st.length ∧ ((st.drop E.2.2.2.2.1).map fun v => v.category).sum ≤ 8 then some (E.2.2.2.1, (st.take E.2.2.2.2.1).reverse, st.drop E.2.2.2.2.1) else none
  | .invokespecial _ => m_iv E st (fun a => decide (a < KB))
  | .invokevirtual _ => m_iv E st (m_rc ro F E)
  | _ => none
/-- a return: what is answered -/
noncomputable def m_ret (rt : Option FieldType) (E : MI) (st : List Value) : Option (Option Value) := match E.2.1 with
  | .ireturn => (match st with | [.int x] => (match rt with | some ty => if narrow ty (.int x) = .int x then some (some (.int x)) else none | none => none) | _ => none)
  | .lreturn => (match st with | [.long x] => if rt = some .long then some (some (.long x)) else none | _ => none)
  | .return_ => (match st with | [] => if rt = none then some none else none | _ => none)
  | _ => none
abbrev MS : Type := MH × Nat × LVs × List Value
/-- one step that is neither a call nor a return -/
noncomputable def m_one (ro : Nat → Option MC) (fty : Nat → Nat → FieldType) (dfl : Nat → List Value) (E : MI) (F : MH) (lv : LVs) (st : List Value) : Option MS :=
  match m_push E lv with
  | some v => some (F, E.1 + E.2.2.1, lv, v :: st)
  | none => match m_cst E with
  | some v => some (F, E.1 + E.2.2.1, lv, v :: st)
  | none => match m_store E lv st with
  | some q => some (F, E.1 + E.2.2.1, q.1, q.2)
  | none => match m_alu E.2.1 st with
  | some st1 => some (F, E.1 + E.2.2.1, lv, st1)
  | none => match m_br E st with
  | some q => some (F, q.1, lv, q.2)
  | none => match m_rd ro F E st with
  | some st1 => some (F, E.1 + E.2.2.1, lv, st1)
  | none => match m_wr fty dfl F E st with
  | some q => some (q.1, E.1 + E.2.2.1, lv, q.2)
  | none => none
noncomputable def m_at (MT : List MM) (mi pc : Nat) : Option (MI × Option FieldType) := match MT[mi]? with
  | some M => (M.2.2.2.2.find? (fun E => E.1 == pc)).map fun E => (E, M.2.2.2.1)
  | none => none
noncomputable def m_room (MT : List MM) (mi : Nat) (as : List Value) : Bool := match MT[mi]? with
  | some M => decide (0 < mi ∧ (as.map fun v => v.category).sum ≤ M.2.2.1)
  | none => false
/-- a run: fuel, depth of calls that is left, method, cells, pc, locals, stack: what is answered, and the cells then -/
noncomputable def ex (MT : List MM) (ro : Nat → Option MC) (fty : Nat → Nat → FieldType) (dfl : Nat → List Value) : Nat → Nat → Nat → MH → Nat → LVs → List Value → Option (Option Value × MH)
  | 0, _, _, _, _, _, _ => none
  | n + 1, d, mi, F, pc, lv, st =>
    match m_at MT mi pc with
    | none => none
    | some E =>
      match m_one ro fty dfl E.1 F lv st with
      | some q => ex MT ro fty dfl n d mi q.1 q.2.1 q.2.2.1 q.2.2.2
      | none =>
        match m_ret E.2 E.1 st with
        | some v => some (v, F)
        | none =>
          match m_inv ro F E.1 st with
          | none => none
          | some q =>
            if q.1 = 9999 then (match q.2.1 with | [.ref a] => if a < KB then ex MT ro fty dfl n d mi F (pc + 3) lv q.2.2 else none | _ => none)
            else if q.1 = 9998 then (match q.2.1 with | [.int x, .int y] => ex MT ro fty dfl n d mi F (pc + 3) lv (.int (if x < y then y else x) :: q.2.2) | _ => none)
            else if m_room MT q.1 q.2.1 = true then (match d with
              | 0 => none
              | d' + 1 =>
                match ex MT ro fty dfl n d' q.1 F 0 (lv_args 0 q.2.1) [] with
                | none => none
                | some z => ex MT ro fty dfl n (d' + 1) mi z.2 (pc + 3) lv (z.1.toList ++ q.2.2))
            else none
end
section
/-! THE SMALL MACHINE IS THE MACHINE, I: values, cells, worlds -/
section SimA
/-- a value of the small machine, as the machine has it: rA says where its cells lie, sio what the one unknown reference is -/
noncomputable def trv (rA : Nat → Nat) (sio : Value) (v : Value) : Value := match v with
  | .ref a => if a = KB + 100 then sio else .ref (rA a)
  | w => w
theorem trv_int (rA : Nat → Nat) (sio : Value) (x : Int32) : trv rA sio (.int x) = .int x := rfl
theorem trv_long (rA : Nat → Nat) (sio : Value) (x : Int64) : trv rA sio (.long x) = .long x := rfl
theorem trv_null (rA : Nat → Nat) (sio : Value) : trv rA sio .null = .null := rfl
theorem trv_ref (rA : Nat → Nat) (sio : Value) {a : Nat} (h : a < KB) : trv rA sio (.ref a) = .ref (rA a) := by
  have h2 : ¬ a = KB + 100 := by omega
  simp only [trv, if_neg h2]
noncomputable def sioOK (sio : Value) : Prop := sio = .null ∨ ∃ a, sio = .ref a
theorem trv_cat {rA : Nat → Nat} {sio : Value} (hs : sioOK sio) (v : Value) : (trv rA sio v).category = v.category := by
  cases v with
  | ref a =>
    by_cases h : a = KB + 100
    · simp only [trv, if_pos h]
      rcases hs with rfl | ⟨b, rfl⟩ <;> rfl
    · simp only [trv, if_neg h]; rfl
  | _ => rfl
noncomputable def trE (rA : Nat → Nat) (sio : Value) (cA : Nat → ClassId) (c : MC) : va_E := match c with
  | .inl o => .inr (o.1, o.2.map (trv rA sio))
  | .inr (.inl q) => .inl (cA q.1, q.2.length, .inl (fun j => q.2.getD j 0))
  | .inr (.inr q) => .inl (cA q.1, q.2.length, .inr (.inr (.inr (.inr (fun j => (q.2.getD j none).map rA)))))
/-- the cells as a world of the kit, from an address on -/
noncomputable def wsF (tr : MC → va_E) : Nat → MH → va_W
  | _, [] => []
  | b, c :: t => (b, tr c) :: wsF tr (b + 1) t
theorem wsF_get (tr : MC → va_E) : ∀ (F : MH) (b i : Nat), (wsF tr b F)[i]? = (F[i]?).map (fun c => (b + i, tr c))
  | [], b, i => by simp [wsF]
  | c :: t, b, 0 => by simp [wsF]
  | c :: t, b, i + 1 => by
    rw [wsF, List.getElem?_cons_succ, wsF_get tr t (b + 1) i, List.getElem?_cons_succ]
    rw [show b + 1 + i = b + (i + 1) by omega]
theorem wsF_set (tr : MC → va_E) : ∀ (F : MH) (b i : Nat) (c : MC), (wsF tr b F).set i (b + i, tr c) = wsF tr b (F.set i c)
  | [], b, i, c => by simp [wsF]
  | c0 :: t, b, 0, c => by simp [wsF]
  | c0 :: t, b, i + 1, c => by
    rw [wsF, List.set_cons_succ, List.set_cons_succ, wsF, ← wsF_set tr t (b + 1) i c]
    rw [show b + 1 + i = b + (i + 1) by omega]
theorem wsF_app (tr : MC → va_E) (c : MC) : ∀ (F : MH) (b : Nat), wsF tr b (F ++ [c]) = wsF tr b F ++ [(b + F.length, tr c)]
  | [], b => by simp [wsF]
  | c0 :: t, b => by
    rw [List.cons_append, wsF, wsF, wsF_app tr c t (b + 1), List.cons_append, List.length_cons]
    rw [show b + 1 + t.length = b + (t.length + 1) by omega]
theorem wsF_D (tr : MC → va_E) {A : Nat → Prop} {b : Nat} (hA : ∀ q, b ≤ q → A q) (F : MH) : va_D A (wsF tr b F) := by
  refine ⟨fun i j x y hi hj hxy => ?_, fun k q hk => ?_⟩
  · rw [wsF_get] at hi hj
    cases h1 : F[i]? with
    | none => rw [h1] at hi; cases hi
    | some c1 =>
      cases h2 : F[j]? with
      | none => rw [h2] at hj; cases hj
      | some c2 =>
        rw [h1] at hi; rw [h2] at hj
        cases hi; cases hj
        simp only at hxy
        omega
  · rw [wsF_get] at hk
    cases h1 : F[k]? with
    | none => rw [h1] at hk; cases hk
    | some c1 =>
      rw [h1] at hk; cases hk
      exact hA _ (Nat.le_add_right _ _)
end SimA
end
section
/-! THE SMALL MACHINE IS THE MACHINE, II: pushes, stores, arithmetic, branches -/
noncomputable def m_len (i : Instr) : Nat := match i with
  | .tableswitch _ _ _ _ => 0
  | .lookupswitch _ _ => 0
  | .bipush _ | .iload _ | .lload _ | .aload _ | .istore _ | .lstore _ | .astore _ | .ldc _ | .newarray _ => 2
  | .sipush _ | .ldc_w _ | .ldc2_w _ | .iinc _ _ | .ifCond _ _ | .if_icmp _ _ | .goto _ | .ifnull _ | .ifnonnull _ | .getfield _ | .putfield _ | .getstatic _ | .invokestatic _ | .invokevirtual _ | .invokespecial _ | .new _ | .anewarray _ => 3
  | _ => 1
section SimB
variable {p : Program} {l : Launch} {e : Env} {R : Room} {s : State} {m : MethodId} {args : Array Value} {below : List Frame} {meth : Method} {c : Code} {H : Heap} {locs : List Loc} {cells slots : Nat} {Q : State → Prop}
variable {cc : ByteArray} {ls : Array Slot} {nL : Nat} {rA : Nat → Nat} {sio : Value}
noncomputable def trl (rA : Nat → Nat) (sio : Value) (lv : LVs) : LVs := lv.map (fun q => (q.1, trv rA sio q.2))
noncomputable def trs (rA : Nat → Nat) (sio : Value) (st : List Value) : List Value := st.map (trv rA sio)
theorem m_get_mem {lv : LVs} {i : Nat} {v : Value} (h : m_get lv i = some v) : (i, v) ∈ lv := by
  unfold m_get at h
  cases hf : lv.find? (fun q => q.1 == i) with
  | none => rw [hf] at h; cases h
  | some q =>
    rw [hf] at h
    have h1 := List.mem_of_find?_eq_some hf
    have h2 : (q.1 == i) = true := by have := List.find?_some hf; exact this
    have h3 : q.2 = v := Option.some.inj h
    have h4 : q.1 = i := by simpa using h2
    rw [← h3, ← h4]; exact h1
theorem trl_get {lv : LVs} {i : Nat} {v : Value} (hl : lv_has ls nL (trl rA sio lv)) (h : m_get lv i = some v) : ls[i]? = some (.val (trv rA sio v)) :=
  hl.2.2 (i, trv rA sio v) (List.mem_map.mpr ⟨(i, v), m_get_mem h, rfl⟩)
theorem filt_get {lv : LVs} {i : Nat} {v : Value} {P : Value → Bool} (h : (m_get lv i).filter P = some v) : m_get lv i = some v ∧ P v = true := by
  cases hg : m_get lv i with
  | none => rw [hg] at h; cases h
  | some w =>
    rw [hg] at h
    simp only [Option.filter] at h
    split at h
    · cases h; exact ⟨rfl, by assumption⟩
    · cases h
theorem s_push (hx : p.tables.exec = Jvm.exec) (hb : c.code = cc) {E : MI} {lv : LVs} {v : Value} {rest : List Value} (hs : sioOK sio) (hdg : decode cc E.1 = .ok (E.2.1, E.2.2.1)) (hlen : m_len E.2.1 = 0 ∨ m_len E.2.1 = E.2.2.1) (hl : lv_has ls nL (trl rA sio lv)) (h : m_push E lv = some v)
    (k : W p l e R s m args below meth c H locs cells slots Q (F0 m (E.1 + E.2.2.1) ls (trv rA sio v :: rest))) : W p l e R s m args below meth c H locs cells slots Q (F0 m E.1 ls rest) := by
  obtain ⟨pc, i, len, a, b, z⟩ := E
  simp only at hdg hlen k h ⊢
  cases i
  case iconst n =>
    simp only [m_len] at hlen
    obtain rfl : len = 1 := by omega
    simp only [m_push] at h; cases h
    exact lv_iconst hx hb hdg rfl k
  case bipush n =>
    simp only [m_len] at hlen
    obtain rfl : len = 2 := by omega
    simp only [m_push] at h; cases h
    exact lv_bipush hx hb hdg rfl k
  case sipush n =>
    simp only [m_len] at hlen
    obtain rfl : len = 3 := by omega
    simp only [m_push] at h; cases h
    exact lv_sipush hx hb hdg rfl k
  case lconst n =>
    simp only [m_len] at hlen
    obtain rfl : len = 1 := by omega
    simp only [m_push] at h; cases h
    exact lv_lconst hx hb hdg rfl k
  case aconst_null =>
    simp only [m_len] at hlen
    obtain rfl : len = 1 := by omega
    simp only [m_push] at h; cases h
    exact lv_null hx hb hdg k
  case iload n =>
    simp only [m_len] at hlen
    obtain rfl : len = 2 := by omega
    simp only [m_push] at h
    obtain ⟨h1, h2⟩ := filt_get h
    have h3 := trl_get hl h1
    cases v <;> simp only [m_isI, Bool.false_eq_true] at h2
    exact lv_iload hx hb hdg h3 k
  case iload_n n =>
    simp only [m_len] at hlen
    obtain rfl : len = 1 := by omega
    simp only [m_push] at h
    obtain ⟨h1, h2⟩ := filt_get h
    have h3 := trl_get hl h1
    cases v <;> simp only [m_isI, Bool.false_eq_true] at h2
    exact lv_iload_n hx hb hdg rfl h3 k
  case lload n =>
    simp only [m_len] at hlen
    obtain rfl : len = 2 := by omega
    simp only [m_push] at h
    obtain ⟨h1, h2⟩ := filt_get h
    have h3 := trl_get hl h1
    cases v <;> simp only [m_isL, Bool.false_eq_true] at h2
    exact lv_lload hx hb hdg h3 k
  case lload_n n =>
    simp only [m_len] at hlen
    obtain rfl : len = 1 := by omega
    simp only [m_push] at h
    obtain ⟨h1, h2⟩ := filt_get h
    have h3 := trl_get hl h1
    cases v <;> simp only [m_isL, Bool.false_eq_true] at h2
    exact lv_lload_n hx hb hdg rfl h3 k
  case aload n =>
    simp only [m_len] at hlen
    obtain rfl : len = 2 := by omega
    simp only [m_push] at h
    obtain ⟨h1, h2⟩ := filt_get h
    have h3 := trl_get hl h1
    have h4 : sioOK (trv rA sio v) := by
      cases v <;> simp only [m_isA, Bool.false_eq_true] at h2
      · exact Or.inl rfl
      · rename_i a
        by_cases q : a = KB + 100
        · simp only [trv, if_pos q]; exact hs
        · simp only [trv, if_neg q]; exact Or.inr ⟨_, rfl⟩
    rcases h4 with h4 | ⟨y, h4⟩
    · rw [h4] at h3 k; exact lv_aloadN hx hb hdg h3 k
    · rw [h4] at h3 k; exact lv_aload hx hb hdg h3 k
  case aload_n n =>
    simp only [m_len] at hlen
    obtain rfl : len = 1 := by omega
    simp only [m_push] at h
    obtain ⟨h1, h2⟩ := filt_get h
    have h3 := trl_get hl h1
    have h4 : sioOK (trv rA sio v) := by
      cases v <;> simp only [m_isA, Bool.false_eq_true] at h2
      · exact Or.inl rfl
      · rename_i a
        by_cases q : a = KB + 100
        · simp only [trv, if_pos q]; exact hs
        · simp only [trv, if_neg q]; exact Or.inr ⟨_, rfl⟩
    rcases h4 with h4 | ⟨y, h4⟩
    · rw [h4] at h3 k; exact lv_aload_nN hx hb hdg rfl h3 k
    · rw [h4] at h3 k; exact lv_aload_n hx hb hdg rfl h3 k
  all_goals (simp only [m_push, reduceCtorEq] at h)
end SimB
end
section
/-! THE SMALL MACHINE IS THE MACHINE, III: stores into locals, arithmetic -/
noncomputable def m_sl (i : Instr) (nL : Nat) : Bool := match i with
  | .istore i => decide (i < nL)
  | .istore_n i => decide ((i : Nat) < nL)
  | .astore i => decide (i < nL)
  | .astore_n i => decide ((i : Nat) < nL)
  | .lstore i => decide (i + 1 < nL)
  | .lstore_n i => decide ((i : Nat) + 1 < nL)
  | .iinc i _ => decide (i < nL)
  | _ => true
section SimC
variable {p : Program} {l : Launch} {e : Env} {R : Room} {s : State} {m : MethodId} {args : Array Value} {below : List Frame} {meth : Method} {c : Code} {H : Heap} {locs : List Loc} {cells slots : Nat} {Q : State → Prop}
variable {cc : ByteArray} {ls : Array Slot} {nL : Nat} {rA : Nat → Nat} {sio : Value}
theorem trl_put1 (hs : sioOK sio) (lv : LVs) (i : Nat) (v : Value) : (i, trv rA sio v) :: (trl rA sio lv).filter (fun q => !(q.1 == i) && !(q.1 + 1 == i && q.2.category == 2)) = trl rA sio (m_put1 lv i v) := by
  unfold trl m_put1
  rw [List.map_cons, List.filter_map]
  congr 2
  apply List.filter_congr
  intro q hq
  simp only [Function.comp, trv_cat hs]
theorem trl_put2 (hs : sioOK sio) (lv : LVs) (i : Nat) (v : Value) : (i, trv rA sio v) :: (trl rA sio lv).filter (fun q => !(q.1 == i) && (!(q.1 == i + 1) && !(q.1 + 1 == i && q.2.category == 2))) = trl rA sio (m_put2 lv i v) := by
  unfold trl m_put2
  rw [List.map_cons, List.filter_map]
  congr 2
  apply List.filter_congr
  intro q hq
  simp only [Function.comp, trv_cat hs]
theorem s_astore (hx : p.tables.exec = Jvm.exec) (hb : c.code = cc) {pc i : Nat} {lv : LVs} {v : Value} {r : List Value} (hs : sioOK sio) (hv : sioOK (trv rA sio v)) (hdg : decode cc pc = .ok (.astore i, 2)) (hi : i < nL) (hl : lv_has ls nL (trl rA sio lv))
    (k : ∀ ls', lv_has ls' nL (trl rA sio (m_put1 lv i v)) → W p l e R s m args below meth c H locs cells slots Q (F0 m (pc + 2) ls' r)) : W p l e R s m args below meth c H locs cells slots Q (F0 m pc ls (trv rA sio v :: r)) := by
  have e1 := trl_put1 (rA := rA) hs lv i v
  rcases hv with h | ⟨y, h⟩
  · rw [h] at e1 ⊢; exact lv_astoreN hx hb hdg hl hi e1 k
  · rw [h] at e1 ⊢; exact lv_astore hx hb hdg hl hi e1 k
theorem s_astore_n (hx : p.tables.exec = Jvm.exec) (hb : c.code = cc) {pc : Nat} {i : Fin 4} {lv : LVs} {v : Value} {r : List Value} (hs : sioOK sio) (hv : sioOK (trv rA sio v)) (hdg : decode cc pc = .ok (.astore_n i, 1)) (hi : (i : Nat) < nL) (hl : lv_has ls nL (trl rA sio lv))
    (k : ∀ ls', lv_has ls' nL (trl rA sio (m_put1 lv i v)) → W p l e R s m args below meth c H locs cells slots Q (F0 m (pc + 1) ls' r)) : W p l e R s m args below meth c H locs cells slots Q (F0 m pc ls (trv rA sio v :: r)) := by
  have e1 := trl_put1 (rA := rA) hs lv i v
  rcases hv with h | ⟨y, h⟩
  · rw [h] at e1 ⊢; exact lv_astore_nN hx hb hdg rfl hl hi e1 k
  · rw [h] at e1 ⊢; exact lv_astore_n hx hb hdg rfl hl hi e1 k
theorem trv_sio (hs : sioOK sio) (a : Nat) : sioOK (trv rA sio (.ref a)) := by
  by_cases q : a = KB + 100
  · simp only [trv, if_pos q]; exact hs
  · simp only [trv, if_neg q]; exact Or.inr ⟨_, rfl⟩
theorem s_store (hx : p.tables.exec = Jvm.exec) (hb : c.code = cc) {E : MI} {lv : LVs} {st : List Value} {q : LVs × List Value} (hs : sioOK sio) (hdg : decode cc E.1 = .ok (E.2.1, E.2.2.1)) (hlen : m_len E.2.1 = 0 ∨ m_len E.2.1 = E.2.2.1) (hsl : m_sl E.2.1 nL = true) (hl : lv_has ls nL (trl rA sio lv)) (h : m_store E lv st = some q)
    (k : ∀ ls', lv_has ls' nL (trl rA sio q.1) → W p l e R s m args below meth c H locs cells slots Q (F0 m (E.1 + E.2.2.1) ls' (trs rA sio q.2))) : W p l e R s m args below meth c H locs cells slots Q (F0 m E.1 ls (trs rA sio st)) := by
  obtain ⟨pc, i, len, a, b, z⟩ := E
  simp only at hdg hlen hsl k h ⊢
  cases i
  case istore n =>
    simp only [m_len] at hlen
    obtain rfl : len = 2 := by omega
    simp only [m_sl, decide_eq_true_eq] at hsl
    simp only [m_store] at h
    split at h
    · cases h
      exact lv_istore hx hb hdg hl hsl (trl_put1 hs lv n (.int _)) k
    · cases h
  case istore_n n =>
    simp only [m_len] at hlen
    obtain rfl : len = 1 := by omega
    simp only [m_sl, decide_eq_true_eq] at hsl
    simp only [m_store] at h
    split at h
    · cases h
      exact lv_istore_n hx hb hdg rfl hl hsl (trl_put1 hs lv n (.int _)) k
    · cases h
  case lstore n =>
    simp only [m_len] at hlen
    obtain rfl : len = 2 := by omega
    simp only [m_sl, decide_eq_true_eq] at hsl
    simp only [m_store] at h
    split at h
    · cases h
      exact lv_lstore hx hb hdg hl hsl (trl_put2 hs lv n (.long _)) k
    · cases h
  case lstore_n n =>
    simp only [m_len] at hlen
    obtain rfl : len = 1 := by omega
    simp only [m_sl, decide_eq_true_eq] at hsl
    simp only [m_store] at h
    split at h
    · cases h
      exact lv_lstore_n hx hb hdg rfl hl hsl (trl_put2 hs lv n (.long _)) k
    · cases h
  case astore n =>
    simp only [m_len] at hlen
    obtain rfl : len = 2 := by omega
    simp only [m_sl, decide_eq_true_eq] at hsl
    simp only [m_store] at h
    split at h
    · cases h
      exact s_astore hx hb hs (trv_sio hs _) hdg hsl hl k
    · cases h
      exact s_astore (v := .null) hx hb hs (Or.inl rfl) hdg hsl hl k
    · cases h
  case astore_n n =>
    simp only [m_len] at hlen
    obtain rfl : len = 1 := by omega
    simp only [m_sl, decide_eq_true_eq] at hsl
    simp only [m_store] at h
    split at h
    · cases h
      exact s_astore_n hx hb hs (trv_sio hs _) hdg hsl hl k
    · cases h
      exact s_astore_n (v := .null) hx hb hs (Or.inl rfl) hdg hsl hl k
    · cases h
  case iinc n z =>
    simp only [m_len] at hlen
    obtain rfl : len = 3 := by omega
    simp only [m_sl, decide_eq_true_eq] at hsl
    simp only [m_store] at h
    split at h
    · rename_i x hg
      cases h
      have h1 : (n, Value.int x) ∈ trl rA sio lv := List.mem_map.mpr ⟨(n, .int x), m_get_mem hg, rfl⟩
      obtain ⟨j, hj⟩ := List.getElem?_of_mem h1
      exact lv_iinc hx hb hdg hl hj rfl hsl (trl_put1 hs lv n (.int _)) k
    · cases h
  all_goals (simp only [m_store, reduceCtorEq] at h)
theorem s_b32 (hx : p.tables.exec = Jvm.exec) (hb : c.code = cc) {pc len : Nat} {i : Instr} {f : Int32 → Int32 → Int32} {x y : Int32} {r : List Value} (hdg : decode cc pc = .ok (i, len)) (hlen : m_len i = 0 ∨ m_len i = len) (h : m_b32 i = some f)
    (k : W p l e R s m args below meth c H locs cells slots Q (F0 m (pc + len) ls (.int (f x y) :: r))) : W p l e R s m args below meth c H locs cells slots Q (F0 m pc ls (.int y :: .int x :: r)) := by
  cases i <;> simp only [m_b32, reduceCtorEq] at h <;> (simp only [m_len] at hlen; obtain rfl : len = 1 := by omega) <;> cases h
  · exact lv_iadd hx hb hdg k
  · exact lv_iand hx hb hdg k
  · exact lv_imul hx hb hdg k
  · exact lv_ior hx hb hdg k
  · exact lv_ishl hx hb hdg k
  · exact lv_ishr hx hb hdg k
  · exact lv_isub hx hb hdg k
  · exact lv_iushr hx hb hdg rfl k
  · exact lv_ixor hx hb hdg k
theorem s_d32 (hx : p.tables.exec = Jvm.exec) (hb : c.code = cc) {pc len : Nat} {i : Instr} {f : Int32 → Int32 → Int32} {x y : Int32} {r : List Value} (hdg : decode cc pc = .ok (i, len)) (hlen : m_len i = 0 ∨ m_len i = len) (h : m_d32 i = some f) (hy : ¬ y = 0)
    (k : W p l e R s m args below meth c H locs cells slots Q (F0 m (pc + len) ls (.int (f x y) :: r))) : W p l e R s m args below meth c H locs cells slots Q (F0 m pc ls (.int y :: .int x :: r)) := by
  cases i <;> simp only [m_d32, reduceCtorEq] at h <;> (simp only [m_len] at hlen; obtain rfl : len = 1 := by omega) <;> cases h
  · exact lv_idiv hx hb hdg hy k
  · exact lv_irem hx hb hdg hy k
theorem s_b64 (hx : p.tables.exec = Jvm.exec) (hb : c.code = cc) {pc len : Nat} {i : Instr} {f : Int64 → Int64 → Int64} {x y : Int64} {r : List Value} (hdg : decode cc pc = .ok (i, len)) (hlen : m_len i = 0 ∨ m_len i = len) (h : m_b64 i = some f)
    (k : W p l e R s m args below meth c H locs cells slots Q (F0 m (pc + len) ls (.long (f x y) :: r))) : W p l e R s m args below meth c H locs cells slots Q (F0 m pc ls (.long y :: .long x :: r)) := by
  cases i <;> simp only [m_b64, reduceCtorEq] at h <;> (simp only [m_len] at hlen; obtain rfl : len = 1 := by omega) <;> cases h
  · exact lv_ladd hx hb hdg k
  · exact lv_land hx hb hdg k
  · exact lv_lmul hx hb hdg k
  · exact lv_lor hx hb hdg k
  · exact lv_lsub hx hb hdg k
  · exact lv_lxor hx hb hdg k
theorem s_d64 (hx : p.tables.exec = Jvm.exec) (hb : c.code = cc) {pc len : Nat} {i : Instr} {f : Int64 → Int64 → Int64} {x y : Int64} {r : List Value} (hdg : decode cc pc = .ok (i, len)) (hlen : m_len i = 0 ∨ m_len i = len) (h : m_d64 i = some f) (hy : ¬ y = 0)
    (k : W p l e R s m args below meth c H locs cells slots Q (F0 m (pc + len) ls (.long (f x y) :: r))) : W p l e R s m args below meth c H locs cells slots Q (F0 m pc ls (.long y :: .long x :: r)) := by
  cases i <;> simp only [m_d64, reduceCtorEq] at h <;> (simp only [m_len] at hlen; obtain rfl : len = 1 := by omega) <;> cases h
  · exact lv_ldiv hx hb hdg hy k
  · exact lv_lrem hx hb hdg hy k
theorem s_u32 (hx : p.tables.exec = Jvm.exec) (hb : c.code = cc) {pc len : Nat} {i : Instr} {f : Int32 → Value} {x : Int32} {r : List Value} (hdg : decode cc pc = .ok (i, len)) (hlen : m_len i = 0 ∨ m_len i = len) (h : m_u32 i = some f)
    (k : W p l e R s m args below meth c H locs cells slots Q (F0 m (pc + len) ls (trv rA sio (f x) :: r))) : W p l e R s m args below meth c H locs cells slots Q (F0 m pc ls (.int x :: r)) := by
  cases i <;> simp only [m_u32, reduceCtorEq] at h <;> (simp only [m_len] at hlen; obtain rfl : len = 1 := by omega) <;> cases h
  · exact lv_i2b hx hb hdg rfl k
  · exact lv_i2c hx hb hdg rfl k
  · exact lv_i2l hx hb hdg rfl k
  · exact lv_i2s hx hb hdg rfl k
  · exact lv_ineg hx hb hdg k
theorem s_stk (hx : p.tables.exec = Jvm.exec) (hb : c.code = cc) {pc len : Nat} {i : Instr} {st st1 : List Value} (hs : sioOK sio) (hdg : decode cc pc = .ok (i, len)) (hlen : m_len i = 0 ∨ m_len i = len) (h : m_stk i st = some st1)
    (k : W p l e R s m args below meth c H locs cells slots Q (F0 m (pc + len) ls (trs rA sio st1))) : W p l e R s m args below meth c H locs cells slots Q (F0 m pc ls (trs rA sio st)) := by
  cases i <;> simp only [m_stk, reduceCtorEq] at h <;> (simp only [m_len] at hlen; obtain rfl : len = 1 := by omega)
  case dup =>
    split at h
    · split at h
      · cases h
        exact lv_dup hx hb hdg ((trv_cat hs _).trans (by assumption)) k
      · cases h
    · cases h
  case dup_x1 =>
    split at h
    · split at h
      · rename_i hc
        cases h
        exact lv_dup_x1 hx hb hdg ((trv_cat hs _).trans hc.1) ((trv_cat hs _).trans hc.2) k
      · cases h
    · cases h
  case dup_x2 =>
    split at h
    · split at h
      · rename_i hc
        cases h
        exact lv_dup_x2 hx hb hdg ((trv_cat hs _).trans hc.1) ((trv_cat hs _).trans hc.2.1) ((trv_cat hs _).trans hc.2.2) k
      · cases h
    · cases h
  case dup2 =>
    split at h
    · split at h
      · rename_i hc
        cases h
        exact lv_dup2_11 hx hb hdg ((trv_cat hs _).trans hc.1) ((trv_cat hs _).trans hc.2) k
      · cases h
    · cases h
  case l2i =>
    split at h
    · cases h
      exact lv_l2i hx hb hdg rfl k
    · cases h
  case lcmp =>
    split at h
    · cases h
      exact W.lcmp hx hb hdg k
    · cases h
  case pop =>
    split at h
    · split at h
      · cases h
        exact lv_pop hx hb hdg ((trv_cat hs _).trans (by assumption)) k
      · cases h
    · cases h
  case pop2 =>
    split at h
    · split at h
      · cases h
        exact lv_pop2_2 hx hb hdg ((trv_cat hs _).trans (by assumption)) k
      · cases h
    · cases h
theorem s_alu (hx : p.tables.exec = Jvm.exec) (hb : c.code = cc) {pc len : Nat} {i : Instr} {st st1 : List Value} (hs : sioOK sio) (hdg : decode cc pc = .ok (i, len)) (hlen : m_len i = 0 ∨ m_len i = len) (h : m_alu i st = some st1)
    (k : W p l e R s m args below meth c H locs cells slots Q (F0 m (pc + len) ls (trs rA sio st1))) : W p l e R s m args below meth c H locs cells slots Q (F0 m pc ls (trs rA sio st)) := by
  unfold m_alu at h
  split at h
  · split at h
    · cases h
      exact s_b32 hx hb hdg hlen (by assumption) k
    · cases h
  · split at h
    · split at h
      · split at h
        · cases h
        · cases h
          exact s_d32 hx hb hdg hlen (by assumption) (by assumption) k
      · cases h
    · split at h
      · split at h
        · cases h
          exact s_b64 hx hb hdg hlen (by assumption) k
        · cases h
      · split at h
        · split at h
          · split at h
            · cases h
            · cases h
              exact s_d64 hx hb hdg hlen (by assumption) (by assumption) k
          · cases h
        · split at h
          · split at h
            · cases h
              exact s_u32 (rA := rA) (sio := sio) hx hb hdg hlen (by assumption) k
            · cases h
          · exact s_stk hx hb hs hdg hlen h k
end SimC
end
section
/-! THE SMALL MACHINE IS THE MACHINE, IV: branches -/
section SimD
variable {p : Program} {l : Launch} {e : Env} {R : Room} {s : State} {m : MethodId} {args : Array Value} {below : List Frame} {meth : Method} {c : Code} {H : Heap} {locs : List Loc} {cells slots : Nat} {Q : State → Prop}
variable {cc : ByteArray} {ls : Array Slot} {nL : Nat} {rA : Nat → Nat} {sio : Value}
theorem m_to_spec {pc t : Nat} {off : Int} (h : m_to pc off = some t) : (pc : Int) + off = (t : Int) := by
  unfold m_to at h
  split at h
  · cases h; omega
  · cases h
theorem m_jmp {pc : Nat} {off : Int} {r : List Value} {q : Nat × List Value} (h : (m_to pc off).map (fun t => (t, r)) = some q) : (pc : Int) + off = (q.1 : Int) ∧ q.2 = r := by
  cases ht : m_to pc off with
  | none => rw [ht] at h; cases h
  | some t => rw [ht] at h; cases h; exact ⟨m_to_spec ht, rfl⟩
theorem m_if_spec {pc : Nat} {off : Int} {b : Bool} {r : List Value} {q : Nat × List Value} (h : m_if pc off b r = some q) : ∃ t : Nat, (pc : Int) + off = (t : Int) ∧ q.1 = (if b = true then t else pc + 3) ∧ q.2 = r := by
  unfold m_if at h
  cases ht : m_to pc off with
  | none => rw [ht] at h; cases h
  | some t => rw [ht] at h; cases h; exact ⟨t, m_to_spec ht, rfl, rfl⟩
theorem s_if (hx : p.tables.exec = Jvm.exec) (hb : c.code = cc) {pc : Nat} {cd : ClassFile.Cond} {off : Int} {x : Int32} {r : List Value} {q : Nat × List Value} (hdg : decode cc pc = .ok (.ifCond cd off, 3)) (h : m_if pc off (m_cmp cd x 0) r = some q)
    (k : W p l e R s m args below meth c H locs cells slots Q (F0 m q.1 ls (trs rA sio q.2))) : W p l e R s m args below meth c H locs cells slots Q (F0 m pc ls (.int x :: trs rA sio r)) := by
  obtain ⟨t, h1, h2, h3⟩ := m_if_spec h
  rw [h2, h3] at k
  cases cd <;> simp only [m_cmp, decide_eq_true_eq] at k
  · exact lv_if_eq hx hb hdg h1 (fun n => by rw [if_pos n] at k; exact k) (fun n => by rw [if_neg n] at k; exact k)
  · exact lv_if_ne hx hb hdg h1 (fun n => by rw [if_pos n] at k; exact k) (fun n => by rw [if_neg (fun z => z n)] at k; exact k)
  · exact lv_if_lt hx hb hdg h1 (fun n => by rw [if_pos n] at k; exact k) (fun n => by rw [if_neg n] at k; exact k)
  · exact lv_if_ge hx hb hdg h1 (fun n => by rw [if_pos n] at k; exact k) (fun n => by rw [if_neg n] at k; exact k)
  · exact lv_if_gt hx hb hdg h1 (fun n => by rw [if_pos n] at k; exact k) (fun n => by rw [if_neg n] at k; exact k)
  · exact lv_if_le hx hb hdg h1 (fun n => by rw [if_pos n] at k; exact k) (fun n => by rw [if_neg n] at k; exact k)
theorem s_icmp (hx : p.tables.exec = Jvm.exec) (hb : c.code = cc) {pc : Nat} {cd : ClassFile.Cond} {off : Int} {x y : Int32} {r : List Value} {q : Nat × List Value} (hdg : decode cc pc = .ok (.if_icmp cd off, 3)) (h : m_if pc off (m_cmp cd x y) r = some q)
    (k : W p l e R s m args below meth c H locs cells slots Q (F0 m q.1 ls (trs rA sio q.2))) : W p l e R s m args below meth c H locs cells slots Q (F0 m pc ls (.int y :: .int x :: trs rA sio r)) := by
  obtain ⟨t, h1, h2, h3⟩ := m_if_spec h
  rw [h2, h3] at k
  cases cd <;> simp only [m_cmp, decide_eq_true_eq] at k
  · exact lv_icmp_eq hx hb hdg h1 (fun n => by rw [if_pos n] at k; exact k) (fun n => by rw [if_neg n] at k; exact k)
  · exact lv_icmp_ne hx hb hdg h1 (fun n => by rw [if_pos n] at k; exact k) (fun n => by rw [if_neg (fun z => z n)] at k; exact k)
  · exact lv_icmp_lt hx hb hdg h1 (fun n => by rw [if_pos n] at k; exact k) (fun n => by rw [if_neg n] at k; exact k)
  · exact lv_icmp_ge hx hb hdg h1 (fun n => by rw [if_pos n] at k; exact k) (fun n => by rw [if_neg n] at k; exact k)
  · exact lv_icmp_gt hx hb hdg h1 (fun n => by rw [if_pos n] at k; exact k) (fun n => by rw [if_neg n] at k; exact k)
  · exact lv_icmp_le hx hb hdg h1 (fun n => by rw [if_pos n] at k; exact k) (fun n => by rw [if_neg n] at k; exact k)
theorem s_br (hx : p.tables.exec = Jvm.exec) (hb : c.code = cc) {E : MI} {st : List Value} {q : Nat × List Value} (hs : sioOK sio) (hdg : decode cc E.1 = .ok (E.2.1, E.2.2.1)) (hlen : m_len E.2.1 = 0 ∨ m_len E.2.1 = E.2.2.1) (h : m_br E st = some q)
    (k : W p l e R s m args below meth c H locs cells slots Q (F0 m q.1 ls (trs rA sio q.2))) : W p l e R s m args below meth c H locs cells slots Q (F0 m E.1 ls (trs rA sio st)) := by
  obtain ⟨pc, i, len, a, b, z⟩ := E
  simp only at hdg hlen k h ⊢
  cases i
  case goto off =>
    simp only [m_len] at hlen
    obtain rfl : len = 3 := by omega
    simp only [m_br] at h
    obtain ⟨h1, h2⟩ := m_jmp h
    rw [h2] at k
    exact lv_goto hx hb hdg h1 k
  case ifCond cd off =>
    simp only [m_len] at hlen
    obtain rfl : len = 3 := by omega
    simp only [m_br] at h
    split at h
    · exact s_if hx hb hdg h k
    · cases h
  case if_icmp cd off =>
    simp only [m_len] at hlen
    obtain rfl : len = 3 := by omega
    simp only [m_br] at h
    split at h
    · exact s_icmp hx hb hdg h k
    · cases h
  case tableswitch d lo hi offs =>
    simp only [m_br] at h
    split at h
    · split at h
      · rename_i hc
        obtain ⟨h1, h2⟩ := m_jmp h
        rw [h2] at k
        exact lv_tableOut hx hb hdg hc h1 k
      · rename_i hc
        split at h
        · rename_i off ho
          obtain ⟨h1, h2⟩ := m_jmp h
          rw [h2] at k
          exact lv_tableIn hx hb hdg (fun n => hc (Or.inl n)) (fun n => hc (Or.inr n)) ho h1 k
        · cases h
    · cases h
  case lookupswitch d ps =>
    simp only [m_br] at h
    split at h
    · split at h
      · rename_i hc
        obtain ⟨h1, h2⟩ := m_jmp h
        rw [h2] at k
        exact lv_lookup hx hb hdg hc rfl h1 k
      · cases h
    · cases h
  all_goals (simp only [m_br, reduceCtorEq] at h)
end SimD
end
