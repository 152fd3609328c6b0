/-! TABLES: the links stand in the tables (written by a program) -/
theorem lk0_0 : kOK "DoorPaintsLaw" "law" cL0_0 cK0_0 = true := by decide +kernel
theorem lk0_1 : kOK "DoorPaintsLaw" "law" cL0_1 cK0_1 = true := by decide +kernel
theorem lk0_2 : kOK "DoorPaintsLaw" "law" cL0_2 cK0_2 = true := by decide +kernel
theorem lk0_3 : kOK "DoorPaintsLaw" "law" cL0_3 cK0_3 = true := by decide +kernel
theorem lk0_4 : kOK "DoorPaintsLaw" "law" cL0_4 cK0_4 = true := by decide +kernel
theorem lk0_5 : kOK "DoorPaintsLaw" "law" cL0_5 cK0_5 = true := by decide +kernel
theorem lk0_6 : kOK "DoorPaintsLaw" "law" cL0_6 cK0_6 = true := by decide +kernel
theorem lk0_7 : kOK "DoorPaintsLaw" "law" cL0_7 cK0_7 = true := by decide +kernel
theorem lk0_8 : kOK "DoorPaintsLaw" "law" cL0_8 cK0_8 = true := by decide +kernel
theorem lk0_9 : kOK "DoorPaintsLaw" "law" cL0_9 cK0_9 = true := by decide +kernel
theorem lk0_10 : kOK "DoorPaintsLaw" "law" cL0_10 cK0_10 = true := by decide +kernel
theorem lk0_11 : kOK "DoorPaintsLaw" "law" cL0_11 cK0_11 = true := by decide +kernel
theorem lk0_12 : kOK "DoorPaintsLaw" "law" cL0_12 cK0_12 = true := by decide +kernel
theorem lk0_13 : kOK "DoorPaintsLaw" "law" cL0_13 cK0_13 = true := by decide +kernel
theorem lk0_14 : kOK "DoorPaintsLaw" "law" cL0_14 cK0_14 = true := by decide +kernel
theorem lk0_15 : kOK "DoorPaintsLaw" "law" cL0_15 cK0_15 = true := by decide +kernel
theorem lk0_16 : kOK "DoorPaintsLaw" "law" cL0_16 cK0_16 = true := by decide +kernel
theorem lk0_17 : kOK "DoorPaintsLaw" "law" cL0_17 cK0_17 = true := by decide +kernel
theorem lk0 : kAll "DoorPaintsLaw" "law" cL0 := kOK_app lk0_0 (kOK_app lk0_1 (kOK_app lk0_2 (kOK_app lk0_3 (kOK_app lk0_4 (kOK_app lk0_5 (kOK_app lk0_6 (kOK_app lk0_7 (kOK_app lk0_8 (kOK_app lk0_9 (kOK_app lk0_10 (kOK_app lk0_11 (kOK_app lk0_12 (kOK_app lk0_13 (kOK_app lk0_14 (kOK_app lk0_15 (kOK_app lk0_16 (kOK_of lk0_17)))))))))))))))))
theorem lk1_0 : kOK "DoorPaints" "<init>" cL1_0 cK1_0 = true := by decide +kernel
theorem lk1_1 : kOK "DoorPaints" "<init>" cL1_1 cK1_1 = true := by decide +kernel
theorem lk1 : kAll "DoorPaints" "<init>" cL1 := kOK_app lk1_0 (kOK_of lk1_1)
theorem lk2 : kAll "DoorPaints$Reader" "<init>" cL2 := kOK_of (by decide +kernel : kOK "DoorPaints$Reader" "<init>" cL2 cK2 = true)
theorem lk3 : kAll "DoorPaints$Told" "<init>" cL3 := kOK_of (by decide +kernel : kOK "DoorPaints$Told" "<init>" cL3 cK3 = true)
theorem lk4 : kAll "DoorPaints$Town" "<init>" cL4 := kOK_of (by decide +kernel : kOK "DoorPaints$Town" "<init>" cL4 cK4 = true)
theorem lk5 : kAll "DoorPaints$Visitor" "<init>" cL5 := kOK_of (by decide +kernel : kOK "DoorPaints$Visitor" "<init>" cL5 cK5 = true)
theorem lk6 : kAll "DoorPaints$Door" "<init>" cL6 := kOK_of (by decide +kernel : kOK "DoorPaints$Door" "<init>" cL6 cK6 = true)
theorem lk7 : kAll "DoorPaints$Tape" "<init>" cL7 := kOK_of (by decide +kernel : kOK "DoorPaints$Tape" "<init>" cL7 cK7 = true)
theorem lk8 : kAll "DoorPaints$Search" "<init>" cL8 := kOK_of (by decide +kernel : kOK "DoorPaints$Search" "<init>" cL8 cK8 = true)
theorem lk9 : kAll "DoorPaints$Sheet" "<init>" cL9 := kOK_of (by decide +kernel : kOK "DoorPaints$Sheet" "<init>" cL9 cK9 = true)
theorem lk10 : kAll "DoorPaints" "feed" cL10 := kOK_of (by decide +kernel : kOK "DoorPaints" "feed" cL10 cK10 = true)
theorem lk11 : kAll "DoorPaints$Tape" "append" cL11 := kOK_of (by decide +kernel : kOK "DoorPaints$Tape" "append" cL11 cK11 = true)
theorem lk12 : kAll "DoorPaints" "end" cL12 := kOK_of (by decide +kernel : kOK "DoorPaints" "end" cL12 cK12 = true)
theorem lk13 : kAll "DoorPaints" "text" cL13 := kOK_of (by decide +kernel : kOK "DoorPaints" "text" cL13 cK13 = true)
theorem lk14_0 : kOK "DoorPaints$Reader" "readAll" cL14_0 cK14_0 = true := by decide +kernel
theorem lk14_1 : kOK "DoorPaints$Reader" "readAll" cL14_1 cK14_1 = true := by decide +kernel
theorem lk14 : kAll "DoorPaints$Reader" "readAll" cL14 := kOK_app lk14_0 (kOK_of lk14_1)
theorem lk15 : kAll "DoorPaints$Told" "clear" cL15 := kOK_of (by decide +kernel : kOK "DoorPaints$Told" "clear" cL15 cK15 = true)
theorem lk16 : kAll "DoorPaints$Town" "clear" cL16 := kOK_of (by decide +kernel : kOK "DoorPaints$Town" "clear" cL16 cK16 = true)
theorem lk17 : kAll "DoorPaints$Door" "clear" cL17 := kOK_of (by decide +kernel : kOK "DoorPaints$Door" "clear" cL17 cK17 = true)
theorem lk18 : kAll "DoorPaints$Tape" "rewind" cL18 := kOK_of (by decide +kernel : kOK "DoorPaints$Tape" "rewind" cL18 cK18 = true)
theorem lk19_0 : kOK "DoorPaints$Tape" "advance" cL19_0 cK19_0 = true := by decide +kernel
theorem lk19_1 : kOK "DoorPaints$Tape" "advance" cL19_1 cK19_1 = true := by decide +kernel
theorem lk19 : kAll "DoorPaints$Tape" "advance" cL19 := kOK_app lk19_0 (kOK_of lk19_1)
theorem lk20 : kAll "DoorPaints$Tape" "skip" cL20 := kOK_of (by decide +kernel : kOK "DoorPaints$Tape" "skip" cL20 cK20 = true)
theorem lk21 : kAll "DoorPaints$Tape" "takeNumber" cL21 := kOK_of (by decide +kernel : kOK "DoorPaints$Tape" "takeNumber" cL21 cK21 = true)
theorem lk22 : kAll "DoorPaints$Reader" "readLine" cL22 := kOK_of (by decide +kernel : kOK "DoorPaints$Reader" "readLine" cL22 cK22 = true)
theorem lk23 : kAll "DoorPaints$Reader" "stands" cL23 := kOK_of (by decide +kernel : kOK "DoorPaints$Reader" "stands" cL23 cK23 = true)
theorem lk24 : kAll "DoorPaints$Reader" "fail" cL24 := kOK_of (by decide +kernel : kOK "DoorPaints$Reader" "fail" cL24 cK24 = true)
theorem lk25 : kAll "DoorPaints$Tape" "nameIs" cL25 := kOK_of (by decide +kernel : kOK "DoorPaints$Tape" "nameIs" cL25 cK25 = true)
theorem lk26 : kAll "java/lang/String" "length" cL26 := kOK_of (by decide +kernel : kOK "java/lang/String" "length" cL26 cK26 = true)
theorem lk27 : kAll "java/lang/String" "coder" cL27 := kOK_of (by decide +kernel : kOK "java/lang/String" "coder" cL27 cK27 = true)
theorem lk28 : kAll "java/lang/String" "charAt" cL28 := kOK_of (by decide +kernel : kOK "java/lang/String" "charAt" cL28 cK28 = true)
theorem lk29 : kAll "java/lang/String" "isLatin1" cL29 := kOK_of (by decide +kernel : kOK "java/lang/String" "isLatin1" cL29 cK29 = true)
theorem lk30 : kAll "java/lang/StringLatin1" "charAt" cL30 := kOK_of (by decide +kernel : kOK "java/lang/StringLatin1" "charAt" cL30 cK30 = true)
theorem lk31 : kAll "java/lang/String" "checkIndex" cL31 := kOK_of (by decide +kernel : kOK "java/lang/String" "checkIndex" cL31 cK31 = true)
theorem lk32 : kAll "jdk/internal/util/Preconditions" "checkIndex" cL32 := kOK_of (by decide +kernel : kOK "jdk/internal/util/Preconditions" "checkIndex" cL32 cK32 = true)
theorem lk33_0 : kOK "DoorPaints$Reader" "readDoor" cL33_0 cK33_0 = true := by decide +kernel
theorem lk33_1 : kOK "DoorPaints$Reader" "readDoor" cL33_1 cK33_1 = true := by decide +kernel
theorem lk33 : kAll "DoorPaints$Reader" "readDoor" cL33 := kOK_app lk33_0 (kOK_of lk33_1)
theorem lk34 : kAll "DoorPaints$Reader" "numberStands" cL34 := kOK_of (by decide +kernel : kOK "DoorPaints$Reader" "numberStands" cL34 cK34 = true)
theorem lk35 : kAll "DoorPaints$Door" "addLayer" cL35 := kOK_of (by decide +kernel : kOK "DoorPaints$Door" "addLayer" cL35 cK35 = true)
theorem lk36 : kAll "DoorPaints$Reader" "endLine" cL36 := kOK_of (by decide +kernel : kOK "DoorPaints$Reader" "endLine" cL36 cK36 = true)
theorem lk37 : kAll "DoorPaints$Reader" "readNot" cL37 := kOK_of (by decide +kernel : kOK "DoorPaints$Reader" "readNot" cL37 cK37 = true)
