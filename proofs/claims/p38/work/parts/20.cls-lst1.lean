section
/-! TABLES: the classes, their fields (written by a program) -/
noncomputable def tF0 : u_T := fun k => ([("DoorPaints", "reader", "LDoorPaints$Reader;", true), ("DoorPaints", "tape", "LDoorPaints$Tape;", true), ("DoorPaints", "told", "LDoorPaints$Told;", true), ("DoorPaints", "images", "[LDoorPaints$Told;", true), ("DoorPaints", "kept", "[Z", true), ("DoorPaints", "trial", "LDoorPaints$Town;", true), ("DoorPaints", "search", "LDoorPaints$Search;", true), ("DoorPaints", "order", "[I", true), ("DoorPaints", "sheets", "[LDoorPaints$Sheet;", true), ("DoorPaints", "latestFault", "I", false), ("DoorPaints", "latestTear", "I", false), ("DoorPaints", "ordersFound", "I", false), ("DoorPaints", "lastsFound", "I", false)] : List (String × String × String × Bool)).getD k ("", "", "", false)
noncomputable def tF1 : u_T := fun k => ([("DoorPaints$Reader", "draft", "LDoorPaints$Told;", true), ("DoorPaints$Reader", "from", "LDoorPaints$Tape;", true), ("DoorPaints$Reader", "found", "I", false), ("DoorPaints$Reader", "place", "I", false), ("DoorPaints$Reader", "planned", "Z", false)] : List (String × String × String × Bool)).getD k ("", "", "", false)
noncomputable def tF2 : u_T := fun k => ([("DoorPaints$Told", "town", "LDoorPaints$Town;", true), ("DoorPaints$Told", "acts", "[I", true), ("DoorPaints$Told", "actCount", "I", false), ("DoorPaints$Told", "seenDoors", "[I", true), ("DoorPaints$Told", "seenLayers", "[I", true), ("DoorPaints$Told", "seenColours", "[I", true), ("DoorPaints$Told", "seenCount", "I", false)] : List (String × String × String × Bool)).getD k ("", "", "", false)
noncomputable def tF3 : u_T := fun k => ([("DoorPaints$Town", "visitors", "[LDoorPaints$Visitor;", true), ("DoorPaints$Town", "doors", "[LDoorPaints$Door;", true), ("DoorPaints$Town", "visitorCount", "I", false), ("DoorPaints$Town", "doorCount", "I", false), ("DoorPaints$Town", "borrower", "I", false), ("DoorPaints$Town", "borrowed", "I", false)] : List (String × String × String × Bool)).getD k ("", "", "", false)
noncomputable def tF4 : u_T := fun k => ([("DoorPaints$Visitor", "kind", "I", false), ("DoorPaints$Visitor", "colour", "I", false), ("DoorPaints$Visitor", "paint", "I", false), ("DoorPaints$Visitor", "sleeve", "I", false)] : List (String × String × String × Bool)).getD k ("", "", "", false)
noncomputable def tF5 : u_T := fun k => ([("DoorPaints$Door", "layers", "[I", true), ("DoorPaints$Door", "height", "I", false), ("DoorPaints$Door", "forbidden", "I", false), ("DoorPaints$Door", "wet", "Z", false)] : List (String × String × String × Bool)).getD k ("", "", "", false)
noncomputable def tF6 : u_T := fun k => ([("DoorPaints$Tape", "bytes", "[I", true), ("DoorPaints$Tape", "length", "I", false), ("DoorPaints$Tape", "kind", "I", false), ("DoorPaints$Tape", "start", "I", false), ("DoorPaints$Tape", "next", "I", false), ("DoorPaints$Tape", "value", "I", false)] : List (String × String × String × Bool)).getD k ("", "", "", false)
noncomputable def tF7 : u_T := fun k => ([("DoorPaints$Search", "town", "LDoorPaints$Town;", true), ("DoorPaints$Search", "row", "[I", true), ("DoorPaints$Search", "bestRow", "[I", true), ("DoorPaints$Search", "length", "I", false), ("DoorPaints$Search", "fewestWrong", "I", false), ("DoorPaints$Search", "leastPaint", "I", false), ("DoorPaints$Search", "byPaint", "Z", false)] : List (String × String × String × Bool)).getD k ("", "", "", false)
noncomputable def tF8 : u_T := fun k => ([("DoorPaints$Sheet", "cells", "[I", true), ("DoorPaints$Sheet", "size", "I", false), ("DoorPaints$Sheet", "lane", "I", false)] : List (String × String × String × Bool)).getD k ("", "", "", false)
noncomputable def tF9 : u_T := fun k => ([("DoorPaintsModel", "st", "[I", true), ("DoorPaintsModel", "at", "[I", true), ("DoorPaintsModel", "isKept", "[Z", true), ("DoorPaintsModel", "visitors", "I", false), ("DoorPaintsModel", "doors", "I", false), ("DoorPaintsModel", "draft", "[I", true), ("DoorPaintsModel", "dVisitors", "I", false), ("DoorPaintsModel", "dDoors", "I", false), ("DoorPaintsModel", "hasPlan", "Z", false), ("DoorPaintsModel", "highestVisitor", "I", false), ("DoorPaintsModel", "highestDoor", "I", false), ("DoorPaintsModel", "oughts", "[I", true), ("DoorPaintsModel", "tape", "[I", true), ("DoorPaintsModel", "taped", "I", false), ("DoorPaintsModel", "pos", "I", false), ("DoorPaintsModel", "from", "I", false), ("DoorPaintsModel", "sort", "I", false), ("DoorPaintsModel", "value", "I", false), ("DoorPaintsModel", "fault", "I", false), ("DoorPaintsModel", "wrongAt", "I", false), ("DoorPaintsModel", "borrower", "I", false), ("DoorPaintsModel", "lender", "I", false), ("DoorPaintsModel", "taken", "I", false), ("DoorPaintsModel", "couldBe", "Z", false), ("DoorPaintsModel", "order", "[I", true), ("DoorPaintsModel", "wrongSum", "J", false), ("DoorPaintsModel", "paintSum", "J", false), ("DoorPaintsModel", "allWays", "J", false), ("DoorPaintsModel", "lanes", "[I", true), ("DoorPaintsModel", "sizes", "[I", true), ("DoorPaintsModel", "cells", "[I", true), ("DoorPaintsModel", "torn", "I", false), ("DoorPaintsModel", "had", "[I", true)] : List (String × String × String × Bool)).getD k ("", "", "", false)
noncomputable def tCls : List vw_C := [("DoorPaints", tF0, 13), ("DoorPaints$Reader", tF1, 5), ("DoorPaints$Told", tF2, 7), ("DoorPaints$Town", tF3, 6), ("DoorPaints$Visitor", tF4, 4), ("DoorPaints$Door", tF5, 4), ("DoorPaints$Tape", tF6, 6), ("DoorPaints$Search", tF7, 7), ("DoorPaints$Sheet", tF8, 3), ("DoorPaintsModel", tF9, 33)]
noncomputable def tFtyL : List (List FieldType) := [[.object "DoorPaints$Reader", .object "DoorPaints$Tape", .object "DoorPaints$Told", .array (.object "DoorPaints$Told"), .array .boolean, .object "DoorPaints$Town", .object "DoorPaints$Search", .array .int, .array (.object "DoorPaints$Sheet"), .int, .int, .int, .int], [.object "DoorPaints$Told", .object "DoorPaints$Tape", .int, .int, .boolean], [.object "DoorPaints$Town", .array .int, .int, .array .int, .array .int, .array .int, .int], [.array (.object "DoorPaints$Visitor"), .array (.object "DoorPaints$Door"), .int, .int, .int, .int], [.int, .int, .int, .int], [.array .int, .int, .int, .boolean], [.array .int, .int, .int, .int, .int, .int], [.object "DoorPaints$Town", .array .int, .array .int, .int, .int, .int, .boolean], [.array .int, .int, .int], [.array .int, .array .int, .array .boolean, .int, .int, .array .int, .int, .int, .boolean, .int, .int, .array .int, .array .int, .int, .int, .int, .int, .int, .int, .int, .int, .int, .int, .boolean, .array .int, .long, .long, .long, .array .int, .array .int, .array .int, .int, .array .int]]
noncomputable def tFty (ci k : Nat) : FieldType := (tFtyL.getD ci []).getD k .int
noncomputable def tDflL : List (List Value) := [[.null, .null, .null, .null, .null, .null, .null, .null, .null, .int 0, .int 0, .int 0, .int 0], [.null, .null, .int 0, .int 0, .int 0], [.null, .null, .int 0, .null, .null, .null, .int 0], [.null, .null, .int 0, .int 0, .int 0, .int 0], [.int 0, .int 0, .int 0, .int 0], [.null, .int 0, .int 0, .int 0], [.null, .int 0, .int 0, .int 0, .int 0, .int 0], [.null, .null, .null, .int 0, .int 0, .int 0, .int 0], [.null, .int 0, .int 0], [.null, .null, .null, .int 0, .int 0, .null, .int 0, .int 0, .int 0, .int 0, .int 0, .null, .null, .int 0, .int 0, .int 0, .int 0, .int 0, .int 0, .int 0, .int 0, .int 0, .int 0, .int 0, .null, .long 0, .long 0, .long 0, .null, .null, .null, .int 0, .null]]
noncomputable def tDfl (ci : Nat) : List Value := tDflL.getD ci []
noncomputable def tStr : StrT := [("DoorPaints$Reader", 59, 1), ("DoorPaints$Reader", 68, 3), ("DoorPaints$Reader", 73, 5), ("DoorPaints$Reader", 86, 7), ("DoorPaints$Reader", 88, 9), ("DoorPaints$Reader", 90, 11), ("DoorPaints$Reader", 92, 13)]
noncomputable def tNest : NestT := [("DoorPaints$Town", 17, ⟨"DoorPaints$Visitor", "<init>", "()V"⟩, "DoorPaints"), ("DoorPaints$Reader", 141, ⟨"DoorPaints", "isAct", "(I)Z"⟩, "DoorPaints"), ("DoorPaints$Town", 45, ⟨"DoorPaints", "isSkyAct", "(I)Z"⟩, "DoorPaints"), ("DoorPaints$Visitor", 22, ⟨"DoorPaints", "isColour", "(I)Z"⟩, "DoorPaints"), ("DoorPaints$Town", 112, ⟨"DoorPaints", "isRefusal", "(I)Z"⟩, "DoorPaints"), ("DoorPaints$Told", 59, ⟨"DoorPaints", "isSkyAct", "(I)Z"⟩, "DoorPaints")]
noncomputable def gw : List Cond := lw_tbl.filter goodWord
end
section
/-! TABLES: the methods' listings (written by a program) -/
/-- DoorPaintsLaw.law([I)Z -/
noncomputable def cL0_0 : List MI := [(0, .new 7, 3, 0, 0, 0), (3, .dup, 1, 0, 0, 0), (4, .invokespecial 9, 3, 1, 1, 0), (7, .astore_n 1, 1, 0, 0, 0), (8, .new 10, 3, 9, 0, 0), (11, .dup, 1, 0, 0, 0), (12, .invokespecial 12, 3, 144, 1, 0), (15, .astore_n 2, 1, 0, 0, 0)]
noncomputable def cL0_1 : List MI := [(16, .iconst 0, 1, 0, 0, 0), (17, .istore_n 3, 1, 0, 0, 0), (18, .iload_n 3, 1, 0, 0, 0), (19, .aload_n 0, 1, 0, 0, 0), (20, .arraylength, 1, 0, 0, 0), (21, .iconst 5, 1, 0, 0, 0), (22, .isub, 1, 0, 0, 0), (23, .if_icmp .gt 1236, 3, 0, 0, 0), (26, .aload_n 0, 1, 0, 0, 0), (27, .iload_n 3, 1, 0, 0, 0), (28, .iaload, 1, 0, 0, 0), (29, .bipush 63, 2, 0, 0, 0), (31, .iand, 1, 0, 0, 0)]
noncomputable def cL0_2 : List MI := [(32, .tableswitch 1221 0 36 #[164, 187, 210, 223, 236, 259, 292, 325, 348, 381, 414, 437, 460, 503, 562, 585, 608, 631, 654, 677, 710, 733, 756, 799, 822, 845, 858, 881, 924, 957, 1000, 1023, 1046, 1089, 1132, 1185, 1198], 164, 0, 0, 0)]
noncomputable def cL0_3 : List MI := []
noncomputable def cL0_4 : List MI := []
noncomputable def cL0_5 : List MI := []
noncomputable def cL0_6 : List MI := []
noncomputable def cL0_7 : List MI := []
noncomputable def cL0_8 : List MI := []
noncomputable def cL0_9 : List MI := []
noncomputable def cL0_10 : List MI := []
noncomputable def cL0_11 : List MI := []
noncomputable def cL0_12 : List MI := [(196, .aload_n 1, 1, 0, 0, 0), (197, .aload_n 0, 1, 0, 0, 0), (198, .iload_n 3, 1, 0, 0, 0), (199, .iconst 1, 1, 0, 0, 0), (200, .iadd, 1, 0, 0, 0), (201, .iaload, 1, 0, 0, 0), (202, .invokevirtual 13, 3, 10, 2, 0), (205, .pop, 1, 0, 0, 0), (206, .aload_n 2, 1, 0, 0, 0), (207, .aload_n 0, 1, 0, 0, 0)]
noncomputable def cL0_13 : List MI := [(208, .iload_n 3, 1, 0, 0, 0), (209, .iconst 1, 1, 0, 0, 0), (210, .iadd, 1, 0, 0, 0), (211, .iaload, 1, 0, 0, 0), (212, .invokevirtual 17, 3, 147, 2, 9), (215, .pop, 1, 0, 0, 0), (216, .goto 1037, 3, 0, 0, 0), (219, .aload_n 1, 1, 0, 0, 0), (220, .aload_n 0, 1, 0, 0, 0), (221, .iload_n 3, 1, 0, 0, 0), (222, .iconst 1, 1, 0, 0, 0), (223, .iadd, 1, 0, 0, 0)]
noncomputable def cL0_14 : List MI := [(224, .iaload, 1, 0, 0, 0), (225, .invokevirtual 18, 3, 12, 2, 0), (228, .pop, 1, 0, 0, 0), (229, .aload_n 2, 1, 0, 0, 0), (230, .aload_n 0, 1, 0, 0, 0), (231, .iload_n 3, 1, 0, 0, 0), (232, .iconst 1, 1, 0, 0, 0), (233, .iadd, 1, 0, 0, 0), (234, .iaload, 1, 0, 0, 0), (235, .invokevirtual 21, 3, 149, 2, 9), (238, .pop, 1, 0, 0, 0), (239, .goto 1014, 3, 0, 0, 0)]
noncomputable def cL0_15 : List MI := [(242, .aload_n 1, 1, 0, 0, 0), (243, .invokevirtual 22, 3, 13, 1, 0), (246, .pop, 1, 0, 0, 0), (247, .aload_n 2, 1, 0, 0, 0), (248, .invokevirtual 26, 3, 150, 1, 9), (251, .pop, 1, 0, 0, 0), (252, .goto 1001, 3, 0, 0, 0), (255, .aload_n 1, 1, 0, 0, 0)]
noncomputable def cL0_16 : List MI := [(256, .invokevirtual 27, 3, 55, 1, 0), (259, .pop, 1, 0, 0, 0), (260, .aload_n 2, 1, 0, 0, 0), (261, .invokevirtual 30, 3, 166, 1, 9), (264, .pop, 1, 0, 0, 0), (265, .goto 988, 3, 0, 0, 0), (268, .aload_n 1, 1, 0, 0, 0), (269, .aload_n 0, 1, 0, 0, 0), (270, .iload_n 3, 1, 0, 0, 0), (271, .iconst 1, 1, 0, 0, 0)]
noncomputable def cL0_17 : List MI := [(272, .iadd, 1, 0, 0, 0), (273, .iaload, 1, 0, 0, 0), (274, .invokevirtual 31, 3, 56, 2, 0), (277, .pop, 1, 0, 0, 0), (278, .aload_n 2, 1, 0, 0, 0), (279, .aload_n 0, 1, 0, 0, 0), (280, .iload_n 3, 1, 0, 0, 0), (281, .iconst 1, 1, 0, 0, 0), (282, .iadd, 1, 0, 0, 0), (283, .iaload, 1, 0, 0, 0), (284, .invokevirtual 34, 3, 167, 2, 9), (287, .pop, 1, 0, 0, 0)]
noncomputable def cL0_18 : List MI := [(288, .goto 965, 3, 0, 0, 0), (291, .aload_n 1, 1, 0, 0, 0), (292, .aload_n 0, 1, 0, 0, 0), (293, .iload_n 3, 1, 0, 0, 0), (294, .iconst 1, 1, 0, 0, 0), (295, .iadd, 1, 0, 0, 0), (296, .iaload, 1, 0, 0, 0), (297, .aload_n 0, 1, 0, 0, 0), (298, .iload_n 3, 1, 0, 0, 0), (299, .iconst 2, 1, 0, 0, 0), (300, .iadd, 1, 0, 0, 0), (301, .iaload, 1, 0, 0, 0), (302, .invokevirtual 35, 3, 62, 3, 0)]
noncomputable def cL0_19 : List MI := [(305, .pop, 1, 0, 0, 0), (306, .aload_n 2, 1, 0, 0, 0), (307, .aload_n 0, 1, 0, 0, 0), (308, .iload_n 3, 1, 0, 0, 0), (309, .iconst 1, 1, 0, 0, 0), (310, .iadd, 1, 0, 0, 0), (311, .iaload, 1, 0, 0, 0), (312, .aload_n 0, 1, 0, 0, 0), (313, .iload_n 3, 1, 0, 0, 0), (314, .iconst 2, 1, 0, 0, 0), (315, .iadd, 1, 0, 0, 0), (316, .iaload, 1, 0, 0, 0), (317, .invokevirtual 39, 3, 176, 3, 9)]
noncomputable def cL0_20 : List MI := [(320, .pop, 1, 0, 0, 0), (321, .goto 932, 3, 0, 0, 0), (324, .aload_n 1, 1, 0, 0, 0), (325, .aload_n 0, 1, 0, 0, 0), (326, .iload_n 3, 1, 0, 0, 0), (327, .iconst 1, 1, 0, 0, 0), (328, .iadd, 1, 0, 0, 0), (329, .iaload, 1, 0, 0, 0), (330, .aload_n 0, 1, 0, 0, 0), (331, .iload_n 3, 1, 0, 0, 0), (332, .iconst 2, 1, 0, 0, 0), (333, .iadd, 1, 0, 0, 0), (334, .iaload, 1, 0, 0, 0), (335, .invokevirtual 40, 3, 64, 3, 0)]
noncomputable def cL0_21 : List MI := [(338, .pop, 1, 0, 0, 0), (339, .aload_n 2, 1, 0, 0, 0), (340, .aload_n 0, 1, 0, 0, 0), (341, .iload_n 3, 1, 0, 0, 0), (342, .iconst 1, 1, 0, 0, 0), (343, .iadd, 1, 0, 0, 0), (344, .iaload, 1, 0, 0, 0), (345, .aload_n 0, 1, 0, 0, 0), (346, .iload_n 3, 1, 0, 0, 0), (347, .iconst 2, 1, 0, 0, 0), (348, .iadd, 1, 0, 0, 0), (349, .iaload, 1, 0, 0, 0), (350, .invokevirtual 43, 3, 180, 3, 9)]
noncomputable def cL0_22 : List MI := [(353, .pop, 1, 0, 0, 0), (354, .goto 899, 3, 0, 0, 0), (357, .aload_n 1, 1, 0, 0, 0), (358, .aload_n 0, 1, 0, 0, 0), (359, .iload_n 3, 1, 0, 0, 0), (360, .iconst 1, 1, 0, 0, 0), (361, .iadd, 1, 0, 0, 0), (362, .iaload, 1, 0, 0, 0), (363, .invokevirtual 44, 3, 66, 2, 0), (366, .pop, 1, 0, 0, 0), (367, .aload_n 2, 1, 0, 0, 0)]
noncomputable def cL0_23 : List MI := [(368, .aload_n 0, 1, 0, 0, 0), (369, .iload_n 3, 1, 0, 0, 0), (370, .iconst 1, 1, 0, 0, 0), (371, .iadd, 1, 0, 0, 0), (372, .iaload, 1, 0, 0, 0), (373, .invokevirtual 47, 3, 182, 2, 9), (376, .pop, 1, 0, 0, 0), (377, .goto 876, 3, 0, 0, 0), (380, .aload_n 1, 1, 0, 0, 0), (381, .aload_n 0, 1, 0, 0, 0), (382, .iload_n 3, 1, 0, 0, 0), (383, .iconst 1, 1, 0, 0, 0)]
noncomputable def cL0_24 : List MI := [(384, .iadd, 1, 0, 0, 0), (385, .iaload, 1, 0, 0, 0), (386, .aload_n 0, 1, 0, 0, 0), (387, .iload_n 3, 1, 0, 0, 0), (388, .iconst 2, 1, 0, 0, 0), (389, .iadd, 1, 0, 0, 0), (390, .iaload, 1, 0, 0, 0), (391, .invokevirtual 48, 3, 67, 3, 0), (394, .pop, 1, 0, 0, 0), (395, .aload_n 2, 1, 0, 0, 0), (396, .aload_n 0, 1, 0, 0, 0), (397, .iload_n 3, 1, 0, 0, 0), (398, .iconst 1, 1, 0, 0, 0), (399, .iadd, 1, 0, 0, 0)]
noncomputable def cL0_25 : List MI := [(400, .iaload, 1, 0, 0, 0), (401, .aload_n 0, 1, 0, 0, 0), (402, .iload_n 3, 1, 0, 0, 0), (403, .iconst 2, 1, 0, 0, 0), (404, .iadd, 1, 0, 0, 0), (405, .iaload, 1, 0, 0, 0), (406, .invokevirtual 51, 3, 183, 3, 9), (409, .pop, 1, 0, 0, 0), (410, .goto 843, 3, 0, 0, 0), (413, .aload_n 1, 1, 0, 0, 0), (414, .aload_n 0, 1, 0, 0, 0), (415, .iload_n 3, 1, 0, 0, 0)]
noncomputable def cL0_26 : List MI := [(416, .iconst 1, 1, 0, 0, 0), (417, .iadd, 1, 0, 0, 0), (418, .iaload, 1, 0, 0, 0), (419, .aload_n 0, 1, 0, 0, 0), (420, .iload_n 3, 1, 0, 0, 0), (421, .iconst 2, 1, 0, 0, 0), (422, .iadd, 1, 0, 0, 0), (423, .iaload, 1, 0, 0, 0), (424, .invokevirtual 52, 3, 69, 3, 0), (427, .pop, 1, 0, 0, 0), (428, .aload_n 2, 1, 0, 0, 0), (429, .aload_n 0, 1, 0, 0, 0), (430, .iload_n 3, 1, 0, 0, 0), (431, .iconst 1, 1, 0, 0, 0)]
noncomputable def cL0_27 : List MI := [(432, .iadd, 1, 0, 0, 0), (433, .iaload, 1, 0, 0, 0), (434, .aload_n 0, 1, 0, 0, 0), (435, .iload_n 3, 1, 0, 0, 0), (436, .iconst 2, 1, 0, 0, 0), (437, .iadd, 1, 0, 0, 0), (438, .iaload, 1, 0, 0, 0), (439, .invokevirtual 55, 3, 185, 3, 9), (442, .pop, 1, 0, 0, 0), (443, .goto 810, 3, 0, 0, 0), (446, .aload_n 1, 1, 0, 0, 0), (447, .aload_n 0, 1, 0, 0, 0)]
noncomputable def cL0_28 : List MI := [(448, .iload_n 3, 1, 0, 0, 0), (449, .iconst 1, 1, 0, 0, 0), (450, .iadd, 1, 0, 0, 0), (451, .iaload, 1, 0, 0, 0), (452, .invokevirtual 56, 3, 75, 2, 0), (455, .pop, 1, 0, 0, 0), (456, .aload_n 2, 1, 0, 0, 0), (457, .aload_n 0, 1, 0, 0, 0), (458, .iload_n 3, 1, 0, 0, 0), (459, .iconst 1, 1, 0, 0, 0), (460, .iadd, 1, 0, 0, 0), (461, .iaload, 1, 0, 0, 0), (462, .invokevirtual 59, 3, 190, 2, 9)]
noncomputable def cL0_29 : List MI := [(465, .pop, 1, 0, 0, 0), (466, .goto 787, 3, 0, 0, 0), (469, .aload_n 1, 1, 0, 0, 0), (470, .aload_n 0, 1, 0, 0, 0), (471, .iload_n 3, 1, 0, 0, 0), (472, .iconst 1, 1, 0, 0, 0), (473, .iadd, 1, 0, 0, 0), (474, .iaload, 1, 0, 0, 0), (475, .invokevirtual 60, 3, 81, 2, 0), (478, .pop, 1, 0, 0, 0), (479, .aload_n 2, 1, 0, 0, 0)]
noncomputable def cL0_30 : List MI := [(480, .aload_n 0, 1, 0, 0, 0), (481, .iload_n 3, 1, 0, 0, 0), (482, .iconst 1, 1, 0, 0, 0), (483, .iadd, 1, 0, 0, 0), (484, .iaload, 1, 0, 0, 0), (485, .invokevirtual 63, 3, 194, 2, 9), (488, .pop, 1, 0, 0, 0), (489, .goto 764, 3, 0, 0, 0), (492, .aload_n 1, 1, 0, 0, 0), (493, .aload_n 0, 1, 0, 0, 0), (494, .iload_n 3, 1, 0, 0, 0), (495, .iconst 1, 1, 0, 0, 0)]
noncomputable def cL0_31 : List MI := [(496, .iadd, 1, 0, 0, 0), (497, .iaload, 1, 0, 0, 0), (498, .aload_n 0, 1, 0, 0, 0), (499, .iload_n 3, 1, 0, 0, 0), (500, .iconst 2, 1, 0, 0, 0), (501, .iadd, 1, 0, 0, 0), (502, .iaload, 1, 0, 0, 0), (503, .aload_n 0, 1, 0, 0, 0), (504, .iload_n 3, 1, 0, 0, 0), (505, .iconst 3, 1, 0, 0, 0), (506, .iadd, 1, 0, 0, 0), (507, .iaload, 1, 0, 0, 0), (508, .invokevirtual 64, 3, 82, 4, 0), (511, .pop, 1, 0, 0, 0)]
noncomputable def cL0_32 : List MI := [(512, .aload_n 2, 1, 0, 0, 0), (513, .aload_n 0, 1, 0, 0, 0), (514, .iload_n 3, 1, 0, 0, 0), (515, .iconst 1, 1, 0, 0, 0), (516, .iadd, 1, 0, 0, 0), (517, .iaload, 1, 0, 0, 0), (518, .aload_n 0, 1, 0, 0, 0), (519, .iload_n 3, 1, 0, 0, 0), (520, .iconst 2, 1, 0, 0, 0), (521, .iadd, 1, 0, 0, 0), (522, .iaload, 1, 0, 0, 0), (523, .aload_n 0, 1, 0, 0, 0), (524, .iload_n 3, 1, 0, 0, 0), (525, .iconst 3, 1, 0, 0, 0), (526, .iadd, 1, 0, 0, 0), (527, .iaload, 1, 0, 0, 0)]
noncomputable def cL0_33 : List MI := [(528, .invokevirtual 68, 3, 195, 4, 9), (531, .pop, 1, 0, 0, 0), (532, .goto 721, 3, 0, 0, 0), (535, .aload_n 1, 1, 0, 0, 0), (536, .aload_n 0, 1, 0, 0, 0), (537, .iload_n 3, 1, 0, 0, 0), (538, .iconst 1, 1, 0, 0, 0), (539, .iadd, 1, 0, 0, 0), (540, .iaload, 1, 0, 0, 0), (541, .aload_n 0, 1, 0, 0, 0), (542, .iload_n 3, 1, 0, 0, 0), (543, .iconst 2, 1, 0, 0, 0)]
noncomputable def cL0_34 : List MI := [(544, .iadd, 1, 0, 0, 0), (545, .iaload, 1, 0, 0, 0), (546, .aload_n 0, 1, 0, 0, 0), (547, .iload_n 3, 1, 0, 0, 0), (548, .iconst 3, 1, 0, 0, 0), (549, .iadd, 1, 0, 0, 0), (550, .iaload, 1, 0, 0, 0), (551, .ifCond .eq 7, 3, 0, 0, 0), (554, .iconst 1, 1, 0, 0, 0), (555, .goto 4, 3, 0, 0, 0), (558, .iconst 0, 1, 0, 0, 0), (559, .invokevirtual 69, 3, 83, 4, 0)]
noncomputable def cL0_35 : List MI := [(562, .pop, 1, 0, 0, 0), (563, .aload_n 2, 1, 0, 0, 0), (564, .aload_n 0, 1, 0, 0, 0), (565, .iload_n 3, 1, 0, 0, 0), (566, .iconst 1, 1, 0, 0, 0), (567, .iadd, 1, 0, 0, 0), (568, .iaload, 1, 0, 0, 0), (569, .aload_n 0, 1, 0, 0, 0), (570, .iload_n 3, 1, 0, 0, 0), (571, .iconst 2, 1, 0, 0, 0), (572, .iadd, 1, 0, 0, 0), (573, .iaload, 1, 0, 0, 0), (574, .aload_n 0, 1, 0, 0, 0), (575, .iload_n 3, 1, 0, 0, 0)]
noncomputable def cL0_36 : List MI := [(576, .iconst 3, 1, 0, 0, 0), (577, .iadd, 1, 0, 0, 0), (578, .iaload, 1, 0, 0, 0), (579, .ifCond .eq 7, 3, 0, 0, 0), (582, .iconst 1, 1, 0, 0, 0), (583, .goto 4, 3, 0, 0, 0), (586, .iconst 0, 1, 0, 0, 0), (587, .invokevirtual 73, 3, 198, 4, 9), (590, .pop, 1, 0, 0, 0), (591, .goto 662, 3, 0, 0, 0)]
noncomputable def cL0_37 : List MI := [(594, .aload_n 1, 1, 0, 0, 0), (595, .aload_n 0, 1, 0, 0, 0), (596, .iload_n 3, 1, 0, 0, 0), (597, .iconst 1, 1, 0, 0, 0), (598, .iadd, 1, 0, 0, 0), (599, .iaload, 1, 0, 0, 0), (600, .invokevirtual 74, 3, 84, 2, 0), (603, .pop, 1, 0, 0, 0), (604, .aload_n 2, 1, 0, 0, 0), (605, .aload_n 0, 1, 0, 0, 0), (606, .iload_n 3, 1, 0, 0, 0), (607, .iconst 1, 1, 0, 0, 0)]
noncomputable def cL0_38 : List MI := [(608, .iadd, 1, 0, 0, 0), (609, .iaload, 1, 0, 0, 0), (610, .invokevirtual 77, 3, 199, 2, 9), (613, .pop, 1, 0, 0, 0), (614, .goto 639, 3, 0, 0, 0), (617, .aload_n 1, 1, 0, 0, 0), (618, .aload_n 0, 1, 0, 0, 0), (619, .iload_n 3, 1, 0, 0, 0), (620, .iconst 1, 1, 0, 0, 0), (621, .iadd, 1, 0, 0, 0), (622, .iaload, 1, 0, 0, 0), (623, .invokevirtual 78, 3, 85, 2, 0)]
noncomputable def cL0_39 : List MI := [(626, .pop, 1, 0, 0, 0), (627, .aload_n 2, 1, 0, 0, 0), (628, .aload_n 0, 1, 0, 0, 0), (629, .iload_n 3, 1, 0, 0, 0), (630, .iconst 1, 1, 0, 0, 0), (631, .iadd, 1, 0, 0, 0), (632, .iaload, 1, 0, 0, 0), (633, .invokevirtual 81, 3, 201, 2, 9), (636, .pop, 1, 0, 0, 0), (637, .goto 616, 3, 0, 0, 0)]
noncomputable def cL0_40 : List MI := [(640, .aload_n 1, 1, 0, 0, 0), (641, .aload_n 0, 1, 0, 0, 0), (642, .iload_n 3, 1, 0, 0, 0), (643, .iconst 1, 1, 0, 0, 0), (644, .iadd, 1, 0, 0, 0), (645, .iaload, 1, 0, 0, 0), (646, .invokevirtual 82, 3, 86, 2, 0), (649, .pop, 1, 0, 0, 0), (650, .aload_n 2, 1, 0, 0, 0), (651, .aload_n 0, 1, 0, 0, 0), (652, .iload_n 3, 1, 0, 0, 0), (653, .iconst 1, 1, 0, 0, 0), (654, .iadd, 1, 0, 0, 0), (655, .iaload, 1, 0, 0, 0)]
noncomputable def cL0_41 : List MI := [(656, .invokevirtual 85, 3, 202, 2, 9), (659, .pop, 1, 0, 0, 0), (660, .goto 593, 3, 0, 0, 0), (663, .aload_n 1, 1, 0, 0, 0), (664, .aload_n 0, 1, 0, 0, 0), (665, .iload_n 3, 1, 0, 0, 0), (666, .iconst 1, 1, 0, 0, 0), (667, .iadd, 1, 0, 0, 0), (668, .iaload, 1, 0, 0, 0), (669, .invokevirtual 86, 3, 93, 2, 0)]
noncomputable def cL0_42 : List MI := [(672, .pop, 1, 0, 0, 0), (673, .aload_n 2, 1, 0, 0, 0), (674, .aload_n 0, 1, 0, 0, 0), (675, .iload_n 3, 1, 0, 0, 0), (676, .iconst 1, 1, 0, 0, 0), (677, .iadd, 1, 0, 0, 0), (678, .iaload, 1, 0, 0, 0), (679, .invokevirtual 89, 3, 204, 2, 9), (682, .pop, 1, 0, 0, 0), (683, .goto 570, 3, 0, 0, 0), (686, .aload_n 1, 1, 0, 0, 0), (687, .aload_n 0, 1, 0, 0, 0)]
noncomputable def cL0_43 : List MI := [(688, .iload_n 3, 1, 0, 0, 0), (689, .iconst 1, 1, 0, 0, 0), (690, .iadd, 1, 0, 0, 0), (691, .iaload, 1, 0, 0, 0), (692, .invokevirtual 90, 3, 94, 2, 0), (695, .pop, 1, 0, 0, 0), (696, .aload_n 2, 1, 0, 0, 0), (697, .aload_n 0, 1, 0, 0, 0), (698, .iload_n 3, 1, 0, 0, 0), (699, .iconst 1, 1, 0, 0, 0), (700, .iadd, 1, 0, 0, 0), (701, .iaload, 1, 0, 0, 0), (702, .invokevirtual 93, 3, 206, 2, 9)]
noncomputable def cL0_44 : List MI := [(705, .pop, 1, 0, 0, 0), (706, .goto 547, 3, 0, 0, 0), (709, .aload_n 1, 1, 0, 0, 0), (710, .aload_n 0, 1, 0, 0, 0), (711, .iload_n 3, 1, 0, 0, 0), (712, .iconst 1, 1, 0, 0, 0), (713, .iadd, 1, 0, 0, 0), (714, .iaload, 1, 0, 0, 0), (715, .aload_n 0, 1, 0, 0, 0), (716, .iload_n 3, 1, 0, 0, 0), (717, .iconst 2, 1, 0, 0, 0), (718, .iadd, 1, 0, 0, 0), (719, .iaload, 1, 0, 0, 0)]
noncomputable def cL0_45 : List MI := [(720, .invokevirtual 94, 3, 95, 3, 0), (723, .pop, 1, 0, 0, 0), (724, .aload_n 2, 1, 0, 0, 0), (725, .aload_n 0, 1, 0, 0, 0), (726, .iload_n 3, 1, 0, 0, 0), (727, .iconst 1, 1, 0, 0, 0), (728, .iadd, 1, 0, 0, 0), (729, .iaload, 1, 0, 0, 0), (730, .aload_n 0, 1, 0, 0, 0), (731, .iload_n 3, 1, 0, 0, 0), (732, .iconst 2, 1, 0, 0, 0), (733, .iadd, 1, 0, 0, 0), (734, .iaload, 1, 0, 0, 0), (735, .invokevirtual 97, 3, 207, 3, 9)]
noncomputable def cL0_46 : List MI := [(738, .pop, 1, 0, 0, 0), (739, .goto 514, 3, 0, 0, 0), (742, .aload_n 1, 1, 0, 0, 0), (743, .aload_n 0, 1, 0, 0, 0), (744, .iload_n 3, 1, 0, 0, 0), (745, .iconst 1, 1, 0, 0, 0), (746, .iadd, 1, 0, 0, 0), (747, .iaload, 1, 0, 0, 0), (748, .invokevirtual 98, 3, 107, 2, 0), (751, .pop, 1, 0, 0, 0)]
noncomputable def cL0_47 : List MI := [(752, .aload_n 2, 1, 0, 0, 0), (753, .aload_n 0, 1, 0, 0, 0), (754, .iload_n 3, 1, 0, 0, 0), (755, .iconst 1, 1, 0, 0, 0), (756, .iadd, 1, 0, 0, 0), (757, .iaload, 1, 0, 0, 0), (758, .invokevirtual 101, 3, 215, 2, 9), (761, .pop, 1, 0, 0, 0), (762, .goto 491, 3, 0, 0, 0), (765, .aload_n 1, 1, 0, 0, 0), (766, .aload_n 0, 1, 0, 0, 0), (767, .iload_n 3, 1, 0, 0, 0)]
noncomputable def cL0_48 : List MI := [(768, .iconst 1, 1, 0, 0, 0), (769, .iadd, 1, 0, 0, 0), (770, .iaload, 1, 0, 0, 0), (771, .invokevirtual 102, 3, 109, 2, 0), (774, .pop, 1, 0, 0, 0), (775, .aload_n 2, 1, 0, 0, 0), (776, .aload_n 0, 1, 0, 0, 0), (777, .iload_n 3, 1, 0, 0, 0), (778, .iconst 1, 1, 0, 0, 0), (779, .iadd, 1, 0, 0, 0), (780, .iaload, 1, 0, 0, 0), (781, .invokevirtual 105, 3, 216, 2, 9)]
noncomputable def cL0_49 : List MI := [(784, .pop, 1, 0, 0, 0), (785, .goto 468, 3, 0, 0, 0), (788, .aload_n 1, 1, 0, 0, 0), (789, .aload_n 0, 1, 0, 0, 0), (790, .iload_n 3, 1, 0, 0, 0), (791, .iconst 1, 1, 0, 0, 0), (792, .iadd, 1, 0, 0, 0), (793, .iaload, 1, 0, 0, 0), (794, .aload_n 0, 1, 0, 0, 0), (795, .iload_n 3, 1, 0, 0, 0), (796, .iconst 2, 1, 0, 0, 0), (797, .iadd, 1, 0, 0, 0), (798, .iaload, 1, 0, 0, 0), (799, .aload_n 0, 1, 0, 0, 0)]
noncomputable def cL0_50 : List MI := [(800, .iload_n 3, 1, 0, 0, 0), (801, .iconst 3, 1, 0, 0, 0), (802, .iadd, 1, 0, 0, 0), (803, .iaload, 1, 0, 0, 0), (804, .invokevirtual 106, 3, 111, 4, 0), (807, .pop, 1, 0, 0, 0), (808, .aload_n 2, 1, 0, 0, 0), (809, .aload_n 0, 1, 0, 0, 0), (810, .iload_n 3, 1, 0, 0, 0), (811, .iconst 1, 1, 0, 0, 0), (812, .iadd, 1, 0, 0, 0), (813, .iaload, 1, 0, 0, 0), (814, .aload_n 0, 1, 0, 0, 0), (815, .iload_n 3, 1, 0, 0, 0)]
noncomputable def cL0_51 : List MI := [(816, .iconst 2, 1, 0, 0, 0), (817, .iadd, 1, 0, 0, 0), (818, .iaload, 1, 0, 0, 0), (819, .aload_n 0, 1, 0, 0, 0), (820, .iload_n 3, 1, 0, 0, 0), (821, .iconst 3, 1, 0, 0, 0), (822, .iadd, 1, 0, 0, 0), (823, .iaload, 1, 0, 0, 0), (824, .invokevirtual 109, 3, 217, 4, 9), (827, .pop, 1, 0, 0, 0), (828, .goto 425, 3, 0, 0, 0), (831, .aload_n 1, 1, 0, 0, 0)]
noncomputable def cL0_52 : List MI := [(832, .aload_n 0, 1, 0, 0, 0), (833, .iload_n 3, 1, 0, 0, 0), (834, .iconst 1, 1, 0, 0, 0), (835, .iadd, 1, 0, 0, 0), (836, .iaload, 1, 0, 0, 0), (837, .invokevirtual 110, 3, 113, 2, 0), (840, .pop, 1, 0, 0, 0), (841, .aload_n 2, 1, 0, 0, 0), (842, .aload_n 0, 1, 0, 0, 0), (843, .iload_n 3, 1, 0, 0, 0), (844, .iconst 1, 1, 0, 0, 0), (845, .iadd, 1, 0, 0, 0), (846, .iaload, 1, 0, 0, 0), (847, .invokevirtual 113, 3, 218, 2, 9)]
noncomputable def cL0_53 : List MI := [(850, .pop, 1, 0, 0, 0), (851, .goto 402, 3, 0, 0, 0), (854, .aload_n 1, 1, 0, 0, 0), (855, .aload_n 0, 1, 0, 0, 0), (856, .iload_n 3, 1, 0, 0, 0), (857, .iconst 1, 1, 0, 0, 0), (858, .iadd, 1, 0, 0, 0), (859, .iaload, 1, 0, 0, 0), (860, .invokevirtual 114, 3, 114, 2, 0), (863, .pop, 1, 0, 0, 0)]
noncomputable def cL0_54 : List MI := [(864, .aload_n 2, 1, 0, 0, 0), (865, .aload_n 0, 1, 0, 0, 0), (866, .iload_n 3, 1, 0, 0, 0), (867, .iconst 1, 1, 0, 0, 0), (868, .iadd, 1, 0, 0, 0), (869, .iaload, 1, 0, 0, 0), (870, .invokevirtual 117, 3, 219, 2, 9), (873, .pop, 1, 0, 0, 0), (874, .goto 379, 3, 0, 0, 0), (877, .aload_n 1, 1, 0, 0, 0), (878, .invokevirtual 118, 3, 117, 1, 0)]
noncomputable def cL0_55 : List MI := [(881, .pop, 1, 0, 0, 0), (882, .aload_n 2, 1, 0, 0, 0), (883, .invokevirtual 121, 3, 221, 1, 9), (886, .pop, 1, 0, 0, 0), (887, .goto 366, 3, 0, 0, 0), (890, .aload_n 1, 1, 0, 0, 0), (891, .aload_n 0, 1, 0, 0, 0), (892, .iload_n 3, 1, 0, 0, 0), (893, .iconst 1, 1, 0, 0, 0), (894, .iadd, 1, 0, 0, 0), (895, .iaload, 1, 0, 0, 0)]
noncomputable def cL0_56 : List MI := [(896, .invokevirtual 122, 3, 118, 2, 0), (899, .pop, 1, 0, 0, 0), (900, .aload_n 2, 1, 0, 0, 0), (901, .aload_n 0, 1, 0, 0, 0), (902, .iload_n 3, 1, 0, 0, 0), (903, .iconst 1, 1, 0, 0, 0), (904, .iadd, 1, 0, 0, 0), (905, .iaload, 1, 0, 0, 0), (906, .invokevirtual 125, 3, 222, 2, 9), (909, .pop, 1, 0, 0, 0), (910, .goto 343, 3, 0, 0, 0)]
noncomputable def cL0_57 : List MI := [(913, .aload_n 1, 1, 0, 0, 0), (914, .aload_n 0, 1, 0, 0, 0), (915, .iload_n 3, 1, 0, 0, 0), (916, .iconst 1, 1, 0, 0, 0), (917, .iadd, 1, 0, 0, 0), (918, .iaload, 1, 0, 0, 0), (919, .aload_n 0, 1, 0, 0, 0), (920, .iload_n 3, 1, 0, 0, 0), (921, .iconst 2, 1, 0, 0, 0), (922, .iadd, 1, 0, 0, 0), (923, .iaload, 1, 0, 0, 0), (924, .aload_n 0, 1, 0, 0, 0), (925, .iload_n 3, 1, 0, 0, 0), (926, .iconst 3, 1, 0, 0, 0), (927, .iadd, 1, 0, 0, 0)]
noncomputable def cL0_58 : List MI := [(928, .iaload, 1, 0, 0, 0), (929, .invokevirtual 126, 3, 121, 4, 0), (932, .pop2, 1, 0, 0, 0), (933, .aload_n 2, 1, 0, 0, 0), (934, .aload_n 0, 1, 0, 0, 0), (935, .iload_n 3, 1, 0, 0, 0), (936, .iconst 1, 1, 0, 0, 0), (937, .iadd, 1, 0, 0, 0), (938, .iaload, 1, 0, 0, 0), (939, .aload_n 0, 1, 0, 0, 0), (940, .iload_n 3, 1, 0, 0, 0), (941, .iconst 2, 1, 0, 0, 0), (942, .iadd, 1, 0, 0, 0), (943, .iaload, 1, 0, 0, 0)]
noncomputable def cL0_59 : List MI := [(944, .aload_n 0, 1, 0, 0, 0), (945, .iload_n 3, 1, 0, 0, 0), (946, .iconst 3, 1, 0, 0, 0), (947, .iadd, 1, 0, 0, 0), (948, .iaload, 1, 0, 0, 0), (949, .invokevirtual 130, 3, 224, 4, 9), (952, .pop2, 1, 0, 0, 0), (953, .goto 300, 3, 0, 0, 0), (956, .aload_n 1, 1, 0, 0, 0), (957, .aload_n 0, 1, 0, 0, 0), (958, .iload_n 3, 1, 0, 0, 0), (959, .iconst 1, 1, 0, 0, 0)]
noncomputable def cL0_60 : List MI := [(960, .iadd, 1, 0, 0, 0), (961, .iaload, 1, 0, 0, 0), (962, .aload_n 0, 1, 0, 0, 0), (963, .iload_n 3, 1, 0, 0, 0), (964, .iconst 2, 1, 0, 0, 0), (965, .iadd, 1, 0, 0, 0), (966, .iaload, 1, 0, 0, 0), (967, .invokevirtual 131, 3, 127, 3, 0), (970, .pop2, 1, 0, 0, 0), (971, .aload_n 2, 1, 0, 0, 0), (972, .aload_n 0, 1, 0, 0, 0), (973, .iload_n 3, 1, 0, 0, 0), (974, .iconst 1, 1, 0, 0, 0), (975, .iadd, 1, 0, 0, 0)]
noncomputable def cL0_61 : List MI := [(976, .iaload, 1, 0, 0, 0), (977, .aload_n 0, 1, 0, 0, 0), (978, .iload_n 3, 1, 0, 0, 0), (979, .iconst 2, 1, 0, 0, 0), (980, .iadd, 1, 0, 0, 0), (981, .iaload, 1, 0, 0, 0), (982, .invokevirtual 135, 3, 228, 3, 9), (985, .pop2, 1, 0, 0, 0), (986, .goto 267, 3, 0, 0, 0), (989, .aload_n 1, 1, 0, 0, 0), (990, .aload_n 0, 1, 0, 0, 0), (991, .iload_n 3, 1, 0, 0, 0)]
noncomputable def cL0_62 : List MI := [(992, .iconst 1, 1, 0, 0, 0), (993, .iadd, 1, 0, 0, 0), (994, .iaload, 1, 0, 0, 0), (995, .aload_n 0, 1, 0, 0, 0), (996, .iload_n 3, 1, 0, 0, 0), (997, .iconst 2, 1, 0, 0, 0), (998, .iadd, 1, 0, 0, 0), (999, .iaload, 1, 0, 0, 0), (1000, .aload_n 0, 1, 0, 0, 0), (1001, .iload_n 3, 1, 0, 0, 0), (1002, .iconst 3, 1, 0, 0, 0), (1003, .iadd, 1, 0, 0, 0), (1004, .iaload, 1, 0, 0, 0), (1005, .invokevirtual 136, 3, 128, 4, 0)]
noncomputable def cL0_63 : List MI := [(1008, .pop, 1, 0, 0, 0), (1009, .aload_n 2, 1, 0, 0, 0), (1010, .aload_n 0, 1, 0, 0, 0), (1011, .iload_n 3, 1, 0, 0, 0), (1012, .iconst 1, 1, 0, 0, 0), (1013, .iadd, 1, 0, 0, 0), (1014, .iaload, 1, 0, 0, 0), (1015, .aload_n 0, 1, 0, 0, 0), (1016, .iload_n 3, 1, 0, 0, 0), (1017, .iconst 2, 1, 0, 0, 0), (1018, .iadd, 1, 0, 0, 0), (1019, .iaload, 1, 0, 0, 0), (1020, .aload_n 0, 1, 0, 0, 0), (1021, .iload_n 3, 1, 0, 0, 0), (1022, .iconst 3, 1, 0, 0, 0), (1023, .iadd, 1, 0, 0, 0)]
noncomputable def cL0_64 : List MI := [(1024, .iaload, 1, 0, 0, 0), (1025, .invokevirtual 139, 3, 229, 4, 9), (1028, .pop, 1, 0, 0, 0), (1029, .goto 224, 3, 0, 0, 0), (1032, .aload_n 1, 1, 0, 0, 0), (1033, .aload_n 0, 1, 0, 0, 0), (1034, .iload_n 3, 1, 0, 0, 0), (1035, .iconst 1, 1, 0, 0, 0), (1036, .iadd, 1, 0, 0, 0), (1037, .iaload, 1, 0, 0, 0), (1038, .invokevirtual 140, 3, 130, 2, 0)]
noncomputable def cL0_65 : List MI := [(1041, .pop, 1, 0, 0, 0), (1042, .aload_n 2, 1, 0, 0, 0), (1043, .aload_n 0, 1, 0, 0, 0), (1044, .iload_n 3, 1, 0, 0, 0), (1045, .iconst 1, 1, 0, 0, 0), (1046, .iadd, 1, 0, 0, 0), (1047, .iaload, 1, 0, 0, 0), (1048, .invokevirtual 143, 3, 230, 2, 9), (1051, .pop, 1, 0, 0, 0), (1052, .goto 201, 3, 0, 0, 0), (1055, .aload_n 1, 1, 0, 0, 0)]
noncomputable def cL0_66 : List MI := [(1056, .aload_n 0, 1, 0, 0, 0), (1057, .iload_n 3, 1, 0, 0, 0), (1058, .iconst 1, 1, 0, 0, 0), (1059, .iadd, 1, 0, 0, 0), (1060, .iaload, 1, 0, 0, 0), (1061, .invokevirtual 144, 3, 131, 2, 0), (1064, .pop, 1, 0, 0, 0), (1065, .aload_n 2, 1, 0, 0, 0), (1066, .aload_n 0, 1, 0, 0, 0), (1067, .iload_n 3, 1, 0, 0, 0), (1068, .iconst 1, 1, 0, 0, 0), (1069, .iadd, 1, 0, 0, 0), (1070, .iaload, 1, 0, 0, 0), (1071, .invokevirtual 147, 3, 232, 2, 9)]
noncomputable def cL0_67 : List MI := [(1074, .pop, 1, 0, 0, 0), (1075, .goto 178, 3, 0, 0, 0), (1078, .aload_n 1, 1, 0, 0, 0), (1079, .aload_n 0, 1, 0, 0, 0), (1080, .iload_n 3, 1, 0, 0, 0), (1081, .iconst 1, 1, 0, 0, 0), (1082, .iadd, 1, 0, 0, 0), (1083, .iaload, 1, 0, 0, 0), (1084, .aload_n 0, 1, 0, 0, 0), (1085, .iload_n 3, 1, 0, 0, 0), (1086, .iconst 2, 1, 0, 0, 0), (1087, .iadd, 1, 0, 0, 0)]
noncomputable def cL0_68 : List MI := [(1088, .iaload, 1, 0, 0, 0), (1089, .aload_n 0, 1, 0, 0, 0), (1090, .iload_n 3, 1, 0, 0, 0), (1091, .iconst 3, 1, 0, 0, 0), (1092, .iadd, 1, 0, 0, 0), (1093, .iaload, 1, 0, 0, 0), (1094, .invokevirtual 148, 3, 132, 4, 0), (1097, .pop, 1, 0, 0, 0), (1098, .aload_n 2, 1, 0, 0, 0), (1099, .aload_n 0, 1, 0, 0, 0), (1100, .iload_n 3, 1, 0, 0, 0), (1101, .iconst 1, 1, 0, 0, 0), (1102, .iadd, 1, 0, 0, 0), (1103, .iaload, 1, 0, 0, 0)]
noncomputable def cL0_69 : List MI := [(1104, .aload_n 0, 1, 0, 0, 0), (1105, .iload_n 3, 1, 0, 0, 0), (1106, .iconst 2, 1, 0, 0, 0), (1107, .iadd, 1, 0, 0, 0), (1108, .iaload, 1, 0, 0, 0), (1109, .aload_n 0, 1, 0, 0, 0), (1110, .iload_n 3, 1, 0, 0, 0), (1111, .iconst 3, 1, 0, 0, 0), (1112, .iadd, 1, 0, 0, 0), (1113, .iaload, 1, 0, 0, 0), (1114, .invokevirtual 151, 3, 233, 4, 9), (1117, .pop, 1, 0, 0, 0), (1118, .goto 135, 3, 0, 0, 0)]
noncomputable def cL0_70 : List MI := [(1121, .aload_n 1, 1, 0, 0, 0), (1122, .aload_n 0, 1, 0, 0, 0), (1123, .iload_n 3, 1, 0, 0, 0), (1124, .iconst 1, 1, 0, 0, 0), (1125, .iadd, 1, 0, 0, 0), (1126, .iaload, 1, 0, 0, 0), (1127, .aload_n 0, 1, 0, 0, 0), (1128, .iload_n 3, 1, 0, 0, 0), (1129, .iconst 2, 1, 0, 0, 0), (1130, .iadd, 1, 0, 0, 0), (1131, .iaload, 1, 0, 0, 0), (1132, .aload_n 0, 1, 0, 0, 0), (1133, .iload_n 3, 1, 0, 0, 0), (1134, .iconst 3, 1, 0, 0, 0), (1135, .iadd, 1, 0, 0, 0)]
noncomputable def cL0_71 : List MI := [(1136, .iaload, 1, 0, 0, 0), (1137, .invokevirtual 152, 3, 136, 4, 0), (1140, .pop, 1, 0, 0, 0), (1141, .aload_n 2, 1, 0, 0, 0), (1142, .aload_n 0, 1, 0, 0, 0), (1143, .iload_n 3, 1, 0, 0, 0), (1144, .iconst 1, 1, 0, 0, 0), (1145, .iadd, 1, 0, 0, 0), (1146, .iaload, 1, 0, 0, 0), (1147, .aload_n 0, 1, 0, 0, 0), (1148, .iload_n 3, 1, 0, 0, 0), (1149, .iconst 2, 1, 0, 0, 0), (1150, .iadd, 1, 0, 0, 0), (1151, .iaload, 1, 0, 0, 0)]
noncomputable def cL0_72 : List MI := [(1152, .aload_n 0, 1, 0, 0, 0), (1153, .iload_n 3, 1, 0, 0, 0), (1154, .iconst 3, 1, 0, 0, 0), (1155, .iadd, 1, 0, 0, 0), (1156, .iaload, 1, 0, 0, 0), (1157, .invokevirtual 155, 3, 235, 4, 9), (1160, .pop, 1, 0, 0, 0), (1161, .goto 92, 3, 0, 0, 0), (1164, .aload_n 1, 1, 0, 0, 0), (1165, .aload_n 0, 1, 0, 0, 0), (1166, .iload_n 3, 1, 0, 0, 0), (1167, .iconst 1, 1, 0, 0, 0)]
noncomputable def cL0_73 : List MI := [(1168, .iadd, 1, 0, 0, 0), (1169, .iaload, 1, 0, 0, 0), (1170, .aload_n 0, 1, 0, 0, 0), (1171, .iload_n 3, 1, 0, 0, 0), (1172, .iconst 2, 1, 0, 0, 0), (1173, .iadd, 1, 0, 0, 0), (1174, .iaload, 1, 0, 0, 0), (1175, .aload_n 0, 1, 0, 0, 0), (1176, .iload_n 3, 1, 0, 0, 0), (1177, .iconst 3, 1, 0, 0, 0), (1178, .iadd, 1, 0, 0, 0), (1179, .iaload, 1, 0, 0, 0), (1180, .aload_n 0, 1, 0, 0, 0), (1181, .iload_n 3, 1, 0, 0, 0), (1182, .iconst 4, 1, 0, 0, 0), (1183, .iadd, 1, 0, 0, 0)]
noncomputable def cL0_74 : List MI := [(1184, .iaload, 1, 0, 0, 0), (1185, .invokevirtual 156, 3, 139, 5, 0), (1188, .pop, 1, 0, 0, 0), (1189, .aload_n 2, 1, 0, 0, 0), (1190, .aload_n 0, 1, 0, 0, 0), (1191, .iload_n 3, 1, 0, 0, 0), (1192, .iconst 1, 1, 0, 0, 0), (1193, .iadd, 1, 0, 0, 0), (1194, .iaload, 1, 0, 0, 0), (1195, .aload_n 0, 1, 0, 0, 0), (1196, .iload_n 3, 1, 0, 0, 0), (1197, .iconst 2, 1, 0, 0, 0), (1198, .iadd, 1, 0, 0, 0), (1199, .iaload, 1, 0, 0, 0)]
noncomputable def cL0_75 : List MI := [(1200, .aload_n 0, 1, 0, 0, 0), (1201, .iload_n 3, 1, 0, 0, 0), (1202, .iconst 3, 1, 0, 0, 0), (1203, .iadd, 1, 0, 0, 0), (1204, .iaload, 1, 0, 0, 0), (1205, .aload_n 0, 1, 0, 0, 0), (1206, .iload_n 3, 1, 0, 0, 0), (1207, .iconst 4, 1, 0, 0, 0), (1208, .iadd, 1, 0, 0, 0), (1209, .iaload, 1, 0, 0, 0), (1210, .invokevirtual 160, 3, 236, 5, 9), (1213, .pop, 1, 0, 0, 0), (1214, .goto 39, 3, 0, 0, 0)]
noncomputable def cL0_76 : List MI := [(1217, .aload_n 1, 1, 0, 0, 0), (1218, .invokevirtual 161, 3, 142, 1, 0), (1221, .pop, 1, 0, 0, 0), (1222, .aload_n 2, 1, 0, 0, 0), (1223, .invokevirtual 164, 3, 237, 1, 9), (1226, .pop, 1, 0, 0, 0), (1227, .goto 26, 3, 0, 0, 0), (1230, .aload_n 1, 1, 0, 0, 0), (1231, .aload_n 0, 1, 0, 0, 0)]
noncomputable def cL0_77 : List MI := [(1232, .iload_n 3, 1, 0, 0, 0), (1233, .iconst 1, 1, 0, 0, 0), (1234, .iadd, 1, 0, 0, 0), (1235, .iaload, 1, 0, 0, 0), (1236, .invokevirtual 165, 3, 143, 2, 0), (1239, .aload_n 2, 1, 0, 0, 0), (1240, .aload_n 0, 1, 0, 0, 0), (1241, .iload_n 3, 1, 0, 0, 0), (1242, .iconst 1, 1, 0, 0, 0), (1243, .iadd, 1, 0, 0, 0), (1244, .iaload, 1, 0, 0, 0), (1245, .invokevirtual 168, 3, 238, 2, 9)]
noncomputable def cL0_78 : List MI := [(1248, .if_icmp .eq 5, 3, 0, 0, 0), (1251, .iconst 0, 1, 0, 0, 0), (1252, .ireturn, 1, 0, 0, 0), (1253, .iinc 3 5, 3, 0, 0, 0), (1256, .goto (-1238), 3, 0, 0, 0), (1259, .iconst 1, 1, 0, 0, 0), (1260, .ireturn, 1, 0, 0, 0)]
noncomputable def cG0_0 : List MI := cL0_0 ++ ( cL0_1 ++ ( cL0_2 ++ ( cL0_3 ++ ( cL0_4 ++ ( cL0_5 ++ ( cL0_6 ++ ( cL0_7 ++ ([]))))))))
noncomputable def cG0_1 : List MI := cL0_8 ++ ( cL0_9 ++ ( cL0_10 ++ ( cL0_11 ++ ( cL0_12 ++ ( cL0_13 ++ ( cL0_14 ++ ( cL0_15 ++ ([]))))))))
noncomputable def cG0_2 : List MI := cL0_16 ++ ( cL0_17 ++ ( cL0_18 ++ ( cL0_19 ++ ( cL0_20 ++ ( cL0_21 ++ ( cL0_22 ++ ( cL0_23 ++ ([]))))))))
noncomputable def cG0_3 : List MI := cL0_24 ++ ( cL0_25 ++ ( cL0_26 ++ ( cL0_27 ++ ( cL0_28 ++ ( cL0_29 ++ ( cL0_30 ++ ( cL0_31 ++ ([]))))))))
noncomputable def cG0_4 : List MI := cL0_32 ++ ( cL0_33 ++ ( cL0_34 ++ ( cL0_35 ++ ( cL0_36 ++ ( cL0_37 ++ ( cL0_38 ++ ( cL0_39 ++ ([]))))))))
noncomputable def cG0_5 : List MI := cL0_40 ++ ( cL0_41 ++ ( cL0_42 ++ ( cL0_43 ++ ( cL0_44 ++ ( cL0_45 ++ ( cL0_46 ++ ( cL0_47 ++ ([]))))))))
noncomputable def cG0_6 : List MI := cL0_48 ++ ( cL0_49 ++ ( cL0_50 ++ ( cL0_51 ++ ( cL0_52 ++ ( cL0_53 ++ ( cL0_54 ++ ( cL0_55 ++ ([]))))))))
noncomputable def cG0_7 : List MI := cL0_56 ++ ( cL0_57 ++ ( cL0_58 ++ ( cL0_59 ++ ( cL0_60 ++ ( cL0_61 ++ ( cL0_62 ++ ( cL0_63 ++ ([]))))))))
noncomputable def cG0_8 : List MI := cL0_64 ++ ( cL0_65 ++ ( cL0_66 ++ ( cL0_67 ++ ( cL0_68 ++ ( cL0_69 ++ ( cL0_70 ++ ( cL0_71 ++ ([]))))))))
noncomputable def cG0_9 : List MI := cL0_72 ++ ( cL0_73 ++ ( cL0_74 ++ ( cL0_75 ++ ( cL0_76 ++ ( cL0_77 ++ ( cL0_78 ++ ([])))))))
noncomputable def cL0 : List MI := cG0_0 ++ ( cG0_1 ++ ( cG0_2 ++ ( cG0_3 ++ ( cG0_4 ++ ( cG0_5 ++ ( cG0_6 ++ ( cG0_7 ++ ( cG0_8 ++ ( cG0_9 ++ ([]))))))))))
/-- DoorPaints.<init>()V -/
noncomputable def cL1_0 : List MI := [(0, .aload_n 0, 1, 0, 0, 0), (1, .invokespecial 1, 3, 9999, 1, 0), (4, .aload_n 0, 1, 0, 0, 0), (5, .new 7, 3, 1, 0, 0), (8, .dup, 1, 0, 0, 0), (9, .invokespecial 9, 3, 2, 1, 0), (12, .putfield 10, 3, 0, 0, 0), (15, .aload_n 0, 1, 0, 0, 0)]
noncomputable def cL1_1 : List MI := [(16, .aload_n 0, 1, 0, 0, 0), (17, .getfield 10, 3, 0, 0, 0), (20, .getfield 16, 3, 1, 1, 0), (23, .putfield 20, 3, 0, 1, 0), (26, .aload_n 0, 1, 0, 0, 0), (27, .new 23, 3, 2, 0, 0), (30, .dup, 1, 0, 0, 0), (31, .invokespecial 25, 3, 3, 1, 0)]
noncomputable def cL1_2 : List MI := [(34, .putfield 26, 3, 0, 2, 0), (37, .aload_n 0, 1, 0, 0, 0), (38, .iconst 2, 1, 0, 0, 0), (39, .anewarray 23, 3, 5, 0, 0), (42, .putfield 30, 3, 0, 3, 0), (45, .iconst 0, 1, 0, 0, 0), (46, .istore_n 1, 1, 0, 0, 0), (47, .iload_n 1, 1, 0, 0, 0)]
noncomputable def cL1_3 : List MI := [(48, .iconst 2, 1, 0, 0, 0), (49, .if_icmp .ge 22, 3, 0, 0, 0), (52, .aload_n 0, 1, 0, 0, 0), (53, .getfield 30, 3, 0, 3, 0), (56, .iload_n 1, 1, 0, 0, 0), (57, .new 23, 3, 2, 0, 0), (60, .dup, 1, 0, 0, 0), (61, .invokespecial 25, 3, 3, 1, 0)]
noncomputable def cL1_4 : List MI := [(64, .aastore, 1, 2, 5, 0), (65, .iinc 1 1, 3, 0, 0, 0), (68, .goto (-21), 3, 0, 0, 0), (71, .aload_n 0, 1, 0, 0, 0), (72, .iconst 2, 1, 0, 0, 0), (73, .newarray .boolean, 2, 1, 0, 0), (75, .putfield 34, 3, 0, 4, 0), (78, .aload_n 0, 1, 0, 0, 0), (79, .new 38, 3, 3, 0, 0)]
noncomputable def cL1_5 : List MI := [(82, .dup, 1, 0, 0, 0), (83, .invokespecial 40, 3, 4, 1, 0), (86, .putfield 41, 3, 0, 5, 0), (89, .aload_n 0, 1, 0, 0, 0), (90, .new 45, 3, 7, 0, 0), (93, .dup, 1, 0, 0, 0), (94, .invokespecial 47, 3, 8, 1, 0)]
noncomputable def cL1_6 : List MI := [(97, .putfield 48, 3, 0, 6, 0), (100, .aload_n 0, 1, 0, 0, 0), (101, .iconst 5, 1, 0, 0, 0), (102, .newarray .int, 2, 0, 0, 0), (104, .putfield 52, 3, 0, 7, 0), (107, .aload_n 0, 1, 0, 0, 0), (108, .iconst 4, 1, 0, 0, 0), (109, .anewarray 56, 3, 6, 0, 0)]
noncomputable def cL1_7 : List MI := [(112, .putfield 58, 3, 0, 8, 0), (115, .iconst 0, 1, 0, 0, 0), (116, .istore_n 1, 1, 0, 0, 0), (117, .iload_n 1, 1, 0, 0, 0), (118, .iconst 4, 1, 0, 0, 0), (119, .if_icmp .ge 22, 3, 0, 0, 0), (122, .aload_n 0, 1, 0, 0, 0), (123, .getfield 58, 3, 0, 8, 0), (126, .iload_n 1, 1, 0, 0, 0), (127, .new 56, 3, 8, 0, 0)]
noncomputable def cL1_8 : List MI := [(130, .dup, 1, 0, 0, 0), (131, .invokespecial 62, 3, 9, 1, 0), (134, .aastore, 1, 8, 6, 0), (135, .iinc 1 1, 3, 0, 0, 0), (138, .goto (-21), 3, 0, 0, 0), (141, .return_, 1, 0, 0, 0)]
noncomputable def cG1_0 : List MI := cL1_0 ++ ( cL1_1 ++ ( cL1_2 ++ ( cL1_3 ++ ( cL1_4 ++ ( cL1_5 ++ ( cL1_6 ++ ( cL1_7 ++ ([]))))))))
noncomputable def cG1_1 : List MI := cL1_8 ++ ([])
noncomputable def cL1 : List MI := cG1_0 ++ ( cG1_1 ++ ([]))
/-- DoorPaints$Reader.<init>()V -/
noncomputable def cL2_0 : List MI := [(0, .aload_n 0, 1, 0, 0, 0), (1, .invokespecial 3, 3, 9999, 1, 0), (4, .aload_n 0, 1, 0, 0, 0), (5, .new 9, 3, 2, 0, 0), (8, .dup, 1, 0, 0, 0), (9, .invokespecial 11, 3, 3, 1, 0), (12, .putfield 12, 3, 1, 0, 0), (15, .aload_n 0, 1, 0, 0, 0)]
noncomputable def cL2_1 : List MI := [(16, .new 18, 3, 6, 0, 0), (19, .dup, 1, 0, 0, 0), (20, .invokespecial 20, 3, 7, 1, 0), (23, .putfield 21, 3, 1, 1, 0), (26, .return_, 1, 0, 0, 0)]
noncomputable def cG2_0 : List MI := cL2_0 ++ ( cL2_1 ++ ([]))
noncomputable def cL2 : List MI := cG2_0 ++ ([])
/-- DoorPaints$Told.<init>()V -/
noncomputable def cL3_0 : List MI := [(0, .aload_n 0, 1, 0, 0, 0), (1, .invokespecial 3, 3, 9999, 1, 0), (4, .aload_n 0, 1, 0, 0, 0), (5, .new 9, 3, 3, 0, 0), (8, .dup, 1, 0, 0, 0), (9, .invokespecial 11, 3, 4, 1, 0), (12, .putfield 12, 3, 2, 0, 0), (15, .aload_n 0, 1, 0, 0, 0)]
noncomputable def cL3_1 : List MI := [(16, .bipush 8, 2, 0, 0, 0), (18, .newarray .int, 2, 0, 0, 0), (20, .putfield 18, 3, 2, 1, 0), (23, .aload_n 0, 1, 0, 0, 0), (24, .bipush 6, 2, 0, 0, 0), (26, .newarray .int, 2, 0, 0, 0), (28, .putfield 22, 3, 2, 3, 0), (31, .aload_n 0, 1, 0, 0, 0)]
noncomputable def cL3_2 : List MI := [(32, .bipush 6, 2, 0, 0, 0), (34, .newarray .int, 2, 0, 0, 0), (36, .putfield 25, 3, 2, 4, 0), (39, .aload_n 0, 1, 0, 0, 0), (40, .bipush 6, 2, 0, 0, 0), (42, .newarray .int, 2, 0, 0, 0), (44, .putfield 28, 3, 2, 5, 0), (47, .return_, 1, 0, 0, 0)]
noncomputable def cG3_0 : List MI := cL3_0 ++ ( cL3_1 ++ ( cL3_2 ++ ([])))
noncomputable def cL3 : List MI := cG3_0 ++ ([])
/-- DoorPaints$Town.<init>()V -/
noncomputable def cL4_0 : List MI := [(0, .aload_n 0, 1, 0, 0, 0), (1, .invokespecial 3, 3, 9999, 1, 0), (4, .aload_n 0, 1, 0, 0, 0), (5, .iconst 4, 1, 0, 0, 0), (6, .anewarray 9, 3, 3, 0, 0), (9, .putfield 11, 3, 3, 0, 0), (12, .iconst 0, 1, 0, 0, 0), (13, .istore_n 1, 1, 0, 0, 0), (14, .iload_n 1, 1, 0, 0, 0), (15, .iconst 4, 1, 0, 0, 0)]
noncomputable def cL4_1 : List MI := [(16, .if_icmp .ge 22, 3, 0, 0, 0), (19, .aload_n 0, 1, 0, 0, 0), (20, .getfield 11, 3, 3, 0, 0), (23, .iload_n 1, 1, 0, 0, 0), (24, .new 9, 3, 4, 0, 0), (27, .dup, 1, 0, 0, 0), (28, .invokespecial 17, 3, 5, 1, 0), (31, .aastore, 1, 4, 3, 0)]
noncomputable def cL4_2 : List MI := [(32, .iinc 1 1, 3, 0, 0, 0), (35, .goto (-21), 3, 0, 0, 0), (38, .aload_n 0, 1, 0, 0, 0), (39, .iconst 4, 1, 0, 0, 0), (40, .anewarray 18, 3, 4, 0, 0), (43, .putfield 20, 3, 3, 1, 0), (46, .iconst 0, 1, 0, 0, 0), (47, .istore_n 1, 1, 0, 0, 0)]
noncomputable def cL4_3 : List MI := [(48, .iload_n 1, 1, 0, 0, 0), (49, .iconst 4, 1, 0, 0, 0), (50, .if_icmp .ge 22, 3, 0, 0, 0), (53, .aload_n 0, 1, 0, 0, 0), (54, .getfield 20, 3, 3, 1, 0), (57, .iload_n 1, 1, 0, 0, 0), (58, .new 18, 3, 5, 0, 0), (61, .dup, 1, 0, 0, 0), (62, .invokespecial 24, 3, 6, 1, 0)]
noncomputable def cL4_4 : List MI := [(65, .aastore, 1, 5, 4, 0), (66, .iinc 1 1, 3, 0, 0, 0), (69, .goto (-21), 3, 0, 0, 0), (72, .aload_n 0, 1, 0, 0, 0), (73, .bipush (-4), 2, 0, 0, 0), (75, .putfield 25, 3, 3, 4, 0), (78, .return_, 1, 0, 0, 0)]
noncomputable def cG4_0 : List MI := cL4_0 ++ ( cL4_1 ++ ( cL4_2 ++ ( cL4_3 ++ ( cL4_4 ++ ([])))))
noncomputable def cL4 : List MI := cG4_0 ++ ([])
/-- DoorPaints$Visitor.<init>()V -/
noncomputable def cL5_0 : List MI := [(0, .aload_n 0, 1, 0, 0, 0), (1, .invokespecial 1, 3, 9999, 1, 0), (4, .return_, 1, 0, 0, 0)]
noncomputable def cG5_0 : List MI := cL5_0 ++ ([])
noncomputable def cL5 : List MI := cG5_0 ++ ([])
/-- DoorPaints$Door.<init>()V -/
noncomputable def cL6_0 : List MI := [(0, .aload_n 0, 1, 0, 0, 0), (1, .invokespecial 3, 3, 9999, 1, 0), (4, .aload_n 0, 1, 0, 0, 0), (5, .bipush 6, 2, 0, 0, 0), (7, .newarray .int, 2, 0, 0, 0), (9, .putfield 9, 3, 5, 0, 0), (12, .return_, 1, 0, 0, 0)]
noncomputable def cG6_0 : List MI := cL6_0 ++ ([])
noncomputable def cL6 : List MI := cG6_0 ++ ([])
/-- DoorPaints$Tape.<init>()V -/
noncomputable def cL7_0 : List MI := [(0, .aload_n 0, 1, 0, 0, 0), (1, .invokespecial 3, 3, 9999, 1, 0), (4, .aload_n 0, 1, 0, 0, 0), (5, .sipush 160, 3, 0, 0, 0), (8, .newarray .int, 2, 0, 0, 0), (10, .putfield 9, 3, 6, 0, 0), (13, .return_, 1, 0, 0, 0)]
noncomputable def cG7_0 : List MI := cL7_0 ++ ([])
noncomputable def cL7 : List MI := cG7_0 ++ ([])
/-- DoorPaints$Search.<init>()V -/
noncomputable def cL8_0 : List MI := [(0, .aload_n 0, 1, 0, 0, 0), (1, .invokespecial 3, 3, 9999, 1, 0), (4, .aload_n 0, 1, 0, 0, 0), (5, .new 9, 3, 3, 0, 0), (8, .dup, 1, 0, 0, 0), (9, .invokespecial 11, 3, 4, 1, 0), (12, .putfield 12, 3, 7, 0, 0), (15, .aload_n 0, 1, 0, 0, 0)]
noncomputable def cL8_1 : List MI := [(16, .iconst 3, 1, 0, 0, 0), (17, .newarray .int, 2, 0, 0, 0), (19, .putfield 18, 3, 7, 1, 0), (22, .aload_n 0, 1, 0, 0, 0), (23, .iconst 3, 1, 0, 0, 0), (24, .newarray .int, 2, 0, 0, 0), (26, .putfield 22, 3, 7, 2, 0), (29, .return_, 1, 0, 0, 0)]
noncomputable def cG8_0 : List MI := cL8_0 ++ ( cL8_1 ++ ([]))
noncomputable def cL8 : List MI := cG8_0 ++ ([])
/-- DoorPaints$Sheet.<init>()V -/
noncomputable def cL9_0 : List MI := [(0, .aload_n 0, 1, 0, 0, 0), (1, .invokespecial 3, 3, 9999, 1, 0), (4, .aload_n 0, 1, 0, 0, 0), (5, .bipush 40, 2, 0, 0, 0), (7, .newarray .int, 2, 0, 0, 0), (9, .putfield 9, 3, 8, 0, 0), (12, .aload_n 0, 1, 0, 0, 0), (13, .bipush (-4), 2, 0, 0, 0), (15, .putfield 15, 3, 8, 2, 0)]
noncomputable def cL9_1 : List MI := [(18, .return_, 1, 0, 0, 0)]
noncomputable def cG9_0 : List MI := cL9_0 ++ ( cL9_1 ++ ([]))
noncomputable def cL9 : List MI := cG9_0 ++ ([])
/-- DoorPaints.feed(I)I -/
noncomputable def cL10_0 : List MI := [(0, .iload_n 1, 1, 0, 0, 0), (1, .ifCond .lt 9, 3, 0, 0, 0), (4, .iload_n 1, 1, 0, 0, 0), (5, .bipush 127, 2, 0, 0, 0), (7, .if_icmp .le 5, 3, 0, 0, 0), (10, .iconst (-1), 1, 0, 0, 0), (11, .ireturn, 1, 0, 0, 0), (12, .aload_n 0, 1, 0, 0, 0), (13, .getfield 20, 3, 0, 1, 0)]
noncomputable def cL10_1 : List MI := [(16, .iload_n 1, 1, 0, 0, 0), (17, .invokevirtual 63, 3, 11, 2, 6), (20, .ifCond .eq 13, 3, 0, 0, 0), (23, .aload_n 0, 1, 0, 0, 0), (24, .getfield 20, 3, 0, 1, 0), (27, .getfield 69, 3, 6, 1, 0), (30, .goto 5, 3, 0, 0, 0)]
noncomputable def cL10_2 : List MI := [(33, .bipush (-3), 2, 0, 0, 0), (35, .ireturn, 1, 0, 0, 0)]
noncomputable def cG10_0 : List MI := cL10_0 ++ ( cL10_1 ++ ( cL10_2 ++ ([])))
noncomputable def cL10 : List MI := cG10_0 ++ ([])
/-- DoorPaints$Tape.append(I)Z -/
noncomputable def cL11_0 : List MI := [(0, .aload_n 0, 1, 0, 0, 0), (1, .getfield 15, 3, 6, 1, 0), (4, .sipush 160, 3, 0, 0, 0), (7, .if_icmp .lt 5, 3, 0, 0, 0), (10, .iconst 0, 1, 0, 0, 0), (11, .ireturn, 1, 0, 0, 0), (12, .aload_n 0, 1, 0, 0, 0), (13, .getfield 9, 3, 6, 0, 0)]
noncomputable def cL11_1 : List MI := [(16, .aload_n 0, 1, 0, 0, 0), (17, .getfield 15, 3, 6, 1, 0), (20, .iload_n 1, 1, 0, 0, 0), (21, .iastore, 1, 0, 0, 0), (22, .aload_n 0, 1, 0, 0, 0), (23, .dup, 1, 0, 0, 0), (24, .getfield 15, 3, 6, 1, 0), (27, .iconst 1, 1, 0, 0, 0), (28, .iadd, 1, 0, 0, 0), (29, .putfield 15, 3, 6, 1, 0)]
noncomputable def cL11_2 : List MI := [(32, .iconst 1, 1, 0, 0, 0), (33, .ireturn, 1, 0, 0, 0)]
noncomputable def cG11_0 : List MI := cL11_0 ++ ( cL11_1 ++ ( cL11_2 ++ ([])))
noncomputable def cL11 : List MI := cG11_0 ++ ([])
/-- DoorPaints.end(I)I -/
noncomputable def cL12_0 : List MI := [(0, .iload_n 1, 1, 0, 0, 0), (1, .ifCond .lt 14, 3, 0, 0, 0), (4, .iload_n 1, 1, 0, 0, 0), (5, .aload_n 0, 1, 0, 0, 0), (6, .getfield 20, 3, 0, 1, 0), (9, .getfield 69, 3, 6, 1, 0), (12, .if_icmp .le 5, 3, 0, 0, 0), (15, .iconst (-1), 1, 0, 0, 0)]
noncomputable def cL12_1 : List MI := [(16, .ireturn, 1, 0, 0, 0), (17, .aload_n 0, 1, 0, 0, 0), (18, .getfield 20, 3, 0, 1, 0), (21, .getfield 69, 3, 6, 1, 0), (24, .istore_n 2, 1, 0, 0, 0), (25, .aload_n 0, 1, 0, 0, 0), (26, .getfield 20, 3, 0, 1, 0), (29, .iload_n 1, 1, 0, 0, 0), (30, .putfield 69, 3, 6, 1, 0)]
noncomputable def cL12_2 : List MI := [(33, .iload_n 2, 1, 0, 0, 0), (34, .ireturn, 1, 0, 0, 0)]
noncomputable def cG12_0 : List MI := cL12_0 ++ ( cL12_1 ++ ( cL12_2 ++ ([])))
noncomputable def cL12 : List MI := cG12_0 ++ ([])
/-- DoorPaints.text()I -/
noncomputable def cL13_0 : List MI := [(0, .aload_n 0, 1, 0, 0, 0), (1, .getfield 10, 3, 0, 0, 0), (4, .invokevirtual 73, 3, 14, 1, 1), (7, .istore_n 1, 1, 0, 0, 0), (8, .aload_n 0, 1, 0, 0, 0), (9, .getfield 20, 3, 0, 1, 0), (12, .iconst 0, 1, 0, 0, 0), (13, .putfield 69, 3, 6, 1, 0)]
noncomputable def cL13_1 : List MI := [(16, .aload_n 0, 1, 0, 0, 0), (17, .aload_n 0, 1, 0, 0, 0), (18, .getfield 10, 3, 0, 0, 0), (21, .getfield 77, 3, 1, 2, 0), (24, .putfield 80, 3, 0, 9, 0), (27, .aload_n 0, 1, 0, 0, 0), (28, .getfield 80, 3, 0, 9, 0), (31, .ifCond .ne 37, 3, 0, 0, 0)]
noncomputable def cL13_2 : List MI := [(34, .aload_n 0, 1, 0, 0, 0), (35, .getfield 26, 3, 0, 2, 0), (38, .aload_n 0, 1, 0, 0, 0), (39, .getfield 10, 3, 0, 0, 0), (42, .getfield 83, 3, 1, 0, 0), (45, .invokevirtual 86, 3, 51, 2, 2)]
noncomputable def cL13_3 : List MI := [(48, .iconst 0, 1, 0, 0, 0), (49, .istore_n 2, 1, 0, 0, 0), (50, .iload_n 2, 1, 0, 0, 0), (51, .iconst 2, 1, 0, 0, 0), (52, .if_icmp .ge 16, 3, 0, 0, 0), (55, .aload_n 0, 1, 0, 0, 0), (56, .getfield 34, 3, 0, 4, 0), (59, .iload_n 2, 1, 0, 0, 0), (60, .iconst 0, 1, 0, 0, 0), (61, .bastore, 1, 0, 0, 0), (62, .iinc 2 1, 3, 0, 0, 0)]
noncomputable def cL13_4 : List MI := [(65, .goto (-15), 3, 0, 0, 0), (68, .iload_n 1, 1, 0, 0, 0), (69, .ireturn, 1, 0, 0, 0)]
noncomputable def cG13_0 : List MI := cL13_0 ++ ( cL13_1 ++ ( cL13_2 ++ ( cL13_3 ++ ( cL13_4 ++ ([])))))
noncomputable def cL13 : List MI := cG13_0 ++ ([])
/-- DoorPaints$Reader.readAll()I -/
noncomputable def cL14_0 : List MI := [(0, .aload_n 0, 1, 0, 0, 0), (1, .iconst 0, 1, 0, 0, 0), (2, .putfield 25, 3, 1, 2, 0), (5, .aload_n 0, 1, 0, 0, 0), (6, .iconst 0, 1, 0, 0, 0), (7, .putfield 29, 3, 1, 4, 0), (10, .aload_n 0, 1, 0, 0, 0), (11, .getfield 12, 3, 1, 0, 0), (14, .invokevirtual 33, 3, 15, 1, 2)]
noncomputable def cL14_1 : List MI := [(17, .aload_n 0, 1, 0, 0, 0), (18, .getfield 21, 3, 1, 1, 0), (21, .invokevirtual 36, 3, 18, 1, 6), (24, .iconst 0, 1, 0, 0, 0), (25, .istore_n 1, 1, 0, 0, 0), (26, .iload_n 1, 1, 0, 0, 0), (27, .sipush 160, 3, 0, 0, 0), (30, .if_icmp .ge 30, 3, 0, 0, 0)]
noncomputable def cL14_2 : List MI := [(33, .aload_n 0, 1, 0, 0, 0), (34, .getfield 25, 3, 1, 2, 0), (37, .ifCond .ne 23, 3, 0, 0, 0), (40, .aload_n 0, 1, 0, 0, 0), (41, .getfield 21, 3, 1, 1, 0), (44, .getfield 39, 3, 6, 2, 0), (47, .ifCond .eq 13, 3, 0, 0, 0)]
noncomputable def cL14_3 : List MI := [(50, .aload_n 0, 1, 0, 0, 0), (51, .invokevirtual 42, 3, 22, 1, 1), (54, .iinc 1 1, 3, 0, 0, 0), (57, .goto (-31), 3, 0, 0, 0), (60, .aload_n 0, 1, 0, 0, 0), (61, .getfield 25, 3, 1, 2, 0)]
noncomputable def cL14_4 : List MI := [(64, .ifCond .ne 30, 3, 0, 0, 0), (67, .aload_n 0, 1, 0, 0, 0), (68, .getfield 12, 3, 1, 0, 0), (71, .invokevirtual 45, 3, 47, 1, 2), (74, .ifCond .ne 20, 3, 0, 0, 0), (77, .aload_n 0, 1, 0, 0, 0), (78, .bipush 6, 2, 0, 0, 0)]
noncomputable def cL14_5 : List MI := [(80, .putfield 25, 3, 1, 2, 0), (83, .aload_n 0, 1, 0, 0, 0), (84, .aload_n 0, 1, 0, 0, 0), (85, .getfield 21, 3, 1, 1, 0), (88, .getfield 49, 3, 6, 1, 0), (91, .putfield 52, 3, 1, 3, 0), (94, .aload_n 0, 1, 0, 0, 0), (95, .getfield 25, 3, 1, 2, 0)]
noncomputable def cL14_6 : List MI := [(98, .ifCond .ne 7, 3, 0, 0, 0), (101, .iload_n 1, 1, 0, 0, 0), (102, .goto 10, 3, 0, 0, 0), (105, .bipush (-10), 2, 0, 0, 0), (107, .aload_n 0, 1, 0, 0, 0), (108, .getfield 52, 3, 1, 3, 0), (111, .isub, 1, 0, 0, 0)]
noncomputable def cL14_7 : List MI := [(112, .ireturn, 1, 0, 0, 0)]
noncomputable def cG14_0 : List MI := cL14_0 ++ ( cL14_1 ++ ( cL14_2 ++ ( cL14_3 ++ ( cL14_4 ++ ( cL14_5 ++ ( cL14_6 ++ ( cL14_7 ++ ([]))))))))
noncomputable def cL14 : List MI := cG14_0 ++ ([])
/-- DoorPaints$Told.clear()V -/
noncomputable def cL15_0 : List MI := [(0, .aload_n 0, 1, 0, 0, 0), (1, .getfield 12, 3, 2, 0, 0), (4, .invokevirtual 42, 3, 16, 1, 3), (7, .aload_n 0, 1, 0, 0, 0), (8, .iconst 0, 1, 0, 0, 0), (9, .putfield 35, 3, 2, 2, 0), (12, .aload_n 0, 1, 0, 0, 0), (13, .iconst 0, 1, 0, 0, 0), (14, .putfield 39, 3, 2, 6, 0)]
noncomputable def cL15_1 : List MI := [(17, .return_, 1, 0, 0, 0)]
noncomputable def cG15_0 : List MI := cL15_0 ++ ( cL15_1 ++ ([]))
noncomputable def cL15 : List MI := cG15_0 ++ ([])
/-- DoorPaints$Town.clear()V -/
noncomputable def cL16_0 : List MI := [(0, .aload_n 0, 1, 0, 0, 0), (1, .iconst 0, 1, 0, 0, 0), (2, .putfield 29, 3, 3, 2, 0), (5, .aload_n 0, 1, 0, 0, 0), (6, .iconst 0, 1, 0, 0, 0), (7, .putfield 36, 3, 3, 3, 0), (10, .iconst 0, 1, 0, 0, 0), (11, .istore_n 1, 1, 0, 0, 0), (12, .iload_n 1, 1, 0, 0, 0), (13, .iconst 4, 1, 0, 0, 0), (14, .if_icmp .ge 18, 3, 0, 0, 0)]
noncomputable def cL16_1 : List MI := [(17, .aload_n 0, 1, 0, 0, 0), (18, .getfield 20, 3, 3, 1, 0), (21, .iload_n 1, 1, 0, 0, 0), (22, .aaload, 1, 0, 0, 0), (23, .invokevirtual 42, 3, 17, 1, 5), (26, .iinc 1 1, 3, 0, 0, 0), (29, .goto (-17), 3, 0, 0, 0)]
noncomputable def cL16_2 : List MI := [(32, .return_, 1, 0, 0, 0)]
noncomputable def cG16_0 : List MI := cL16_0 ++ ( cL16_1 ++ ( cL16_2 ++ ([])))
noncomputable def cL16 : List MI := cG16_0 ++ ([])
/-- DoorPaints$Door.clear()V -/
noncomputable def cL17_0 : List MI := [(0, .aload_n 0, 1, 0, 0, 0), (1, .iconst 0, 1, 0, 0, 0), (2, .putfield 15, 3, 5, 1, 0), (5, .aload_n 0, 1, 0, 0, 0), (6, .iconst 0, 1, 0, 0, 0), (7, .putfield 19, 3, 5, 2, 0), (10, .aload_n 0, 1, 0, 0, 0), (11, .iconst 0, 1, 0, 0, 0), (12, .putfield 22, 3, 5, 3, 0), (15, .return_, 1, 0, 0, 0)]
noncomputable def cG17_0 : List MI := cL17_0 ++ ([])
noncomputable def cL17 : List MI := cG17_0 ++ ([])
/-- DoorPaints$Tape.rewind()V -/
noncomputable def cL18_0 : List MI := [(0, .aload_n 0, 1, 0, 0, 0), (1, .iconst 0, 1, 0, 0, 0), (2, .putfield 19, 3, 6, 4, 0), (5, .aload_n 0, 1, 0, 0, 0), (6, .invokevirtual 22, 3, 19, 1, 6), (9, .return_, 1, 0, 0, 0)]
noncomputable def cG18_0 : List MI := cL18_0 ++ ([])
noncomputable def cL18 : List MI := cG18_0 ++ ([])
/-- DoorPaints$Tape.advance()V -/
noncomputable def cL19_0 : List MI := [(0, .aload_n 0, 1, 0, 0, 0), (1, .getfield 19, 3, 6, 4, 0), (4, .aload_n 0, 1, 0, 0, 0), (5, .getfield 15, 3, 6, 1, 0), (8, .if_icmp .ge 30, 3, 0, 0, 0), (11, .aload_n 0, 1, 0, 0, 0), (12, .getfield 9, 3, 6, 0, 0), (15, .aload_n 0, 1, 0, 0, 0)]
noncomputable def cL19_1 : List MI := [(16, .getfield 19, 3, 6, 4, 0), (19, .iaload, 1, 0, 0, 0), (20, .bipush 32, 2, 0, 0, 0), (22, .if_icmp .ne 16, 3, 0, 0, 0), (25, .aload_n 0, 1, 0, 0, 0), (26, .dup, 1, 0, 0, 0), (27, .getfield 19, 3, 6, 4, 0), (30, .iconst 1, 1, 0, 0, 0), (31, .iadd, 1, 0, 0, 0)]
noncomputable def cL19_2 : List MI := [(32, .putfield 19, 3, 6, 4, 0), (35, .goto (-35), 3, 0, 0, 0), (38, .aload_n 0, 1, 0, 0, 0), (39, .aload_n 0, 1, 0, 0, 0), (40, .getfield 19, 3, 6, 4, 0), (43, .putfield 25, 3, 6, 3, 0), (46, .aload_n 0, 1, 0, 0, 0), (47, .getfield 19, 3, 6, 4, 0)]
noncomputable def cL19_3 : List MI := [(50, .aload_n 0, 1, 0, 0, 0), (51, .getfield 15, 3, 6, 1, 0), (54, .if_icmp .lt 11, 3, 0, 0, 0), (57, .aload_n 0, 1, 0, 0, 0), (58, .iconst 0, 1, 0, 0, 0), (59, .putfield 28, 3, 6, 2, 0), (62, .goto 73, 3, 0, 0, 0)]
noncomputable def cL19_4 : List MI := [(65, .aload_n 0, 1, 0, 0, 0), (66, .bipush 97, 2, 0, 0, 0), (68, .bipush 122, 2, 0, 0, 0), (70, .invokevirtual 31, 3, 20, 3, 6), (73, .ifCond .eq 11, 3, 0, 0, 0), (76, .aload_n 0, 1, 0, 0, 0), (77, .iconst 1, 1, 0, 0, 0), (78, .putfield 28, 3, 6, 2, 0)]
noncomputable def cL19_5 : List MI := [(81, .goto 54, 3, 0, 0, 0), (84, .aload_n 0, 1, 0, 0, 0), (85, .bipush 48, 2, 0, 0, 0), (87, .bipush 57, 2, 0, 0, 0), (89, .invokevirtual 31, 3, 20, 3, 6), (92, .ifCond .eq 10, 3, 0, 0, 0), (95, .aload_n 0, 1, 0, 0, 0)]
noncomputable def cL19_6 : List MI := [(96, .invokevirtual 35, 3, 21, 1, 6), (99, .goto 36, 3, 0, 0, 0), (102, .aload_n 0, 1, 0, 0, 0), (103, .aload_n 0, 1, 0, 0, 0), (104, .getfield 9, 3, 6, 0, 0), (107, .aload_n 0, 1, 0, 0, 0), (108, .getfield 19, 3, 6, 4, 0), (111, .iaload, 1, 0, 0, 0)]
noncomputable def cL19_7 : List MI := [(112, .bipush 59, 2, 0, 0, 0), (114, .if_icmp .ne 7, 3, 0, 0, 0), (117, .iconst 3, 1, 0, 0, 0), (118, .goto 4, 3, 0, 0, 0), (121, .iconst 4, 1, 0, 0, 0), (122, .putfield 28, 3, 6, 2, 0), (125, .aload_n 0, 1, 0, 0, 0), (126, .dup, 1, 0, 0, 0), (127, .getfield 19, 3, 6, 4, 0)]
noncomputable def cL19_8 : List MI := [(130, .iconst 1, 1, 0, 0, 0), (131, .iadd, 1, 0, 0, 0), (132, .putfield 19, 3, 6, 4, 0), (135, .return_, 1, 0, 0, 0)]
noncomputable def cG19_0 : List MI := cL19_0 ++ ( cL19_1 ++ ( cL19_2 ++ ( cL19_3 ++ ( cL19_4 ++ ( cL19_5 ++ ( cL19_6 ++ ( cL19_7 ++ ([]))))))))
noncomputable def cG19_1 : List MI := cL19_8 ++ ([])
noncomputable def cL19 : List MI := cG19_0 ++ ( cG19_1 ++ ([]))
/-- DoorPaints$Tape.skip(II)Z -/
noncomputable def cL20_0 : List MI := [(0, .aload_n 0, 1, 0, 0, 0), (1, .getfield 19, 3, 6, 4, 0), (4, .aload_n 0, 1, 0, 0, 0), (5, .getfield 15, 3, 6, 1, 0), (8, .if_icmp .ge 42, 3, 0, 0, 0), (11, .aload_n 0, 1, 0, 0, 0), (12, .getfield 9, 3, 6, 0, 0), (15, .aload_n 0, 1, 0, 0, 0)]
noncomputable def cL20_1 : List MI := [(16, .getfield 19, 3, 6, 4, 0), (19, .iaload, 1, 0, 0, 0), (20, .iload_n 1, 1, 0, 0, 0), (21, .if_icmp .lt 29, 3, 0, 0, 0), (24, .aload_n 0, 1, 0, 0, 0), (25, .getfield 9, 3, 6, 0, 0), (28, .aload_n 0, 1, 0, 0, 0), (29, .getfield 19, 3, 6, 4, 0)]
noncomputable def cL20_2 : List MI := [(32, .iaload, 1, 0, 0, 0), (33, .iload_n 2, 1, 0, 0, 0), (34, .if_icmp .gt 16, 3, 0, 0, 0), (37, .aload_n 0, 1, 0, 0, 0), (38, .dup, 1, 0, 0, 0), (39, .getfield 19, 3, 6, 4, 0), (42, .iconst 1, 1, 0, 0, 0), (43, .iadd, 1, 0, 0, 0), (44, .putfield 19, 3, 6, 4, 0), (47, .goto (-47), 3, 0, 0, 0)]
noncomputable def cL20_3 : List MI := [(50, .aload_n 0, 1, 0, 0, 0), (51, .getfield 19, 3, 6, 4, 0), (54, .aload_n 0, 1, 0, 0, 0), (55, .getfield 25, 3, 6, 3, 0), (58, .if_icmp .le 7, 3, 0, 0, 0), (61, .iconst 1, 1, 0, 0, 0), (62, .goto 4, 3, 0, 0, 0)]
noncomputable def cL20_4 : List MI := [(65, .iconst 0, 1, 0, 0, 0), (66, .ireturn, 1, 0, 0, 0)]
noncomputable def cG20_0 : List MI := cL20_0 ++ ( cL20_1 ++ ( cL20_2 ++ ( cL20_3 ++ ( cL20_4 ++ ([])))))
noncomputable def cL20 : List MI := cG20_0 ++ ([])
/-- DoorPaints$Tape.takeNumber()V -/
noncomputable def cL21_0 : List MI := [(0, .aload_n 0, 1, 0, 0, 0), (1, .aload_n 0, 1, 0, 0, 0), (2, .getfield 19, 3, 6, 4, 0), (5, .aload_n 0, 1, 0, 0, 0), (6, .getfield 25, 3, 6, 3, 0), (9, .isub, 1, 0, 0, 0), (10, .iconst 2, 1, 0, 0, 0), (11, .if_icmp .le 7, 3, 0, 0, 0), (14, .iconst 4, 1, 0, 0, 0), (15, .goto 4, 3, 0, 0, 0)]
noncomputable def cL21_1 : List MI := [(18, .iconst 2, 1, 0, 0, 0), (19, .putfield 28, 3, 6, 2, 0), (22, .aload_n 0, 1, 0, 0, 0), (23, .iconst 0, 1, 0, 0, 0), (24, .putfield 38, 3, 6, 5, 0), (27, .aload_n 0, 1, 0, 0, 0), (28, .getfield 25, 3, 6, 3, 0), (31, .istore_n 1, 1, 0, 0, 0)]
noncomputable def cL21_2 : List MI := [(32, .iload_n 1, 1, 0, 0, 0), (33, .aload_n 0, 1, 0, 0, 0), (34, .getfield 19, 3, 6, 4, 0), (37, .if_icmp .ge 38, 3, 0, 0, 0), (40, .aload_n 0, 1, 0, 0, 0), (41, .getfield 28, 3, 6, 2, 0), (44, .iconst 2, 1, 0, 0, 0), (45, .if_icmp .ne 30, 3, 0, 0, 0)]
noncomputable def cL21_3 : List MI := [(48, .aload_n 0, 1, 0, 0, 0), (49, .aload_n 0, 1, 0, 0, 0), (50, .getfield 38, 3, 6, 5, 0), (53, .bipush 10, 2, 0, 0, 0), (55, .imul, 1, 0, 0, 0), (56, .aload_n 0, 1, 0, 0, 0), (57, .getfield 9, 3, 6, 0, 0), (60, .iload_n 1, 1, 0, 0, 0), (61, .iaload, 1, 0, 0, 0), (62, .iadd, 1, 0, 0, 0), (63, .bipush 48, 2, 0, 0, 0)]
noncomputable def cL21_4 : List MI := [(65, .isub, 1, 0, 0, 0), (66, .putfield 38, 3, 6, 5, 0), (69, .iinc 1 1, 3, 0, 0, 0), (72, .goto (-40), 3, 0, 0, 0), (75, .return_, 1, 0, 0, 0)]
noncomputable def cG21_0 : List MI := cL21_0 ++ ( cL21_1 ++ ( cL21_2 ++ ( cL21_3 ++ ( cL21_4 ++ ([])))))
noncomputable def cL21 : List MI := cG21_0 ++ ([])
/-- DoorPaints$Reader.readLine()V -/
noncomputable def cL22_0 : List MI := [(0, .aload_n 0, 1, 0, 0, 0), (1, .iconst 1, 1, 0, 0, 0), (2, .invokevirtual 55, 3, 23, 2, 1), (5, .ifCond .ne 4, 3, 0, 0, 0), (8, .return_, 1, 0, 0, 0), (9, .aload_n 0, 1, 0, 0, 0), (10, .getfield 21, 3, 1, 1, 0), (13, .ldc 59, 2, 1, 1, 0), (15, .invokevirtual 61, 3, 25, 2, 6)]
noncomputable def cL22_1 : List MI := [(18, .ifCond .eq 10, 3, 0, 0, 0), (21, .aload_n 0, 1, 0, 0, 0), (22, .invokevirtual 65, 3, 33, 1, 1), (25, .goto 49, 3, 0, 0, 0), (28, .aload_n 0, 1, 0, 0, 0), (29, .getfield 21, 3, 1, 1, 0)]
noncomputable def cL22_2 : List MI := [(32, .ldc 68, 2, 1, 3, 0), (34, .invokevirtual 61, 3, 25, 2, 6), (37, .ifCond .eq 10, 3, 0, 0, 0), (40, .aload_n 0, 1, 0, 0, 0), (41, .invokevirtual 70, 3, 37, 1, 1), (44, .goto 30, 3, 0, 0, 0), (47, .aload_n 0, 1, 0, 0, 0)]
noncomputable def cL22_3 : List MI := [(48, .getfield 21, 3, 1, 1, 0), (51, .ldc 73, 2, 1, 5, 0), (53, .invokevirtual 61, 3, 25, 2, 6), (56, .ifCond .eq 10, 3, 0, 0, 0), (59, .aload_n 0, 1, 0, 0, 0), (60, .invokevirtual 75, 3, 40, 1, 1), (63, .goto 11, 3, 0, 0, 0)]
noncomputable def cL22_4 : List MI := [(66, .aload_n 0, 1, 0, 0, 0), (67, .aload_n 0, 1, 0, 0, 0), (68, .invokevirtual 78, 3, 44, 1, 1), (71, .invokevirtual 82, 3, 45, 2, 1), (74, .return_, 1, 0, 0, 0)]
noncomputable def cG22_0 : List MI := cL22_0 ++ ( cL22_1 ++ ( cL22_2 ++ ( cL22_3 ++ ( cL22_4 ++ ([])))))
noncomputable def cL22 : List MI := cG22_0 ++ ([])
/-- DoorPaints$Reader.stands(I)Z -/
noncomputable def cL23_0 : List MI := [(0, .aload_n 0, 1, 0, 0, 0), (1, .getfield 21, 3, 1, 1, 0), (4, .getfield 39, 3, 6, 2, 0), (7, .iload_n 1, 1, 0, 0, 0), (8, .if_icmp .ne 5, 3, 0, 0, 0), (11, .iconst 1, 1, 0, 0, 0), (12, .ireturn, 1, 0, 0, 0), (13, .aload_n 0, 1, 0, 0, 0), (14, .aload_n 0, 1, 0, 0, 0), (15, .getfield 21, 3, 1, 1, 0)]
noncomputable def cL23_1 : List MI := [(18, .getfield 39, 3, 6, 2, 0), (21, .iconst 4, 1, 0, 0, 0), (22, .if_icmp .ne 7, 3, 0, 0, 0), (25, .iconst 1, 1, 0, 0, 0), (26, .goto 4, 3, 0, 0, 0), (29, .iconst 2, 1, 0, 0, 0), (30, .invokevirtual 94, 3, 24, 2, 1)]
noncomputable def cL23_2 : List MI := [(33, .iconst 0, 1, 0, 0, 0), (34, .ireturn, 1, 0, 0, 0)]
noncomputable def cG23_0 : List MI := cL23_0 ++ ( cL23_1 ++ ( cL23_2 ++ ([])))
noncomputable def cL23 : List MI := cG23_0 ++ ([])
/-- DoorPaints$Reader.fail(I)V -/
noncomputable def cL24_0 : List MI := [(0, .aload_n 0, 1, 0, 0, 0), (1, .iload_n 1, 1, 0, 0, 0), (2, .putfield 25, 3, 1, 2, 0), (5, .aload_n 0, 1, 0, 0, 0), (6, .aload_n 0, 1, 0, 0, 0), (7, .getfield 21, 3, 1, 1, 0), (10, .getfield 147, 3, 6, 3, 0), (13, .putfield 52, 3, 1, 3, 0)]
noncomputable def cL24_1 : List MI := [(16, .return_, 1, 0, 0, 0)]
noncomputable def cG24_0 : List MI := cL24_0 ++ ( cL24_1 ++ ([]))
noncomputable def cL24 : List MI := cG24_0 ++ ([])
/-- DoorPaints$Tape.nameIs(Ljava/lang/String;)Z -/
noncomputable def cL25_0 : List MI := [(0, .aload_n 0, 1, 0, 0, 0), (1, .getfield 28, 3, 6, 2, 0), (4, .iconst 1, 1, 0, 0, 0), (5, .if_icmp .ne 19, 3, 0, 0, 0), (8, .aload_n 0, 1, 0, 0, 0), (9, .getfield 19, 3, 6, 4, 0), (12, .aload_n 0, 1, 0, 0, 0), (13, .getfield 25, 3, 6, 3, 0)]
noncomputable def cL25_1 : List MI := [(16, .isub, 1, 0, 0, 0), (17, .aload_n 1, 1, 0, 0, 0), (18, .invokevirtual 41, 3, 26, 1, 99), (21, .if_icmp .eq 5, 3, 0, 0, 0), (24, .iconst 0, 1, 0, 0, 0), (25, .ireturn, 1, 0, 0, 0), (26, .iconst 0, 1, 0, 0, 0), (27, .istore_n 2, 1, 0, 0, 0), (28, .iload_n 2, 1, 0, 0, 0), (29, .aload_n 1, 1, 0, 0, 0), (30, .invokevirtual 41, 3, 26, 1, 99)]
noncomputable def cL25_2 : List MI := [(33, .if_icmp .ge 30, 3, 0, 0, 0), (36, .aload_n 0, 1, 0, 0, 0), (37, .getfield 9, 3, 6, 0, 0), (40, .aload_n 0, 1, 0, 0, 0), (41, .getfield 25, 3, 6, 3, 0), (44, .iload_n 2, 1, 0, 0, 0), (45, .iadd, 1, 0, 0, 0), (46, .iaload, 1, 0, 0, 0), (47, .aload_n 1, 1, 0, 0, 0)]
noncomputable def cL25_3 : List MI := [(48, .iload_n 2, 1, 0, 0, 0), (49, .invokevirtual 46, 3, 28, 2, 99), (52, .if_icmp .eq 5, 3, 0, 0, 0), (55, .iconst 0, 1, 0, 0, 0), (56, .ireturn, 1, 0, 0, 0), (57, .iinc 2 1, 3, 0, 0, 0), (60, .goto (-32), 3, 0, 0, 0), (63, .iconst 1, 1, 0, 0, 0)]
noncomputable def cL25_4 : List MI := [(64, .ireturn, 1, 0, 0, 0)]
noncomputable def cG25_0 : List MI := cL25_0 ++ ( cL25_1 ++ ( cL25_2 ++ ( cL25_3 ++ ( cL25_4 ++ ([])))))
noncomputable def cL25 : List MI := cG25_0 ++ ([])
/-- java/lang/String.length()I -/
noncomputable def cL26_0 : List MI := [(0, .aload_n 0, 1, 0, 0, 0), (1, .getfield 9, 3, 99, 0, 0), (4, .arraylength, 1, 0, 0, 0), (5, .aload_n 0, 1, 0, 0, 0), (6, .invokevirtual 335, 3, 27, 1, 99), (9, .ishr, 1, 0, 0, 0), (10, .ireturn, 1, 0, 0, 0)]
noncomputable def cG26_0 : List MI := cL26_0 ++ ([])
noncomputable def cL26 : List MI := cG26_0 ++ ([])
/-- java/lang/String.coder()B -/
noncomputable def cL27_0 : List MI := [(0, .getstatic 38, 3, 0, 0, 1), (3, .ifCond .eq 10, 3, 0, 0, 0), (6, .aload_n 0, 1, 0, 0, 0), (7, .getfield 15, 3, 99, 1, 0), (10, .goto 4, 3, 0, 0, 0), (13, .iconst 1, 1, 0, 0, 0), (14, .ireturn, 1, 0, 0, 0)]
noncomputable def cG27_0 : List MI := cL27_0 ++ ([])
noncomputable def cL27 : List MI := cG27_0 ++ ([])
/-- java/lang/String.charAt(I)C -/
noncomputable def cL28_0 : List MI := [(0, .aload_n 0, 1, 0, 0, 0), (1, .invokevirtual 492, 3, 29, 1, 99), (4, .ifCond .eq 12, 3, 0, 0, 0), (7, .aload_n 0, 1, 0, 0, 0), (8, .getfield 9, 3, 99, 0, 0), (11, .iload_n 1, 1, 0, 0, 0), (12, .invokestatic 495, 3, 30, 2, 0), (15, .ireturn, 1, 0, 0, 0)]
noncomputable def cL28_1 : List MI := [(16, .aload_n 0, 1, 0, 0, 0), (17, .getfield 9, 3, 99, 0, 0), (20, .iload_n 1, 1, 0, 0, 0), (24, .ireturn, 1, 0, 0, 0)]
noncomputable def cG28_0 : List MI := cL28_0 ++ ( cL28_1 ++ ([]))
noncomputable def cL28 : List MI := cG28_0 ++ ([])
end
section
/-! TABLES: the methods' listings (written by a program) -/
/-- java/lang/String.isLatin1()Z -/
noncomputable def cL29_0 : List MI := [(0, .getstatic 38, 3, 0, 0, 1), (3, .ifCond .eq 14, 3, 0, 0, 0), (6, .aload_n 0, 1, 0, 0, 0), (7, .getfield 15, 3, 99, 1, 0), (10, .ifCond .ne 7, 3, 0, 0, 0), (13, .iconst 1, 1, 0, 0, 0), (14, .goto 4, 3, 0, 0, 0)]
noncomputable def cL29_1 : List MI := [(17, .iconst 0, 1, 0, 0, 0), (18, .ireturn, 1, 0, 0, 0)]
noncomputable def cG29_0 : List MI := cL29_0 ++ ( cL29_1 ++ ([]))
noncomputable def cL29 : List MI := cG29_0 ++ ([])
/-- java/lang/StringLatin1.charAt([BI)C -/
noncomputable def cL30_0 : List MI := [(0, .iload_n 1, 1, 0, 0, 0), (1, .aload_n 0, 1, 0, 0, 0), (2, .arraylength, 1, 0, 0, 0), (3, .invokestatic 9, 3, 31, 2, 0), (6, .aload_n 0, 1, 0, 0, 0), (7, .iload_n 1, 1, 0, 0, 0), (8, .baload, 1, 0, 0, 0), (9, .sipush 255, 3, 0, 0, 0), (12, .iand, 1, 0, 0, 0), (13, .i2c, 1, 0, 0, 0), (14, .ireturn, 1, 0, 0, 0)]
noncomputable def cG30_0 : List MI := cL30_0 ++ ([])
noncomputable def cL30 : List MI := cG30_0 ++ ([])
/-- java/lang/String.checkIndex(II)V -/
noncomputable def cL31_0 : List MI := [(0, .iload_n 0, 1, 0, 0, 0), (1, .iload_n 1, 1, 0, 0, 0), (2, .getstatic 1053, 3, 1, 100, 0), (5, .invokestatic 1059, 3, 32, 3, 0), (8, .pop, 1, 0, 0, 0), (9, .return_, 1, 0, 0, 0)]
noncomputable def cG31_0 : List MI := cL31_0 ++ ([])
noncomputable def cL31 : List MI := cG31_0 ++ ([])
/-- jdk/internal/util/Preconditions.checkIndex(IILjava/util/function/BiFunction;)I -/
noncomputable def cL32_0 : List MI := [(0, .iload_n 0, 1, 0, 0, 0), (1, .ifCond .lt 8, 3, 0, 0, 0), (4, .iload_n 0, 1, 0, 0, 0), (5, .iload_n 1, 1, 0, 0, 0), (6, .if_icmp .lt 10, 3, 0, 0, 0), (9, .aload_n 2, 1, 0, 0, 0), (10, .iload_n 0, 1, 0, 0, 0), (11, .iload_n 1, 1, 0, 0, 0)]
noncomputable def cL32_1 : List MI := [(16, .iload_n 0, 1, 0, 0, 0), (17, .ireturn, 1, 0, 0, 0)]
noncomputable def cG32_0 : List MI := cL32_0 ++ ( cL32_1 ++ ([]))
noncomputable def cL32 : List MI := cG32_0 ++ ([])
/-- DoorPaints$Reader.readDoor()V -/
noncomputable def cL33_0 : List MI := [(0, .aload_n 0, 1, 0, 0, 0), (1, .getfield 12, 3, 1, 0, 0), (4, .getfield 97, 3, 2, 0, 0), (7, .getfield 122, 3, 3, 3, 0), (10, .iconst 4, 1, 0, 0, 0), (11, .if_icmp .lt 9, 3, 0, 0, 0), (14, .aload_n 0, 1, 0, 0, 0), (15, .iconst 5, 1, 0, 0, 0)]
noncomputable def cL33_1 : List MI := [(16, .invokevirtual 94, 3, 24, 2, 1), (19, .return_, 1, 0, 0, 0), (20, .aload_n 0, 1, 0, 0, 0), (21, .getfield 12, 3, 1, 0, 0), (24, .getfield 97, 3, 2, 0, 0), (27, .getfield 125, 3, 3, 1, 0), (30, .aload_n 0, 1, 0, 0, 0), (31, .getfield 12, 3, 1, 0, 0)]
noncomputable def cL33_2 : List MI := [(34, .getfield 97, 3, 2, 0, 0), (37, .getfield 122, 3, 3, 3, 0), (40, .aaload, 1, 0, 0, 0), (41, .astore_n 1, 1, 0, 0, 0), (42, .aload_n 0, 1, 0, 0, 0), (43, .getfield 12, 3, 1, 0, 0), (46, .getfield 97, 3, 2, 0, 0)]
noncomputable def cL33_3 : List MI := [(49, .dup, 1, 0, 0, 0), (50, .getfield 122, 3, 3, 3, 0), (53, .iconst 1, 1, 0, 0, 0), (54, .iadd, 1, 0, 0, 0), (55, .putfield 122, 3, 3, 3, 0), (58, .aload_n 0, 1, 0, 0, 0), (59, .getfield 21, 3, 1, 1, 0), (62, .invokevirtual 106, 3, 19, 1, 6)]
noncomputable def cL33_4 : List MI := [(65, .iconst 0, 1, 0, 0, 0), (66, .istore_n 2, 1, 0, 0, 0), (67, .iload_n 2, 1, 0, 0, 0), (68, .bipush 6, 2, 0, 0, 0), (70, .if_icmp .gt 56, 3, 0, 0, 0), (73, .aload_n 0, 1, 0, 0, 0), (74, .getfield 21, 3, 1, 1, 0), (77, .getfield 39, 3, 6, 2, 0)]
noncomputable def cL33_5 : List MI := [(80, .iconst 2, 1, 0, 0, 0), (81, .if_icmp .ne 45, 3, 0, 0, 0), (84, .aload_n 0, 1, 0, 0, 0), (85, .iconst 5, 1, 0, 0, 0), (86, .invokevirtual 109, 3, 34, 2, 1), (89, .ifCond .ne 4, 3, 0, 0, 0), (92, .return_, 1, 0, 0, 0), (93, .aload_n 1, 1, 0, 0, 0), (94, .aload_n 0, 1, 0, 0, 0), (95, .getfield 21, 3, 1, 1, 0)]
noncomputable def cL33_6 : List MI := [(98, .getfield 112, 3, 6, 5, 0), (101, .invokevirtual 129, 3, 35, 2, 5), (104, .ifCond .ne 9, 3, 0, 0, 0), (107, .aload_n 0, 1, 0, 0, 0), (108, .iconst 5, 1, 0, 0, 0), (109, .invokevirtual 94, 3, 24, 2, 1)]
noncomputable def cL33_7 : List MI := [(112, .return_, 1, 0, 0, 0), (113, .aload_n 0, 1, 0, 0, 0), (114, .getfield 21, 3, 1, 1, 0), (117, .invokevirtual 106, 3, 19, 1, 6), (120, .iinc 2 1, 3, 0, 0, 0), (123, .goto (-56), 3, 0, 0, 0), (126, .aload_n 0, 1, 0, 0, 0), (127, .invokevirtual 119, 3, 36, 1, 1)]
noncomputable def cL33_8 : List MI := [(130, .return_, 1, 0, 0, 0)]
noncomputable def cG33_0 : List MI := cL33_0 ++ ( cL33_1 ++ ( cL33_2 ++ ( cL33_3 ++ ( cL33_4 ++ ( cL33_5 ++ ( cL33_6 ++ ( cL33_7 ++ ([]))))))))
noncomputable def cG33_1 : List MI := cL33_8 ++ ([])
noncomputable def cL33 : List MI := cG33_0 ++ ( cG33_1 ++ ([]))
/-- DoorPaints$Reader.numberStands(I)Z -/
noncomputable def cL34_0 : List MI := [(0, .aload_n 0, 1, 0, 0, 0), (1, .iconst 2, 1, 0, 0, 0), (2, .invokevirtual 55, 3, 23, 2, 1), (5, .ifCond .ne 5, 3, 0, 0, 0), (8, .iconst 0, 1, 0, 0, 0), (9, .ireturn, 1, 0, 0, 0), (10, .aload_n 0, 1, 0, 0, 0), (11, .getfield 21, 3, 1, 1, 0), (14, .getfield 112, 3, 6, 5, 0)]
noncomputable def cL34_1 : List MI := [(17, .iload_n 1, 1, 0, 0, 0), (18, .if_icmp .le 10, 3, 0, 0, 0), (21, .aload_n 0, 1, 0, 0, 0), (22, .iconst 3, 1, 0, 0, 0), (23, .invokevirtual 94, 3, 24, 2, 1), (26, .iconst 0, 1, 0, 0, 0), (27, .ireturn, 1, 0, 0, 0), (28, .iconst 1, 1, 0, 0, 0), (29, .ireturn, 1, 0, 0, 0)]
noncomputable def cG34_0 : List MI := cL34_0 ++ ( cL34_1 ++ ([]))
noncomputable def cL34 : List MI := cG34_0 ++ ([])
/-- DoorPaints$Door.addLayer(I)Z -/
noncomputable def cL35_0 : List MI := [(0, .aload_n 0, 1, 0, 0, 0), (1, .getfield 15, 3, 5, 1, 0), (4, .bipush 6, 2, 0, 0, 0), (6, .if_icmp .lt 5, 3, 0, 0, 0), (9, .iconst 0, 1, 0, 0, 0), (10, .ireturn, 1, 0, 0, 0), (11, .aload_n 0, 1, 0, 0, 0), (12, .getfield 9, 3, 5, 0, 0), (15, .aload_n 0, 1, 0, 0, 0)]
noncomputable def cL35_1 : List MI := [(16, .getfield 15, 3, 5, 1, 0), (19, .iload_n 1, 1, 0, 0, 0), (20, .iastore, 1, 0, 0, 0), (21, .aload_n 0, 1, 0, 0, 0), (22, .dup, 1, 0, 0, 0), (23, .getfield 15, 3, 5, 1, 0), (26, .iconst 1, 1, 0, 0, 0), (27, .iadd, 1, 0, 0, 0), (28, .putfield 15, 3, 5, 1, 0), (31, .iconst 1, 1, 0, 0, 0)]
noncomputable def cL35_2 : List MI := [(32, .ireturn, 1, 0, 0, 0)]
noncomputable def cG35_0 : List MI := cL35_0 ++ ( cL35_1 ++ ( cL35_2 ++ ([])))
noncomputable def cL35 : List MI := cG35_0 ++ ([])
/-- DoorPaints$Reader.endLine()V -/
noncomputable def cL36_0 : List MI := [(0, .aload_n 0, 1, 0, 0, 0), (1, .iconst 3, 1, 0, 0, 0), (2, .invokevirtual 55, 3, 23, 2, 1), (5, .ifCond .eq 10, 3, 0, 0, 0), (8, .aload_n 0, 1, 0, 0, 0), (9, .getfield 21, 3, 1, 1, 0), (12, .invokevirtual 106, 3, 19, 1, 6), (15, .return_, 1, 0, 0, 0)]
noncomputable def cG36_0 : List MI := cL36_0 ++ ([])
noncomputable def cL36 : List MI := cG36_0 ++ ([])
/-- DoorPaints$Reader.readNot()V -/
noncomputable def cL37_0 : List MI := [(0, .aload_n 0, 1, 0, 0, 0), (1, .getfield 21, 3, 1, 1, 0), (4, .invokevirtual 106, 3, 19, 1, 6), (7, .aload_n 0, 1, 0, 0, 0), (8, .iconst 3, 1, 0, 0, 0), (9, .invokevirtual 109, 3, 34, 2, 1), (12, .ifCond .ne 4, 3, 0, 0, 0), (15, .return_, 1, 0, 0, 0)]
noncomputable def cL37_1 : List MI := [(16, .aload_n 0, 1, 0, 0, 0), (17, .getfield 12, 3, 1, 0, 0), (20, .getfield 97, 3, 2, 0, 0), (23, .getfield 125, 3, 3, 1, 0), (26, .aload_n 0, 1, 0, 0, 0), (27, .getfield 21, 3, 1, 1, 0), (30, .getfield 112, 3, 6, 5, 0)]
noncomputable def cL37_2 : List MI := [(33, .aaload, 1, 0, 0, 0), (34, .astore_n 1, 1, 0, 0, 0), (35, .aload_n 0, 1, 0, 0, 0), (36, .getfield 21, 3, 1, 1, 0), (39, .invokevirtual 106, 3, 19, 1, 6), (42, .aload_n 0, 1, 0, 0, 0), (43, .iconst 5, 1, 0, 0, 0), (44, .invokevirtual 109, 3, 34, 2, 1), (47, .ifCond .ne 4, 3, 0, 0, 0)]
noncomputable def cL37_3 : List MI := [(50, .return_, 1, 0, 0, 0), (51, .aload_n 1, 1, 0, 0, 0), (52, .aload_n 0, 1, 0, 0, 0), (53, .getfield 21, 3, 1, 1, 0), (56, .getfield 112, 3, 6, 5, 0), (59, .invokevirtual 134, 3, 38, 2, 5), (62, .ifCond .eq 9, 3, 0, 0, 0)]
noncomputable def cL37_4 : List MI := [(65, .aload_n 0, 1, 0, 0, 0), (66, .iconst 4, 1, 0, 0, 0), (67, .invokevirtual 94, 3, 24, 2, 1), (70, .return_, 1, 0, 0, 0), (71, .aload_n 1, 1, 0, 0, 0), (72, .aload_n 0, 1, 0, 0, 0), (73, .getfield 21, 3, 1, 1, 0), (76, .getfield 112, 3, 6, 5, 0), (79, .iconst 1, 1, 0, 0, 0)]
noncomputable def cL37_5 : List MI := [(80, .invokevirtual 137, 3, 39, 3, 5), (83, .aload_n 0, 1, 0, 0, 0), (84, .getfield 21, 3, 1, 1, 0), (87, .invokevirtual 106, 3, 19, 1, 6), (90, .aload_n 0, 1, 0, 0, 0), (91, .invokevirtual 119, 3, 36, 1, 1), (94, .return_, 1, 0, 0, 0)]
noncomputable def cG37_0 : List MI := cL37_0 ++ ( cL37_1 ++ ( cL37_2 ++ ( cL37_3 ++ ( cL37_4 ++ ( cL37_5 ++ ([]))))))
noncomputable def cL37 : List MI := cG37_0 ++ ([])
/-- DoorPaints$Door.forbids(I)Z -/
noncomputable def cL38_0 : List MI := [(0, .aload_n 0, 1, 0, 0, 0), (1, .getfield 19, 3, 5, 2, 0), (4, .iload_n 1, 1, 0, 0, 0), (5, .ishr, 1, 0, 0, 0), (6, .iconst 1, 1, 0, 0, 0), (7, .iand, 1, 0, 0, 0), (8, .iconst 1, 1, 0, 0, 0), (9, .if_icmp .ne 7, 3, 0, 0, 0), (12, .iconst 1, 1, 0, 0, 0), (13, .goto 4, 3, 0, 0, 0)]
noncomputable def cL38_1 : List MI := [(16, .iconst 0, 1, 0, 0, 0), (17, .ireturn, 1, 0, 0, 0)]
noncomputable def cG38_0 : List MI := cL38_0 ++ ( cL38_1 ++ ([]))
noncomputable def cL38 : List MI := cG38_0 ++ ([])
/-- DoorPaints$Door.forbid(IZ)V -/
noncomputable def cL39_0 : List MI := [(0, .iconst 1, 1, 0, 0, 0), (1, .iload_n 1, 1, 0, 0, 0), (2, .ishl, 1, 0, 0, 0), (3, .istore_n 3, 1, 0, 0, 0), (4, .aload_n 0, 1, 0, 0, 0), (5, .iload_n 2, 1, 0, 0, 0), (6, .ifCond .eq 12, 3, 0, 0, 0), (9, .aload_n 0, 1, 0, 0, 0), (10, .getfield 19, 3, 5, 2, 0), (13, .iload_n 3, 1, 0, 0, 0), (14, .ior, 1, 0, 0, 0), (15, .goto 11, 3, 0, 0, 0)]
noncomputable def cL39_1 : List MI := [(18, .aload_n 0, 1, 0, 0, 0), (19, .getfield 19, 3, 5, 2, 0), (22, .iload_n 3, 1, 0, 0, 0), (23, .iconst (-1), 1, 0, 0, 0), (24, .ixor, 1, 0, 0, 0), (25, .iand, 1, 0, 0, 0), (26, .putfield 19, 3, 5, 2, 0), (29, .return_, 1, 0, 0, 0)]
noncomputable def cG39_0 : List MI := cL39_0 ++ ( cL39_1 ++ ([]))
noncomputable def cL39 : List MI := cG39_0 ++ ([])
/-- DoorPaints$Reader.readPlan()V -/
noncomputable def cL40_0 : List MI := [(0, .aload_n 0, 1, 0, 0, 0), (1, .getfield 29, 3, 1, 4, 0), (4, .ifCond .eq 9, 3, 0, 0, 0), (7, .aload_n 0, 1, 0, 0, 0), (8, .iconst 4, 1, 0, 0, 0), (9, .invokevirtual 94, 3, 24, 2, 1), (12, .return_, 1, 0, 0, 0), (13, .aload_n 0, 1, 0, 0, 0), (14, .iconst 1, 1, 0, 0, 0), (15, .putfield 29, 3, 1, 4, 0)]
noncomputable def cL40_1 : List MI := [(18, .aload_n 0, 1, 0, 0, 0), (19, .getfield 21, 3, 1, 1, 0), (22, .invokevirtual 106, 3, 19, 1, 6), (25, .iconst 0, 1, 0, 0, 0), (26, .istore_n 1, 1, 0, 0, 0), (27, .iload_n 1, 1, 0, 0, 0), (28, .bipush 8, 2, 0, 0, 0), (30, .if_icmp .gt 69, 3, 0, 0, 0)]
noncomputable def cL40_2 : List MI := [(33, .aload_n 0, 1, 0, 0, 0), (34, .getfield 21, 3, 1, 1, 0), (37, .getfield 39, 3, 6, 2, 0), (40, .iconst 2, 1, 0, 0, 0), (41, .if_icmp .ne 58, 3, 0, 0, 0), (44, .aload_n 0, 1, 0, 0, 0), (45, .getfield 21, 3, 1, 1, 0)]
noncomputable def cL40_3 : List MI := [(48, .getfield 112, 3, 6, 5, 0), (51, .invokestatic 141, 3, 41, 1, 0), (54, .ifCond .ne 9, 3, 0, 0, 0), (57, .aload_n 0, 1, 0, 0, 0), (58, .iconst 3, 1, 0, 0, 0), (59, .invokevirtual 94, 3, 24, 2, 1), (62, .return_, 1, 0, 0, 0), (63, .aload_n 0, 1, 0, 0, 0)]
noncomputable def cL40_4 : List MI := [(64, .getfield 12, 3, 1, 0, 0), (67, .aload_n 0, 1, 0, 0, 0), (68, .getfield 21, 3, 1, 1, 0), (71, .getfield 112, 3, 6, 5, 0), (74, .invokevirtual 144, 3, 43, 2, 2), (77, .ifCond .ne 9, 3, 0, 0, 0)]
noncomputable def cL40_5 : List MI := [(80, .aload_n 0, 1, 0, 0, 0), (81, .iconst 5, 1, 0, 0, 0), (82, .invokevirtual 94, 3, 24, 2, 1), (85, .return_, 1, 0, 0, 0), (86, .aload_n 0, 1, 0, 0, 0), (87, .getfield 21, 3, 1, 1, 0), (90, .invokevirtual 106, 3, 19, 1, 6), (93, .iinc 1 1, 3, 0, 0, 0)]
noncomputable def cL40_6 : List MI := [(96, .goto (-69), 3, 0, 0, 0), (99, .aload_n 0, 1, 0, 0, 0), (100, .invokevirtual 119, 3, 36, 1, 1), (103, .return_, 1, 0, 0, 0)]
noncomputable def cG40_0 : List MI := cL40_0 ++ ( cL40_1 ++ ( cL40_2 ++ ( cL40_3 ++ ( cL40_4 ++ ( cL40_5 ++ ( cL40_6 ++ ([])))))))
noncomputable def cL40 : List MI := cG40_0 ++ ([])
/-- DoorPaints.isAct(I)Z -/
noncomputable def cL41_0 : List MI := [(0, .iload_n 0, 1, 0, 0, 0), (1, .ifCond .lt 23, 3, 0, 0, 0), (4, .iload_n 0, 1, 0, 0, 0), (5, .bipush 10, 2, 0, 0, 0), (7, .idiv, 1, 0, 0, 0), (8, .iconst 4, 1, 0, 0, 0), (9, .if_icmp .ge 15, 3, 0, 0, 0), (12, .iload_n 0, 1, 0, 0, 0), (13, .bipush 10, 2, 0, 0, 0), (15, .irem, 1, 0, 0, 0)]
noncomputable def cL41_1 : List MI := [(16, .iconst 4, 1, 0, 0, 0), (17, .if_icmp .ge 7, 3, 0, 0, 0), (20, .iconst 1, 1, 0, 0, 0), (21, .goto 4, 3, 0, 0, 0), (24, .iconst 0, 1, 0, 0, 0), (25, .istore_n 1, 1, 0, 0, 0), (26, .iload_n 1, 1, 0, 0, 0), (27, .ifCond .ne 10, 3, 0, 0, 0), (30, .iload_n 0, 1, 0, 0, 0), (31, .invokestatic 320, 3, 42, 1, 0)]
noncomputable def cL41_2 : List MI := [(34, .ifCond .eq 7, 3, 0, 0, 0), (37, .iconst 1, 1, 0, 0, 0), (38, .goto 4, 3, 0, 0, 0), (41, .iconst 0, 1, 0, 0, 0), (42, .ireturn, 1, 0, 0, 0)]
noncomputable def cG41_0 : List MI := cL41_0 ++ ( cL41_1 ++ ( cL41_2 ++ ([])))
noncomputable def cL41 : List MI := cG41_0 ++ ([])
/-- DoorPaints.isSkyAct(I)Z -/
noncomputable def cL42_0 : List MI := [(0, .iload_n 0, 1, 0, 0, 0), (1, .bipush 90, 2, 0, 0, 0), (3, .if_icmp .lt 13, 3, 0, 0, 0), (6, .iload_n 0, 1, 0, 0, 0), (7, .bipush 92, 2, 0, 0, 0), (9, .if_icmp .gt 7, 3, 0, 0, 0), (12, .iconst 1, 1, 0, 0, 0), (13, .goto 4, 3, 0, 0, 0)]
noncomputable def cL42_1 : List MI := [(16, .iconst 0, 1, 0, 0, 0), (17, .ireturn, 1, 0, 0, 0)]
noncomputable def cG42_0 : List MI := cL42_0 ++ ( cL42_1 ++ ([]))
noncomputable def cL42 : List MI := cG42_0 ++ ([])
/-- DoorPaints$Told.addAct(I)Z -/
noncomputable def cL43_0 : List MI := [(0, .aload_n 0, 1, 0, 0, 0), (1, .getfield 35, 3, 2, 2, 0), (4, .bipush 8, 2, 0, 0, 0), (6, .if_icmp .lt 5, 3, 0, 0, 0), (9, .iconst 0, 1, 0, 0, 0), (10, .ireturn, 1, 0, 0, 0), (11, .aload_n 0, 1, 0, 0, 0), (12, .getfield 18, 3, 2, 1, 0), (15, .aload_n 0, 1, 0, 0, 0)]
noncomputable def cL43_1 : List MI := [(16, .getfield 35, 3, 2, 2, 0), (19, .iload_n 1, 1, 0, 0, 0), (20, .iastore, 1, 0, 0, 0), (21, .aload_n 0, 1, 0, 0, 0), (22, .dup, 1, 0, 0, 0), (23, .getfield 35, 3, 2, 2, 0), (26, .iconst 1, 1, 0, 0, 0), (27, .iadd, 1, 0, 0, 0), (28, .putfield 35, 3, 2, 2, 0), (31, .iconst 1, 1, 0, 0, 0)]
noncomputable def cL43_2 : List MI := [(32, .ireturn, 1, 0, 0, 0)]
noncomputable def cG43_0 : List MI := cL43_0 ++ ( cL43_1 ++ ( cL43_2 ++ ([])))
noncomputable def cL43 : List MI := cG43_0 ++ ([])
/-- DoorPaints$Reader.kindNamed()I -/
noncomputable def cL44_0 : List MI := [(0, .aload_n 0, 1, 0, 0, 0), (1, .getfield 21, 3, 1, 1, 0), (4, .ldc 86, 2, 1, 7, 0), (6, .invokevirtual 61, 3, 25, 2, 6), (9, .ifCond .eq 5, 3, 0, 0, 0), (12, .iconst 0, 1, 0, 0, 0), (13, .ireturn, 1, 0, 0, 0), (14, .aload_n 0, 1, 0, 0, 0), (15, .getfield 21, 3, 1, 1, 0)]
noncomputable def cL44_1 : List MI := [(18, .ldc 88, 2, 1, 9, 0), (20, .invokevirtual 61, 3, 25, 2, 6), (23, .ifCond .eq 5, 3, 0, 0, 0), (26, .iconst 1, 1, 0, 0, 0), (27, .ireturn, 1, 0, 0, 0), (28, .aload_n 0, 1, 0, 0, 0), (29, .getfield 21, 3, 1, 1, 0)]
noncomputable def cL44_2 : List MI := [(32, .ldc 90, 2, 1, 11, 0), (34, .invokevirtual 61, 3, 25, 2, 6), (37, .ifCond .eq 5, 3, 0, 0, 0), (40, .iconst 2, 1, 0, 0, 0), (41, .ireturn, 1, 0, 0, 0), (42, .aload_n 0, 1, 0, 0, 0), (43, .getfield 21, 3, 1, 1, 0), (46, .ldc 92, 2, 1, 13, 0)]
noncomputable def cL44_3 : List MI := [(48, .invokevirtual 61, 3, 25, 2, 6), (51, .ifCond .eq 7, 3, 0, 0, 0), (54, .iconst 3, 1, 0, 0, 0), (55, .goto 5, 3, 0, 0, 0), (58, .bipush (-4), 2, 0, 0, 0), (60, .ireturn, 1, 0, 0, 0)]
noncomputable def cG44_0 : List MI := cL44_0 ++ ( cL44_1 ++ ( cL44_2 ++ ( cL44_3 ++ ([]))))
noncomputable def cL44 : List MI := cG44_0 ++ ([])
/-- DoorPaints$Reader.readVisitor(I)V -/
noncomputable def cL45_0 : List MI := [(0, .iload_n 1, 1, 0, 0, 0), (1, .bipush (-4), 2, 0, 0, 0), (3, .if_icmp .ne 9, 3, 0, 0, 0), (6, .aload_n 0, 1, 0, 0, 0), (7, .iconst 2, 1, 0, 0, 0), (8, .invokevirtual 94, 3, 24, 2, 1), (11, .return_, 1, 0, 0, 0), (12, .aload_n 0, 1, 0, 0, 0), (13, .getfield 12, 3, 1, 0, 0)]
noncomputable def cL45_1 : List MI := [(16, .getfield 97, 3, 2, 0, 0), (19, .getfield 101, 3, 3, 2, 0), (22, .iconst 4, 1, 0, 0, 0), (23, .if_icmp .lt 9, 3, 0, 0, 0), (26, .aload_n 0, 1, 0, 0, 0), (27, .iconst 5, 1, 0, 0, 0), (28, .invokevirtual 94, 3, 24, 2, 1), (31, .return_, 1, 0, 0, 0)]
noncomputable def cL45_2 : List MI := [(32, .aload_n 0, 1, 0, 0, 0), (33, .getfield 21, 3, 1, 1, 0), (36, .invokevirtual 106, 3, 19, 1, 6), (39, .aload_n 0, 1, 0, 0, 0), (40, .iconst 5, 1, 0, 0, 0), (41, .invokevirtual 109, 3, 34, 2, 1), (44, .ifCond .ne 4, 3, 0, 0, 0), (47, .return_, 1, 0, 0, 0)]
noncomputable def cL45_3 : List MI := [(48, .aload_n 0, 1, 0, 0, 0), (49, .getfield 21, 3, 1, 1, 0), (52, .getfield 112, 3, 6, 5, 0), (55, .istore_n 2, 1, 0, 0, 0), (56, .aload_n 0, 1, 0, 0, 0), (57, .getfield 21, 3, 1, 1, 0), (60, .invokevirtual 106, 3, 19, 1, 6), (63, .aload_n 0, 1, 0, 0, 0)]
noncomputable def cL45_4 : List MI := [(64, .bipush 99, 2, 0, 0, 0), (66, .invokevirtual 109, 3, 34, 2, 1), (69, .ifCond .ne 4, 3, 0, 0, 0), (72, .return_, 1, 0, 0, 0), (73, .aload_n 0, 1, 0, 0, 0), (74, .getfield 12, 3, 1, 0, 0), (77, .getfield 97, 3, 2, 0, 0)]
noncomputable def cL45_5 : List MI := [(80, .iload_n 1, 1, 0, 0, 0), (81, .iload_n 2, 1, 0, 0, 0), (82, .aload_n 0, 1, 0, 0, 0), (83, .getfield 21, 3, 1, 1, 0), (86, .getfield 112, 3, 6, 5, 0), (89, .invokevirtual 115, 3, 46, 4, 3), (92, .aload_n 0, 1, 0, 0, 0), (93, .getfield 21, 3, 1, 1, 0)]
noncomputable def cL45_6 : List MI := [(96, .invokevirtual 106, 3, 19, 1, 6), (99, .aload_n 0, 1, 0, 0, 0), (100, .invokevirtual 119, 3, 36, 1, 1), (103, .return_, 1, 0, 0, 0)]
noncomputable def cG45_0 : List MI := cL45_0 ++ ( cL45_1 ++ ( cL45_2 ++ ( cL45_3 ++ ( cL45_4 ++ ( cL45_5 ++ ( cL45_6 ++ ([])))))))
noncomputable def cL45 : List MI := cG45_0 ++ ([])
/-- DoorPaints$Town.addVisitor(III)V -/
noncomputable def cL46_0 : List MI := [(0, .aload_n 0, 1, 0, 0, 0), (1, .getfield 29, 3, 3, 2, 0), (4, .iconst 4, 1, 0, 0, 0), (5, .if_icmp .ge 48, 3, 0, 0, 0), (8, .aload_n 0, 1, 0, 0, 0), (9, .getfield 11, 3, 3, 0, 0), (12, .aload_n 0, 1, 0, 0, 0), (13, .getfield 29, 3, 3, 2, 0)]
noncomputable def cL46_1 : List MI := [(16, .aaload, 1, 0, 0, 0), (17, .astore 4, 2, 0, 0, 0), (19, .aload 4, 2, 0, 0, 0), (21, .iload_n 1, 1, 0, 0, 0), (22, .putfield 55, 3, 4, 0, 0), (25, .aload 4, 2, 0, 0, 0), (27, .iload_n 2, 1, 0, 0, 0), (28, .putfield 58, 3, 4, 1, 0), (31, .aload 4, 2, 0, 0, 0)]
noncomputable def cL46_2 : List MI := [(33, .iload_n 3, 1, 0, 0, 0), (34, .putfield 61, 3, 4, 2, 0), (37, .aload 4, 2, 0, 0, 0), (39, .iconst 0, 1, 0, 0, 0), (40, .putfield 64, 3, 4, 3, 0), (43, .aload_n 0, 1, 0, 0, 0), (44, .dup, 1, 0, 0, 0), (45, .getfield 29, 3, 3, 2, 0)]
noncomputable def cL46_3 : List MI := [(48, .iconst 1, 1, 0, 0, 0), (49, .iadd, 1, 0, 0, 0), (50, .putfield 29, 3, 3, 2, 0), (53, .return_, 1, 0, 0, 0)]
noncomputable def cG46_0 : List MI := cL46_0 ++ ( cL46_1 ++ ( cL46_2 ++ ( cL46_3 ++ ([]))))
noncomputable def cL46 : List MI := cG46_0 ++ ([])
/-- DoorPaints$Told.isWhole()Z -/
noncomputable def cL47_0 : List MI := [(0, .iconst 0, 1, 0, 0, 0), (1, .istore_n 1, 1, 0, 0, 0), (2, .iload_n 1, 1, 0, 0, 0), (3, .aload_n 0, 1, 0, 0, 0), (4, .getfield 35, 3, 2, 2, 0), (7, .if_icmp .ge 27, 3, 0, 0, 0), (10, .aload_n 0, 1, 0, 0, 0), (11, .getfield 12, 3, 2, 0, 0), (14, .aload_n 0, 1, 0, 0, 0), (15, .getfield 18, 3, 2, 1, 0)]
noncomputable def cL47_1 : List MI := [(18, .iload_n 1, 1, 0, 0, 0), (19, .iaload, 1, 0, 0, 0), (20, .invokevirtual 62, 3, 48, 2, 3), (23, .ifCond .ne 5, 3, 0, 0, 0), (26, .iconst 0, 1, 0, 0, 0), (27, .ireturn, 1, 0, 0, 0), (28, .iinc 1 1, 3, 0, 0, 0), (31, .goto (-29), 3, 0, 0, 0)]
noncomputable def cL47_2 : List MI := [(34, .aload_n 0, 1, 0, 0, 0), (35, .getfield 12, 3, 2, 0, 0), (38, .getfield 65, 3, 3, 3, 0), (41, .istore_n 1, 1, 0, 0, 0), (42, .iload_n 1, 1, 0, 0, 0), (43, .iconst 4, 1, 0, 0, 0), (44, .if_icmp .ge 26, 3, 0, 0, 0), (47, .aload_n 0, 1, 0, 0, 0)]
noncomputable def cL47_3 : List MI := [(48, .getfield 12, 3, 2, 0, 0), (51, .getfield 49, 3, 3, 1, 0), (54, .iload_n 1, 1, 0, 0, 0), (55, .aaload, 1, 0, 0, 0), (56, .getfield 68, 3, 5, 2, 0), (59, .ifCond .eq 5, 3, 0, 0, 0), (62, .iconst 0, 1, 0, 0, 0), (63, .ireturn, 1, 0, 0, 0)]
noncomputable def cL47_4 : List MI := [(64, .iinc 1 1, 3, 0, 0, 0), (67, .goto (-25), 3, 0, 0, 0), (70, .iconst 1, 1, 0, 0, 0), (71, .ireturn, 1, 0, 0, 0)]
noncomputable def cG47_0 : List MI := cL47_0 ++ ( cL47_1 ++ ( cL47_2 ++ ( cL47_3 ++ ( cL47_4 ++ ([])))))
noncomputable def cL47 : List MI := cG47_0 ++ ([])
/-- DoorPaints$Town.knows(I)Z -/
noncomputable def cL48_0 : List MI := [(0, .iload_n 1, 1, 0, 0, 0), (1, .invokestatic 45, 3, 42, 1, 0), (4, .ifCond .ne 25, 3, 0, 0, 0), (7, .aload_n 0, 1, 0, 0, 0), (8, .iload_n 1, 1, 0, 0, 0), (9, .bipush 10, 2, 0, 0, 0), (11, .idiv, 1, 0, 0, 0), (12, .invokevirtual 49, 3, 49, 2, 3), (15, .ifCond .eq 18, 3, 0, 0, 0)]
noncomputable def cL48_1 : List MI := [(18, .aload_n 0, 1, 0, 0, 0), (19, .iload_n 1, 1, 0, 0, 0), (20, .bipush 10, 2, 0, 0, 0), (22, .irem, 1, 0, 0, 0), (23, .invokevirtual 52, 3, 50, 2, 3), (26, .ifCond .eq 7, 3, 0, 0, 0), (29, .iconst 1, 1, 0, 0, 0), (30, .goto 4, 3, 0, 0, 0)]
noncomputable def cL48_2 : List MI := [(33, .iconst 0, 1, 0, 0, 0), (34, .ireturn, 1, 0, 0, 0)]
noncomputable def cG48_0 : List MI := cL48_0 ++ ( cL48_1 ++ ( cL48_2 ++ ([])))
noncomputable def cL48 : List MI := cG48_0 ++ ([])
/-- DoorPaints$Town.hasVisitor(I)Z -/
noncomputable def cL49_0 : List MI := [(0, .iload_n 1, 1, 0, 0, 0), (1, .ifCond .lt 15, 3, 0, 0, 0), (4, .iload_n 1, 1, 0, 0, 0), (5, .aload_n 0, 1, 0, 0, 0), (6, .getfield 29, 3, 3, 2, 0), (9, .if_icmp .ge 7, 3, 0, 0, 0), (12, .iconst 1, 1, 0, 0, 0), (13, .goto 4, 3, 0, 0, 0)]
noncomputable def cL49_1 : List MI := [(16, .iconst 0, 1, 0, 0, 0), (17, .ireturn, 1, 0, 0, 0)]
noncomputable def cG49_0 : List MI := cL49_0 ++ ( cL49_1 ++ ([]))
noncomputable def cL49 : List MI := cG49_0 ++ ([])
/-- DoorPaints$Town.hasDoor(I)Z -/
noncomputable def cL50_0 : List MI := [(0, .iload_n 1, 1, 0, 0, 0), (1, .ifCond .lt 15, 3, 0, 0, 0), (4, .iload_n 1, 1, 0, 0, 0), (5, .aload_n 0, 1, 0, 0, 0), (6, .getfield 36, 3, 3, 3, 0), (9, .if_icmp .ge 7, 3, 0, 0, 0), (12, .iconst 1, 1, 0, 0, 0), (13, .goto 4, 3, 0, 0, 0)]
noncomputable def cL50_1 : List MI := [(16, .iconst 0, 1, 0, 0, 0), (17, .ireturn, 1, 0, 0, 0)]
noncomputable def cG50_0 : List MI := cL50_0 ++ ( cL50_1 ++ ([]))
noncomputable def cL50 : List MI := cG50_0 ++ ([])
/-- DoorPaints$Told.become(LDoorPaints$Told;)V -/
noncomputable def cL51_0 : List MI := [(0, .aload_n 0, 1, 0, 0, 0), (1, .getfield 12, 3, 2, 0, 0), (4, .aload_n 1, 1, 0, 0, 0), (5, .getfield 12, 3, 2, 0, 0), (8, .invokevirtual 31, 3, 52, 2, 3), (11, .aload_n 0, 1, 0, 0, 0), (12, .aload_n 1, 1, 0, 0, 0), (13, .getfield 35, 3, 2, 2, 0)]
noncomputable def cL51_1 : List MI := [(16, .putfield 35, 3, 2, 2, 0), (19, .iconst 0, 1, 0, 0, 0), (20, .istore_n 2, 1, 0, 0, 0), (21, .iload_n 2, 1, 0, 0, 0), (22, .aload_n 0, 1, 0, 0, 0), (23, .getfield 35, 3, 2, 2, 0), (26, .if_icmp .ge 21, 3, 0, 0, 0), (29, .aload_n 0, 1, 0, 0, 0), (30, .getfield 18, 3, 2, 1, 0)]
noncomputable def cL51_2 : List MI := [(33, .iload_n 2, 1, 0, 0, 0), (34, .aload_n 1, 1, 0, 0, 0), (35, .getfield 18, 3, 2, 1, 0), (38, .iload_n 2, 1, 0, 0, 0), (39, .iaload, 1, 0, 0, 0), (40, .iastore, 1, 0, 0, 0), (41, .iinc 2 1, 3, 0, 0, 0), (44, .goto (-23), 3, 0, 0, 0), (47, .aload_n 0, 1, 0, 0, 0)]
noncomputable def cL51_3 : List MI := [(48, .aload_n 1, 1, 0, 0, 0), (49, .getfield 39, 3, 2, 6, 0), (52, .putfield 39, 3, 2, 6, 0), (55, .iconst 0, 1, 0, 0, 0), (56, .istore_n 2, 1, 0, 0, 0), (57, .iload_n 2, 1, 0, 0, 0), (58, .aload_n 0, 1, 0, 0, 0), (59, .getfield 39, 3, 2, 6, 0), (62, .if_icmp .ge 45, 3, 0, 0, 0)]
noncomputable def cL51_4 : List MI := [(65, .aload_n 0, 1, 0, 0, 0), (66, .getfield 22, 3, 2, 3, 0), (69, .iload_n 2, 1, 0, 0, 0), (70, .aload_n 1, 1, 0, 0, 0), (71, .getfield 22, 3, 2, 3, 0), (74, .iload_n 2, 1, 0, 0, 0), (75, .iaload, 1, 0, 0, 0), (76, .iastore, 1, 0, 0, 0), (77, .aload_n 0, 1, 0, 0, 0), (78, .getfield 25, 3, 2, 4, 0)]
noncomputable def cL51_5 : List MI := [(81, .iload_n 2, 1, 0, 0, 0), (82, .aload_n 1, 1, 0, 0, 0), (83, .getfield 25, 3, 2, 4, 0), (86, .iload_n 2, 1, 0, 0, 0), (87, .iaload, 1, 0, 0, 0), (88, .iastore, 1, 0, 0, 0), (89, .aload_n 0, 1, 0, 0, 0), (90, .getfield 28, 3, 2, 5, 0), (93, .iload_n 2, 1, 0, 0, 0), (94, .aload_n 1, 1, 0, 0, 0), (95, .getfield 28, 3, 2, 5, 0)]
noncomputable def cL51_6 : List MI := [(98, .iload_n 2, 1, 0, 0, 0), (99, .iaload, 1, 0, 0, 0), (100, .iastore, 1, 0, 0, 0), (101, .iinc 2 1, 3, 0, 0, 0), (104, .goto (-47), 3, 0, 0, 0), (107, .return_, 1, 0, 0, 0)]
noncomputable def cG51_0 : List MI := cL51_0 ++ ( cL51_1 ++ ( cL51_2 ++ ( cL51_3 ++ ( cL51_4 ++ ( cL51_5 ++ ( cL51_6 ++ ([])))))))
noncomputable def cL51 : List MI := cG51_0 ++ ([])
/-- DoorPaints$Town.become(LDoorPaints$Town;)V -/
noncomputable def cL52_0 : List MI := [(0, .aload_n 0, 1, 0, 0, 0), (1, .aload_n 1, 1, 0, 0, 0), (2, .getfield 29, 3, 3, 2, 0), (5, .putfield 29, 3, 3, 2, 0), (8, .iconst 0, 1, 0, 0, 0), (9, .istore_n 2, 1, 0, 0, 0), (10, .iload_n 2, 1, 0, 0, 0), (11, .aload_n 0, 1, 0, 0, 0), (12, .getfield 29, 3, 3, 2, 0), (15, .if_icmp .ge 24, 3, 0, 0, 0)]
noncomputable def cL52_1 : List MI := [(18, .aload_n 0, 1, 0, 0, 0), (19, .getfield 11, 3, 3, 0, 0), (22, .iload_n 2, 1, 0, 0, 0), (23, .aaload, 1, 0, 0, 0), (24, .aload_n 1, 1, 0, 0, 0), (25, .getfield 11, 3, 3, 0, 0), (28, .iload_n 2, 1, 0, 0, 0), (29, .aaload, 1, 0, 0, 0), (30, .invokevirtual 32, 3, 53, 2, 4)]
noncomputable def cL52_2 : List MI := [(33, .iinc 2 1, 3, 0, 0, 0), (36, .goto (-26), 3, 0, 0, 0), (39, .aload_n 0, 1, 0, 0, 0), (40, .aload_n 1, 1, 0, 0, 0), (41, .getfield 36, 3, 3, 3, 0), (44, .putfield 36, 3, 3, 3, 0), (47, .iconst 0, 1, 0, 0, 0)]
noncomputable def cL52_3 : List MI := [(48, .istore_n 2, 1, 0, 0, 0), (49, .iload_n 2, 1, 0, 0, 0), (50, .aload_n 0, 1, 0, 0, 0), (51, .getfield 36, 3, 3, 3, 0), (54, .if_icmp .ge 24, 3, 0, 0, 0), (57, .aload_n 0, 1, 0, 0, 0), (58, .getfield 20, 3, 3, 1, 0), (61, .iload_n 2, 1, 0, 0, 0), (62, .aaload, 1, 0, 0, 0), (63, .aload_n 1, 1, 0, 0, 0)]
noncomputable def cL52_4 : List MI := [(64, .getfield 20, 3, 3, 1, 0), (67, .iload_n 2, 1, 0, 0, 0), (68, .aaload, 1, 0, 0, 0), (69, .invokevirtual 39, 3, 54, 2, 5), (72, .iinc 2 1, 3, 0, 0, 0), (75, .goto (-26), 3, 0, 0, 0), (78, .aload_n 0, 1, 0, 0, 0), (79, .bipush (-4), 2, 0, 0, 0)]
noncomputable def cL52_5 : List MI := [(81, .putfield 25, 3, 3, 4, 0), (84, .return_, 1, 0, 0, 0)]
noncomputable def cG52_0 : List MI := cL52_0 ++ ( cL52_1 ++ ( cL52_2 ++ ( cL52_3 ++ ( cL52_4 ++ ( cL52_5 ++ ([]))))))
noncomputable def cL52 : List MI := cG52_0 ++ ([])
/-- DoorPaints$Visitor.become(LDoorPaints$Visitor;)V -/
noncomputable def cL53_0 : List MI := [(0, .aload_n 0, 1, 0, 0, 0), (1, .aload_n 1, 1, 0, 0, 0), (2, .getfield 7, 3, 4, 0, 0), (5, .putfield 7, 3, 4, 0, 0), (8, .aload_n 0, 1, 0, 0, 0), (9, .aload_n 1, 1, 0, 0, 0), (10, .getfield 13, 3, 4, 1, 0), (13, .putfield 13, 3, 4, 1, 0)]
noncomputable def cL53_1 : List MI := [(16, .aload_n 0, 1, 0, 0, 0), (17, .aload_n 1, 1, 0, 0, 0), (18, .getfield 16, 3, 4, 2, 0), (21, .putfield 16, 3, 4, 2, 0), (24, .aload_n 0, 1, 0, 0, 0), (25, .aload_n 1, 1, 0, 0, 0), (26, .getfield 19, 3, 4, 3, 0), (29, .putfield 19, 3, 4, 3, 0)]
noncomputable def cL53_2 : List MI := [(32, .return_, 1, 0, 0, 0)]
noncomputable def cG53_0 : List MI := cL53_0 ++ ( cL53_1 ++ ( cL53_2 ++ ([])))
noncomputable def cL53 : List MI := cG53_0 ++ ([])
/-- DoorPaints$Door.become(LDoorPaints$Door;)V -/
noncomputable def cL54_0 : List MI := [(0, .iconst 0, 1, 0, 0, 0), (1, .istore_n 2, 1, 0, 0, 0), (2, .iload_n 2, 1, 0, 0, 0), (3, .aload_n 1, 1, 0, 0, 0), (4, .getfield 15, 3, 5, 1, 0), (7, .if_icmp .ge 21, 3, 0, 0, 0), (10, .aload_n 0, 1, 0, 0, 0), (11, .getfield 9, 3, 5, 0, 0), (14, .iload_n 2, 1, 0, 0, 0), (15, .aload_n 1, 1, 0, 0, 0)]
noncomputable def cL54_1 : List MI := [(16, .getfield 9, 3, 5, 0, 0), (19, .iload_n 2, 1, 0, 0, 0), (20, .iaload, 1, 0, 0, 0), (21, .iastore, 1, 0, 0, 0), (22, .iinc 2 1, 3, 0, 0, 0), (25, .goto (-23), 3, 0, 0, 0), (28, .aload_n 0, 1, 0, 0, 0), (29, .aload_n 1, 1, 0, 0, 0), (30, .getfield 15, 3, 5, 1, 0)]
noncomputable def cL54_2 : List MI := [(33, .putfield 15, 3, 5, 1, 0), (36, .aload_n 0, 1, 0, 0, 0), (37, .aload_n 1, 1, 0, 0, 0), (38, .getfield 19, 3, 5, 2, 0), (41, .putfield 19, 3, 5, 2, 0), (44, .aload_n 0, 1, 0, 0, 0), (45, .aload_n 1, 1, 0, 0, 0), (46, .getfield 22, 3, 5, 3, 0)]
noncomputable def cL54_3 : List MI := [(49, .putfield 22, 3, 5, 3, 0), (52, .return_, 1, 0, 0, 0)]
noncomputable def cG54_0 : List MI := cL54_0 ++ ( cL54_1 ++ ( cL54_2 ++ ( cL54_3 ++ ([]))))
noncomputable def cL54 : List MI := cG54_0 ++ ([])
/-- DoorPaints.fault()I -/
noncomputable def cL55_0 : List MI := [(0, .aload_n 0, 1, 0, 0, 0), (1, .getfield 80, 3, 0, 9, 0), (4, .ireturn, 1, 0, 0, 0)]
noncomputable def cG55_0 : List MI := cL55_0 ++ ([])
noncomputable def cL55 : List MI := cG55_0 ++ ([])
/-- DoorPaints.rule(I)I -/
noncomputable def cL56_0 : List MI := [(0, .iload_n 1, 1, 0, 0, 0), (1, .tableswitch 102 0 5 #[39, 50, 61, 69, 80, 91], 39, 0, 0, 0)]
noncomputable def cL56_1 : List MI := []
noncomputable def cL56_2 : List MI := [(40, .aload_n 0, 1, 0, 0, 0), (41, .getfield 26, 3, 0, 2, 0), (44, .getfield 90, 3, 2, 0, 0), (47, .getfield 93, 3, 3, 2, 0)]
noncomputable def cL56_3 : List MI := [(50, .ireturn, 1, 0, 0, 0), (51, .aload_n 0, 1, 0, 0, 0), (52, .getfield 26, 3, 0, 2, 0), (55, .getfield 90, 3, 2, 0, 0), (58, .getfield 96, 3, 3, 3, 0), (61, .ireturn, 1, 0, 0, 0), (62, .aload_n 0, 1, 0, 0, 0), (63, .getfield 26, 3, 0, 2, 0)]
noncomputable def cL56_4 : List MI := [(66, .getfield 99, 3, 2, 2, 0), (69, .ireturn, 1, 0, 0, 0), (70, .aload_n 0, 1, 0, 0, 0), (71, .getfield 26, 3, 0, 2, 0), (74, .getfield 90, 3, 2, 0, 0), (77, .invokevirtual 102, 3, 57, 1, 3)]
noncomputable def cL56_5 : List MI := [(80, .ireturn, 1, 0, 0, 0), (81, .aload_n 0, 1, 0, 0, 0), (82, .getfield 26, 3, 0, 2, 0), (85, .getfield 90, 3, 2, 0, 0), (88, .invokevirtual 105, 3, 58, 1, 3), (91, .ireturn, 1, 0, 0, 0), (92, .aload_n 0, 1, 0, 0, 0), (93, .getfield 26, 3, 0, 2, 0)]
noncomputable def cL56_6 : List MI := [(96, .getfield 90, 3, 2, 0, 0), (99, .invokevirtual 108, 3, 61, 1, 3), (102, .ireturn, 1, 0, 0, 0), (103, .iconst (-1), 1, 0, 0, 0), (104, .ireturn, 1, 0, 0, 0)]
noncomputable def cG56_0 : List MI := cL56_0 ++ ( cL56_1 ++ ( cL56_2 ++ ( cL56_3 ++ ( cL56_4 ++ ( cL56_5 ++ ( cL56_6 ++ ([])))))))
noncomputable def cL56 : List MI := cG56_0 ++ ([])
/-- DoorPaints$Town.wetBits()I -/
noncomputable def cL57_0 : List MI := [(0, .iconst 0, 1, 0, 0, 0), (1, .istore_n 1, 1, 0, 0, 0), (2, .iconst 0, 1, 0, 0, 0), (3, .istore_n 2, 1, 0, 0, 0), (4, .iload_n 2, 1, 0, 0, 0), (5, .aload_n 0, 1, 0, 0, 0), (6, .getfield 36, 3, 3, 3, 0), (9, .if_icmp .ge 31, 3, 0, 0, 0), (12, .iload_n 1, 1, 0, 0, 0), (13, .aload_n 0, 1, 0, 0, 0), (14, .getfield 20, 3, 3, 1, 0)]
noncomputable def cL57_1 : List MI := [(17, .iload_n 2, 1, 0, 0, 0), (18, .aaload, 1, 0, 0, 0), (19, .getfield 81, 3, 5, 3, 0), (22, .ifCond .eq 9, 3, 0, 0, 0), (25, .iconst 1, 1, 0, 0, 0), (26, .iload_n 2, 1, 0, 0, 0), (27, .ishl, 1, 0, 0, 0), (28, .goto 4, 3, 0, 0, 0), (31, .iconst 0, 1, 0, 0, 0)]
noncomputable def cL57_2 : List MI := [(32, .ior, 1, 0, 0, 0), (33, .istore_n 1, 1, 0, 0, 0), (34, .iinc 2 1, 3, 0, 0, 0), (37, .goto (-33), 3, 0, 0, 0), (40, .iload_n 1, 1, 0, 0, 0), (41, .ireturn, 1, 0, 0, 0)]
noncomputable def cG57_0 : List MI := cL57_0 ++ ( cL57_1 ++ ( cL57_2 ++ ([])))
noncomputable def cL57 : List MI := cG57_0 ++ ([])
/-- DoorPaints$Town.wrongBits()I -/
noncomputable def cL58_0 : List MI := [(0, .iconst 0, 1, 0, 0, 0), (1, .istore_n 1, 1, 0, 0, 0), (2, .iconst 0, 1, 0, 0, 0), (3, .istore_n 2, 1, 0, 0, 0), (4, .iload_n 2, 1, 0, 0, 0), (5, .aload_n 0, 1, 0, 0, 0), (6, .getfield 36, 3, 3, 3, 0), (9, .if_icmp .ge 31, 3, 0, 0, 0), (12, .iload_n 1, 1, 0, 0, 0), (13, .aload_n 0, 1, 0, 0, 0), (14, .getfield 20, 3, 3, 1, 0)]
noncomputable def cL58_1 : List MI := [(17, .iload_n 2, 1, 0, 0, 0), (18, .aaload, 1, 0, 0, 0), (19, .invokevirtual 118, 3, 59, 1, 5), (22, .ifCond .eq 9, 3, 0, 0, 0), (25, .iconst 1, 1, 0, 0, 0), (26, .iload_n 2, 1, 0, 0, 0), (27, .ishl, 1, 0, 0, 0), (28, .goto 4, 3, 0, 0, 0), (31, .iconst 0, 1, 0, 0, 0)]
noncomputable def cL58_2 : List MI := [(32, .ior, 1, 0, 0, 0), (33, .istore_n 1, 1, 0, 0, 0), (34, .iinc 2 1, 3, 0, 0, 0), (37, .goto (-33), 3, 0, 0, 0), (40, .iload_n 1, 1, 0, 0, 0), (41, .ireturn, 1, 0, 0, 0)]
noncomputable def cG58_0 : List MI := cL58_0 ++ ( cL58_1 ++ ( cL58_2 ++ ([])))
noncomputable def cL58 : List MI := cG58_0 ++ ([])
/-- DoorPaints$Door.isWrong()Z -/
noncomputable def cL59_0 : List MI := [(0, .aload_n 0, 1, 0, 0, 0), (1, .invokevirtual 26, 3, 60, 1, 5), (4, .istore_n 1, 1, 0, 0, 0), (5, .iload_n 1, 1, 0, 0, 0), (6, .bipush (-4), 2, 0, 0, 0), (8, .if_icmp .eq 15, 3, 0, 0, 0), (11, .aload_n 0, 1, 0, 0, 0), (12, .iload_n 1, 1, 0, 0, 0), (13, .invokevirtual 30, 3, 38, 2, 5)]
noncomputable def cL59_1 : List MI := [(16, .ifCond .eq 7, 3, 0, 0, 0), (19, .iconst 1, 1, 0, 0, 0), (20, .goto 4, 3, 0, 0, 0), (23, .iconst 0, 1, 0, 0, 0), (24, .ireturn, 1, 0, 0, 0)]
noncomputable def cG59_0 : List MI := cL59_0 ++ ( cL59_1 ++ ([]))
noncomputable def cL59 : List MI := cG59_0 ++ ([])
/-- DoorPaints$Door.shown()I -/
noncomputable def cL60_0 : List MI := [(0, .aload_n 0, 1, 0, 0, 0), (1, .getfield 15, 3, 5, 1, 0), (4, .ifCond .le 26, 3, 0, 0, 0), (7, .aload_n 0, 1, 0, 0, 0), (8, .getfield 15, 3, 5, 1, 0), (11, .bipush 6, 2, 0, 0, 0), (13, .if_icmp .gt 17, 3, 0, 0, 0)]
noncomputable def cL60_1 : List MI := [(16, .aload_n 0, 1, 0, 0, 0), (17, .getfield 9, 3, 5, 0, 0), (20, .aload_n 0, 1, 0, 0, 0), (21, .getfield 15, 3, 5, 1, 0), (24, .iconst 1, 1, 0, 0, 0), (25, .isub, 1, 0, 0, 0), (26, .iaload, 1, 0, 0, 0), (27, .goto 5, 3, 0, 0, 0), (30, .bipush (-4), 2, 0, 0, 0)]
noncomputable def cL60_2 : List MI := [(32, .ireturn, 1, 0, 0, 0)]
noncomputable def cG60_0 : List MI := cL60_0 ++ ( cL60_1 ++ ( cL60_2 ++ ([])))
noncomputable def cL60 : List MI := cG60_0 ++ ([])
/-- DoorPaints$Town.allPaint()I -/
noncomputable def cL61_0 : List MI := [(0, .iconst 0, 1, 0, 0, 0), (1, .istore_n 1, 1, 0, 0, 0), (2, .iconst 0, 1, 0, 0, 0), (3, .istore_n 2, 1, 0, 0, 0), (4, .iload_n 2, 1, 0, 0, 0), (5, .aload_n 0, 1, 0, 0, 0), (6, .getfield 29, 3, 3, 2, 0), (9, .if_icmp .ge 21, 3, 0, 0, 0), (12, .iload_n 1, 1, 0, 0, 0), (13, .aload_n 0, 1, 0, 0, 0), (14, .getfield 11, 3, 3, 0, 0)]
noncomputable def cL61_1 : List MI := [(17, .iload_n 2, 1, 0, 0, 0), (18, .aaload, 1, 0, 0, 0), (19, .getfield 61, 3, 4, 2, 0), (22, .iadd, 1, 0, 0, 0), (23, .istore_n 1, 1, 0, 0, 0), (24, .iinc 2 1, 3, 0, 0, 0), (27, .goto (-23), 3, 0, 0, 0), (30, .iload_n 1, 1, 0, 0, 0), (31, .ireturn, 1, 0, 0, 0)]
noncomputable def cG61_0 : List MI := cL61_0 ++ ( cL61_1 ++ ([]))
noncomputable def cL61 : List MI := cG61_0 ++ ([])
/-- DoorPaints.visitor(II)I -/
noncomputable def cL62_0 : List MI := [(0, .aload_n 0, 1, 0, 0, 0), (1, .getfield 26, 3, 0, 2, 0), (4, .getfield 90, 3, 2, 0, 0), (7, .iload_n 1, 1, 0, 0, 0), (8, .invokevirtual 111, 3, 49, 2, 3), (11, .ifCond .ne 5, 3, 0, 0, 0), (14, .iconst (-1), 1, 0, 0, 0), (15, .ireturn, 1, 0, 0, 0)]
noncomputable def cL62_1 : List MI := [(16, .aload_n 0, 1, 0, 0, 0), (17, .getfield 26, 3, 0, 2, 0), (20, .getfield 90, 3, 2, 0, 0), (23, .getfield 114, 3, 3, 0, 0), (26, .iload_n 1, 1, 0, 0, 0), (27, .aaload, 1, 0, 0, 0), (28, .astore_n 3, 1, 0, 0, 0), (29, .iload_n 2, 1, 0, 0, 0), (30, .tableswitch 66 0 4 #[34, 39, 44, 49, 54], 34, 0, 0, 0)]
noncomputable def cL62_2 : List MI := []
noncomputable def cL62_3 : List MI := []
noncomputable def cL62_4 : List MI := [(64, .aload_n 3, 1, 0, 0, 0), (65, .getfield 118, 3, 4, 0, 0), (68, .ireturn, 1, 0, 0, 0), (69, .aload_n 3, 1, 0, 0, 0), (70, .getfield 123, 3, 4, 1, 0), (73, .ireturn, 1, 0, 0, 0), (74, .aload_n 3, 1, 0, 0, 0), (75, .getfield 126, 3, 4, 2, 0), (78, .ireturn, 1, 0, 0, 0), (79, .aload_n 3, 1, 0, 0, 0)]
noncomputable def cL62_5 : List MI := [(80, .getfield 129, 3, 4, 3, 0), (83, .ireturn, 1, 0, 0, 0), (84, .aload_n 0, 1, 0, 0, 0), (85, .getfield 26, 3, 0, 2, 0), (88, .getfield 90, 3, 2, 0, 0), (91, .iload_n 1, 1, 0, 0, 0), (92, .invokevirtual 132, 3, 63, 2, 3), (95, .ireturn, 1, 0, 0, 0)]
noncomputable def cL62_6 : List MI := [(96, .iconst (-1), 1, 0, 0, 0), (97, .ireturn, 1, 0, 0, 0)]
noncomputable def cG62_0 : List MI := cL62_0 ++ ( cL62_1 ++ ( cL62_2 ++ ( cL62_3 ++ ( cL62_4 ++ ( cL62_5 ++ ( cL62_6 ++ ([])))))))
noncomputable def cL62 : List MI := cG62_0 ++ ([])
/-- DoorPaints$Town.brushOf(I)I -/
noncomputable def cL63_0 : List MI := [(0, .aload_n 0, 1, 0, 0, 0), (1, .iload_n 1, 1, 0, 0, 0), (2, .invokevirtual 49, 3, 49, 2, 3), (5, .ifCond .ne 5, 3, 0, 0, 0), (8, .iconst (-1), 1, 0, 0, 0), (9, .ireturn, 1, 0, 0, 0), (10, .iload_n 1, 1, 0, 0, 0), (11, .aload_n 0, 1, 0, 0, 0), (12, .getfield 25, 3, 3, 4, 0), (15, .if_icmp .ne 8, 3, 0, 0, 0)]
noncomputable def cL63_1 : List MI := [(18, .aload_n 0, 1, 0, 0, 0), (19, .getfield 67, 3, 3, 5, 0), (22, .ireturn, 1, 0, 0, 0), (23, .aload_n 0, 1, 0, 0, 0), (24, .getfield 11, 3, 3, 0, 0), (27, .iload_n 1, 1, 0, 0, 0), (28, .aaload, 1, 0, 0, 0), (29, .getfield 55, 3, 4, 0, 0)]
noncomputable def cL63_2 : List MI := [(32, .iconst 3, 1, 0, 0, 0), (33, .if_icmp .ne 15, 3, 0, 0, 0), (36, .aload_n 0, 1, 0, 0, 0), (37, .getfield 11, 3, 3, 0, 0), (40, .iconst 0, 1, 0, 0, 0), (41, .aaload, 1, 0, 0, 0), (42, .getfield 58, 3, 4, 1, 0), (45, .goto 12, 3, 0, 0, 0)]
noncomputable def cL63_3 : List MI := [(48, .aload_n 0, 1, 0, 0, 0), (49, .getfield 11, 3, 3, 0, 0), (52, .iload_n 1, 1, 0, 0, 0), (53, .aaload, 1, 0, 0, 0), (54, .getfield 58, 3, 4, 1, 0), (57, .ireturn, 1, 0, 0, 0)]
noncomputable def cG63_0 : List MI := cL63_0 ++ ( cL63_1 ++ ( cL63_2 ++ ( cL63_3 ++ ([]))))
noncomputable def cL63 : List MI := cG63_0 ++ ([])
/-- DoorPaints.door(II)I -/
noncomputable def cL64_0 : List MI := [(0, .aload_n 0, 1, 0, 0, 0), (1, .getfield 26, 3, 0, 2, 0), (4, .getfield 90, 3, 2, 0, 0), (7, .iload_n 1, 1, 0, 0, 0), (8, .invokevirtual 136, 3, 50, 2, 3), (11, .ifCond .ne 5, 3, 0, 0, 0), (14, .iconst (-1), 1, 0, 0, 0), (15, .ireturn, 1, 0, 0, 0)]
noncomputable def cL64_1 : List MI := [(16, .aload_n 0, 1, 0, 0, 0), (17, .getfield 26, 3, 0, 2, 0), (20, .getfield 90, 3, 2, 0, 0), (23, .getfield 139, 3, 3, 1, 0), (26, .iload_n 1, 1, 0, 0, 0), (27, .aaload, 1, 0, 0, 0), (28, .astore_n 3, 1, 0, 0, 0), (29, .iload_n 2, 1, 0, 0, 0), (30, .bipush 10, 2, 0, 0, 0)]
noncomputable def cL64_2 : List MI := [(32, .if_icmp .lt 18, 3, 0, 0, 0), (35, .iload_n 2, 1, 0, 0, 0), (36, .bipush 16, 2, 0, 0, 0), (38, .if_icmp .ge 12, 3, 0, 0, 0), (41, .aload_n 3, 1, 0, 0, 0), (42, .iload_n 2, 1, 0, 0, 0), (43, .bipush 10, 2, 0, 0, 0), (45, .isub, 1, 0, 0, 0), (46, .invokevirtual 143, 3, 65, 2, 5)]
noncomputable def cL64_3 : List MI := [(49, .ireturn, 1, 0, 0, 0), (50, .iload_n 2, 1, 0, 0, 0), (51, .tableswitch 57 0 3 #[29, 34, 39, 44], 29, 0, 0, 0)]
noncomputable def cL64_4 : List MI := []
noncomputable def cL64_5 : List MI := [(80, .aload_n 3, 1, 0, 0, 0), (81, .getfield 148, 3, 5, 1, 0), (84, .ireturn, 1, 0, 0, 0), (85, .aload_n 3, 1, 0, 0, 0), (86, .invokevirtual 151, 3, 60, 1, 5), (89, .ireturn, 1, 0, 0, 0), (90, .aload_n 3, 1, 0, 0, 0), (91, .getfield 154, 3, 5, 2, 0), (94, .ireturn, 1, 0, 0, 0), (95, .aload_n 3, 1, 0, 0, 0)]
noncomputable def cL64_6 : List MI := [(96, .getfield 157, 3, 5, 3, 0), (99, .ifCond .eq 7, 3, 0, 0, 0), (102, .iconst 1, 1, 0, 0, 0), (103, .goto 4, 3, 0, 0, 0), (106, .iconst 0, 1, 0, 0, 0), (107, .ireturn, 1, 0, 0, 0), (108, .iconst (-1), 1, 0, 0, 0), (109, .ireturn, 1, 0, 0, 0)]
noncomputable def cG64_0 : List MI := cL64_0 ++ ( cL64_1 ++ ( cL64_2 ++ ( cL64_3 ++ ( cL64_4 ++ ( cL64_5 ++ ( cL64_6 ++ ([])))))))
noncomputable def cL64 : List MI := cG64_0 ++ ([])
/-- DoorPaints$Door.layerAt(I)I -/
noncomputable def cL65_0 : List MI := [(0, .iload_n 1, 1, 0, 0, 0), (1, .ifCond .lt 20, 3, 0, 0, 0), (4, .iload_n 1, 1, 0, 0, 0), (5, .aload_n 0, 1, 0, 0, 0), (6, .getfield 15, 3, 5, 1, 0), (9, .if_icmp .ge 12, 3, 0, 0, 0), (12, .aload_n 0, 1, 0, 0, 0), (13, .getfield 9, 3, 5, 0, 0)]
noncomputable def cL65_1 : List MI := [(16, .iload_n 1, 1, 0, 0, 0), (17, .iaload, 1, 0, 0, 0), (18, .goto 5, 3, 0, 0, 0), (21, .bipush (-4), 2, 0, 0, 0), (23, .ireturn, 1, 0, 0, 0)]
noncomputable def cG65_0 : List MI := cL65_0 ++ ( cL65_1 ++ ([]))
noncomputable def cL65 : List MI := cG65_0 ++ ([])
/-- DoorPaints.plan(I)I -/
noncomputable def cL66_0 : List MI := [(0, .iload_n 1, 1, 0, 0, 0), (1, .ifCond .lt 26, 3, 0, 0, 0), (4, .iload_n 1, 1, 0, 0, 0), (5, .aload_n 0, 1, 0, 0, 0), (6, .getfield 26, 3, 0, 2, 0), (9, .getfield 99, 3, 2, 2, 0), (12, .if_icmp .ge 15, 3, 0, 0, 0), (15, .aload_n 0, 1, 0, 0, 0)]
noncomputable def cL66_1 : List MI := [(16, .getfield 26, 3, 0, 2, 0), (19, .getfield 161, 3, 2, 1, 0), (22, .iload_n 1, 1, 0, 0, 0), (23, .iaload, 1, 0, 0, 0), (24, .goto 4, 3, 0, 0, 0), (27, .iconst (-1), 1, 0, 0, 0), (28, .ireturn, 1, 0, 0, 0)]
noncomputable def cG66_0 : List MI := cL66_0 ++ ( cL66_1 ++ ([]))
noncomputable def cL66 : List MI := cG66_0 ++ ([])
/-- DoorPaints.uses(II)I -/
noncomputable def cL67_0 : List MI := [(0, .aload_n 0, 1, 0, 0, 0), (1, .getfield 26, 3, 0, 2, 0), (4, .getfield 90, 3, 2, 0, 0), (7, .iload_n 1, 1, 0, 0, 0), (8, .iload_n 2, 1, 0, 0, 0), (9, .invokevirtual 164, 3, 68, 3, 3), (12, .ireturn, 1, 0, 0, 0)]
noncomputable def cG67_0 : List MI := cL67_0 ++ ([])
noncomputable def cL67 : List MI := cG67_0 ++ ([])
/-- DoorPaints$Town.costOf(II)I -/
noncomputable def cL68_0 : List MI := [(0, .aload_n 0, 1, 0, 0, 0), (1, .iload_n 1, 1, 0, 0, 0), (2, .invokevirtual 49, 3, 49, 2, 3), (5, .ifCond .eq 11, 3, 0, 0, 0), (8, .aload_n 0, 1, 0, 0, 0), (9, .iload_n 2, 1, 0, 0, 0), (10, .invokevirtual 52, 3, 50, 2, 3), (13, .ifCond .ne 5, 3, 0, 0, 0)]
noncomputable def cL68_1 : List MI := [(16, .iconst (-1), 1, 0, 0, 0), (17, .ireturn, 1, 0, 0, 0), (18, .iconst 1, 1, 0, 0, 0), (19, .aload_n 0, 1, 0, 0, 0), (20, .getfield 20, 3, 3, 1, 0), (23, .iload_n 2, 1, 0, 0, 0), (24, .aaload, 1, 0, 0, 0), (25, .getfield 70, 3, 5, 1, 0), (28, .iconst 3, 1, 0, 0, 0), (29, .idiv, 1, 0, 0, 0), (30, .iadd, 1, 0, 0, 0), (31, .istore_n 3, 1, 0, 0, 0)]
noncomputable def cL68_2 : List MI := [(32, .aload_n 0, 1, 0, 0, 0), (33, .getfield 11, 3, 3, 0, 0), (36, .iload_n 1, 1, 0, 0, 0), (37, .aaload, 1, 0, 0, 0), (38, .getfield 55, 3, 4, 0, 0), (41, .lookupswitch 33 #[(1, 29), (2, 27)], 27, 0, 0, 0)]
noncomputable def cL68_3 : List MI := []
noncomputable def cL68_4 : List MI := [(68, .iconst 0, 1, 0, 0, 0), (69, .ireturn, 1, 0, 0, 0), (70, .iconst 2, 1, 0, 0, 0), (71, .iload_n 3, 1, 0, 0, 0), (72, .imul, 1, 0, 0, 0), (73, .ireturn, 1, 0, 0, 0), (74, .iload_n 3, 1, 0, 0, 0), (75, .ireturn, 1, 0, 0, 0)]
noncomputable def cG68_0 : List MI := cL68_0 ++ ( cL68_1 ++ ( cL68_2 ++ ( cL68_3 ++ ( cL68_4 ++ ([])))))
noncomputable def cL68 : List MI := cG68_0 ++ ([])
/-- DoorPaints.visit(II)I -/
noncomputable def cL69_0 : List MI := [(0, .aload_n 0, 1, 0, 0, 0), (1, .getfield 26, 3, 0, 2, 0), (4, .getfield 90, 3, 2, 0, 0), (7, .iload_n 1, 1, 0, 0, 0), (8, .iload_n 2, 1, 0, 0, 0), (9, .invokevirtual 168, 3, 70, 3, 3), (12, .ireturn, 1, 0, 0, 0)]
noncomputable def cG69_0 : List MI := cL69_0 ++ ([])
noncomputable def cL69 : List MI := cG69_0 ++ ([])
/-- DoorPaints$Town.receive(II)I -/
noncomputable def cL70_0 : List MI := [(0, .aload_n 0, 1, 0, 0, 0), (1, .iload_n 1, 1, 0, 0, 0), (2, .iload_n 2, 1, 0, 0, 0), (3, .invokevirtual 73, 3, 68, 3, 3), (6, .istore_n 3, 1, 0, 0, 0), (7, .iload_n 3, 1, 0, 0, 0), (8, .iconst (-1), 1, 0, 0, 0), (9, .if_icmp .ne 5, 3, 0, 0, 0), (12, .iconst (-1), 1, 0, 0, 0), (13, .ireturn, 1, 0, 0, 0), (14, .aload_n 0, 1, 0, 0, 0), (15, .getfield 11, 3, 3, 0, 0)]
noncomputable def cL70_1 : List MI := [(18, .iload_n 1, 1, 0, 0, 0), (19, .aaload, 1, 0, 0, 0), (20, .astore 4, 2, 0, 0, 0), (22, .aload_n 0, 1, 0, 0, 0), (23, .getfield 20, 3, 3, 1, 0), (26, .iload_n 2, 1, 0, 0, 0), (27, .aaload, 1, 0, 0, 0), (28, .astore 5, 2, 0, 0, 0), (30, .aload 4, 2, 0, 0, 0)]
noncomputable def cL70_2 : List MI := [(32, .getfield 61, 3, 4, 2, 0), (35, .iload_n 3, 1, 0, 0, 0), (36, .if_icmp .ge 6, 3, 0, 0, 0), (39, .bipush (-2), 2, 0, 0, 0), (41, .ireturn, 1, 0, 0, 0), (42, .aload 4, 2, 0, 0, 0), (44, .getfield 55, 3, 4, 0, 0), (47, .iconst 2, 1, 0, 0, 0)]
noncomputable def cL70_3 : List MI := [(48, .if_icmp .eq 14, 3, 0, 0, 0), (51, .aload 5, 2, 0, 0, 0), (53, .invokevirtual 77, 3, 71, 1, 5), (56, .ifCond .eq 6, 3, 0, 0, 0), (59, .bipush (-3), 2, 0, 0, 0), (61, .ireturn, 1, 0, 0, 0), (62, .aload 4, 2, 0, 0, 0)]
noncomputable def cL70_4 : List MI := [(64, .dup, 1, 0, 0, 0), (65, .getfield 61, 3, 4, 2, 0), (68, .iload_n 3, 1, 0, 0, 0), (69, .isub, 1, 0, 0, 0), (70, .putfield 61, 3, 4, 2, 0), (73, .aload 5, 2, 0, 0, 0), (75, .getfield 81, 3, 5, 3, 0), (78, .ifCond .eq 13, 3, 0, 0, 0)]
noncomputable def cL70_5 : List MI := [(81, .aload 4, 2, 0, 0, 0), (83, .aload 5, 2, 0, 0, 0), (85, .invokevirtual 85, 3, 60, 1, 5), (88, .invokevirtual 89, 3, 72, 2, 4), (91, .aload 4, 2, 0, 0, 0), (93, .getfield 55, 3, 4, 0, 0)]
noncomputable def cL70_6 : List MI := [(96, .iconst 2, 1, 0, 0, 0), (97, .if_icmp .eq 13, 3, 0, 0, 0), (100, .aload 5, 2, 0, 0, 0), (102, .aload_n 0, 1, 0, 0, 0), (103, .iload_n 1, 1, 0, 0, 0), (104, .invokevirtual 93, 3, 63, 2, 3), (107, .invokevirtual 97, 3, 74, 2, 5), (110, .aload 5, 2, 0, 0, 0)]
noncomputable def cL70_7 : List MI := [(112, .invokevirtual 85, 3, 60, 1, 5), (115, .ireturn, 1, 0, 0, 0)]
noncomputable def cG70_0 : List MI := cL70_0 ++ ( cL70_1 ++ ( cL70_2 ++ ( cL70_3 ++ ( cL70_4 ++ ( cL70_5 ++ ( cL70_6 ++ ( cL70_7 ++ ([]))))))))
noncomputable def cL70 : List MI := cG70_0 ++ ([])
/-- DoorPaints$Door.takesNoLayer()Z -/
noncomputable def cL71_0 : List MI := [(0, .aload_n 0, 1, 0, 0, 0), (1, .getfield 15, 3, 5, 1, 0), (4, .bipush 6, 2, 0, 0, 0), (6, .if_icmp .lt 14, 3, 0, 0, 0), (9, .aload_n 0, 1, 0, 0, 0), (10, .getfield 22, 3, 5, 3, 0), (13, .ifCond .ne 7, 3, 0, 0, 0)]
noncomputable def cL71_1 : List MI := [(16, .iconst 1, 1, 0, 0, 0), (17, .goto 4, 3, 0, 0, 0), (20, .iconst 0, 1, 0, 0, 0), (21, .ireturn, 1, 0, 0, 0)]
noncomputable def cG71_0 : List MI := cL71_0 ++ ( cL71_1 ++ ([]))
noncomputable def cL71 : List MI := cG71_0 ++ ([])
/-- DoorPaints$Visitor.markSleeve(I)V -/
noncomputable def cL72_0 : List MI := [(0, .iload_n 1, 1, 0, 0, 0), (1, .invokestatic 22, 3, 73, 1, 0), (4, .ifCond .eq 15, 3, 0, 0, 0), (7, .aload_n 0, 1, 0, 0, 0), (8, .dup, 1, 0, 0, 0), (9, .getfield 19, 3, 4, 3, 0), (12, .iconst 1, 1, 0, 0, 0), (13, .iload_n 1, 1, 0, 0, 0), (14, .ishl, 1, 0, 0, 0), (15, .ior, 1, 0, 0, 0)]
noncomputable def cL72_1 : List MI := [(16, .putfield 19, 3, 4, 3, 0), (19, .return_, 1, 0, 0, 0)]
noncomputable def cG72_0 : List MI := cL72_0 ++ ( cL72_1 ++ ([]))
noncomputable def cL72 : List MI := cG72_0 ++ ([])
/-- DoorPaints.isColour(I)Z -/
noncomputable def cL73_0 : List MI := [(0, .iload_n 0, 1, 0, 0, 0), (1, .ifCond .lt 13, 3, 0, 0, 0), (4, .iload_n 0, 1, 0, 0, 0), (5, .bipush 6, 2, 0, 0, 0), (7, .if_icmp .ge 7, 3, 0, 0, 0), (10, .iconst 1, 1, 0, 0, 0), (11, .goto 4, 3, 0, 0, 0), (14, .iconst 0, 1, 0, 0, 0), (15, .ireturn, 1, 0, 0, 0)]
noncomputable def cG73_0 : List MI := cL73_0 ++ ([])
noncomputable def cL73 : List MI := cG73_0 ++ ([])
/-- DoorPaints$Door.paintWith(I)V -/
noncomputable def cL74_0 : List MI := [(0, .aload_n 0, 1, 0, 0, 0), (1, .invokevirtual 26, 3, 60, 1, 5), (4, .istore_n 2, 1, 0, 0, 0), (5, .aload_n 0, 1, 0, 0, 0), (6, .getfield 22, 3, 5, 3, 0), (9, .ifCond .eq 29, 3, 0, 0, 0), (12, .iload_n 2, 1, 0, 0, 0), (13, .bipush (-4), 2, 0, 0, 0), (15, .if_icmp .eq 23, 3, 0, 0, 0)]
noncomputable def cL74_1 : List MI := [(18, .aload_n 0, 1, 0, 0, 0), (19, .getfield 9, 3, 5, 0, 0), (22, .aload_n 0, 1, 0, 0, 0), (23, .getfield 15, 3, 5, 1, 0), (26, .iconst 1, 1, 0, 0, 0), (27, .isub, 1, 0, 0, 0), (28, .iload_n 2, 1, 0, 0, 0), (29, .iload_n 1, 1, 0, 0, 0), (30, .iadd, 1, 0, 0, 0), (31, .bipush 6, 2, 0, 0, 0)]
noncomputable def cL74_2 : List MI := [(33, .irem, 1, 0, 0, 0), (34, .iastore, 1, 0, 0, 0), (35, .goto 9, 3, 0, 0, 0), (38, .aload_n 0, 1, 0, 0, 0), (39, .iload_n 1, 1, 0, 0, 0), (40, .invokevirtual 34, 3, 35, 2, 5), (43, .pop, 1, 0, 0, 0), (44, .aload_n 0, 1, 0, 0, 0), (45, .iconst 1, 1, 0, 0, 0), (46, .putfield 22, 3, 5, 3, 0)]
noncomputable def cL74_3 : List MI := [(49, .return_, 1, 0, 0, 0)]
noncomputable def cG74_0 : List MI := cL74_0 ++ ( cL74_1 ++ ( cL74_2 ++ ( cL74_3 ++ ([]))))
noncomputable def cL74 : List MI := cG74_0 ++ ([])
/-- DoorPaints.sky(I)I -/
noncomputable def cL75_0 : List MI := [(0, .iload_n 1, 1, 0, 0, 0), (1, .ifCond .lt 8, 3, 0, 0, 0), (4, .iload_n 1, 1, 0, 0, 0), (5, .iconst 2, 1, 0, 0, 0), (6, .if_icmp .le 5, 3, 0, 0, 0), (9, .iconst (-1), 1, 0, 0, 0), (10, .ireturn, 1, 0, 0, 0), (11, .aload_n 0, 1, 0, 0, 0), (12, .getfield 26, 3, 0, 2, 0), (15, .getfield 90, 3, 2, 0, 0)]
noncomputable def cL75_1 : List MI := [(18, .bipush 90, 2, 0, 0, 0), (20, .iload_n 1, 1, 0, 0, 0), (21, .iadd, 1, 0, 0, 0), (22, .invokevirtual 171, 3, 76, 2, 3), (25, .aload_n 0, 1, 0, 0, 0), (26, .getfield 26, 3, 0, 2, 0), (29, .getfield 90, 3, 2, 0, 0)]
noncomputable def cL75_2 : List MI := [(32, .invokevirtual 175, 3, 80, 1, 3), (35, .ireturn, 1, 0, 0, 0)]
noncomputable def cG75_0 : List MI := cL75_0 ++ ( cL75_1 ++ ( cL75_2 ++ ([])))
noncomputable def cL75 : List MI := cG75_0 ++ ([])
/-- DoorPaints$Town.weather(I)V -/
noncomputable def cL76_0 : List MI := [(0, .iconst 0, 1, 0, 0, 0), (1, .istore_n 2, 1, 0, 0, 0), (2, .iload_n 2, 1, 0, 0, 0), (3, .aload_n 0, 1, 0, 0, 0), (4, .getfield 36, 3, 3, 3, 0), (7, .if_icmp .ge 72, 3, 0, 0, 0), (10, .iload_n 1, 1, 0, 0, 0), (11, .tableswitch 62 90 92 #[25, 38, 50], 25, 0, 0, 0)]
noncomputable def cL76_1 : List MI := []
noncomputable def cL76_2 : List MI := [(36, .aload_n 0, 1, 0, 0, 0), (37, .getfield 20, 3, 3, 1, 0), (40, .iload_n 2, 1, 0, 0, 0), (41, .aaload, 1, 0, 0, 0), (42, .iconst 0, 1, 0, 0, 0), (43, .putfield 81, 3, 5, 3, 0), (46, .goto 27, 3, 0, 0, 0)]
noncomputable def cL76_3 : List MI := [(49, .aload_n 0, 1, 0, 0, 0), (50, .getfield 20, 3, 3, 1, 0), (53, .iload_n 2, 1, 0, 0, 0), (54, .aaload, 1, 0, 0, 0), (55, .invokevirtual 100, 3, 77, 1, 5), (58, .goto 15, 3, 0, 0, 0), (61, .aload_n 0, 1, 0, 0, 0), (62, .getfield 20, 3, 3, 1, 0)]
noncomputable def cL76_4 : List MI := [(65, .iload_n 2, 1, 0, 0, 0), (66, .aaload, 1, 0, 0, 0), (67, .invokevirtual 103, 3, 79, 1, 5), (70, .goto 3, 3, 0, 0, 0), (73, .iinc 2 1, 3, 0, 0, 0), (76, .goto (-74), 3, 0, 0, 0), (79, .return_, 1, 0, 0, 0)]
noncomputable def cG76_0 : List MI := cL76_0 ++ ( cL76_1 ++ ( cL76_2 ++ ( cL76_3 ++ ( cL76_4 ++ ([])))))
noncomputable def cL76 : List MI := cG76_0 ++ ([])
/-- DoorPaints$Door.rainOn()V -/
noncomputable def cL77_0 : List MI := [(0, .aload_n 0, 1, 0, 0, 0), (1, .getfield 15, 3, 5, 1, 0), (4, .ifCond .ne 4, 3, 0, 0, 0), (7, .return_, 1, 0, 0, 0), (8, .iconst 0, 1, 0, 0, 0), (9, .istore_n 1, 1, 0, 0, 0), (10, .iconst 0, 1, 0, 0, 0), (11, .istore_n 2, 1, 0, 0, 0), (12, .iload_n 2, 1, 0, 0, 0), (13, .iconst 3, 1, 0, 0, 0), (14, .if_icmp .ge 27, 3, 0, 0, 0)]
noncomputable def cL77_1 : List MI := [(17, .aload_n 0, 1, 0, 0, 0), (18, .getfield 15, 3, 5, 1, 0), (21, .ifCond .le 20, 3, 0, 0, 0), (24, .iload_n 1, 1, 0, 0, 0), (25, .aload_n 0, 1, 0, 0, 0), (26, .invokevirtual 26, 3, 60, 1, 5), (29, .iadd, 1, 0, 0, 0), (30, .istore_n 1, 1, 0, 0, 0), (31, .aload_n 0, 1, 0, 0, 0)]
noncomputable def cL77_2 : List MI := [(32, .invokevirtual 37, 3, 78, 1, 5), (35, .iinc 2 1, 3, 0, 0, 0), (38, .goto (-26), 3, 0, 0, 0), (41, .aload_n 0, 1, 0, 0, 0), (42, .iload_n 1, 1, 0, 0, 0), (43, .bipush 6, 2, 0, 0, 0), (45, .irem, 1, 0, 0, 0), (46, .invokevirtual 34, 3, 35, 2, 5)]
noncomputable def cL77_3 : List MI := [(49, .pop, 1, 0, 0, 0), (50, .aload_n 0, 1, 0, 0, 0), (51, .iconst 1, 1, 0, 0, 0), (52, .putfield 22, 3, 5, 3, 0), (55, .return_, 1, 0, 0, 0)]
noncomputable def cG77_0 : List MI := cL77_0 ++ ( cL77_1 ++ ( cL77_2 ++ ( cL77_3 ++ ([]))))
noncomputable def cL77 : List MI := cG77_0 ++ ([])
/-- DoorPaints$Door.loseTop()V -/
noncomputable def cL78_0 : List MI := [(0, .aload_n 0, 1, 0, 0, 0), (1, .getfield 15, 3, 5, 1, 0), (4, .ifCond .le 13, 3, 0, 0, 0), (7, .aload_n 0, 1, 0, 0, 0), (8, .dup, 1, 0, 0, 0), (9, .getfield 15, 3, 5, 1, 0), (12, .iconst 1, 1, 0, 0, 0), (13, .isub, 1, 0, 0, 0), (14, .putfield 15, 3, 5, 1, 0)]
noncomputable def cL78_1 : List MI := [(17, .return_, 1, 0, 0, 0)]
noncomputable def cG78_0 : List MI := cL78_0 ++ ( cL78_1 ++ ([]))
noncomputable def cL78 : List MI := cG78_0 ++ ([])
/-- DoorPaints$Door.shineOn()V -/
noncomputable def cL79_0 : List MI := [(0, .iconst 0, 1, 0, 0, 0), (1, .istore_n 1, 1, 0, 0, 0), (2, .iload_n 1, 1, 0, 0, 0), (3, .bipush 6, 2, 0, 0, 0), (5, .if_icmp .ge 20, 3, 0, 0, 0), (8, .aload_n 0, 1, 0, 0, 0), (9, .invokevirtual 26, 3, 60, 1, 5), (12, .ifCond .ne 13, 3, 0, 0, 0), (15, .aload_n 0, 1, 0, 0, 0)]
noncomputable def cL79_1 : List MI := [(16, .invokevirtual 37, 3, 78, 1, 5), (19, .iinc 1 1, 3, 0, 0, 0), (22, .goto (-20), 3, 0, 0, 0), (25, .aload_n 0, 1, 0, 0, 0), (26, .iconst 0, 1, 0, 0, 0), (27, .putfield 22, 3, 5, 3, 0), (30, .return_, 1, 0, 0, 0)]
noncomputable def cG79_0 : List MI := cL79_0 ++ ( cL79_1 ++ ([]))
noncomputable def cL79 : List MI := cG79_0 ++ ([])
/-- DoorPaints$Town.allLayers()I -/
noncomputable def cL80_0 : List MI := [(0, .iconst 0, 1, 0, 0, 0), (1, .istore_n 1, 1, 0, 0, 0), (2, .iconst 0, 1, 0, 0, 0), (3, .istore_n 2, 1, 0, 0, 0), (4, .iload_n 2, 1, 0, 0, 0), (5, .aload_n 0, 1, 0, 0, 0), (6, .getfield 36, 3, 3, 3, 0), (9, .if_icmp .ge 21, 3, 0, 0, 0), (12, .iload_n 1, 1, 0, 0, 0), (13, .aload_n 0, 1, 0, 0, 0), (14, .getfield 20, 3, 3, 1, 0)]
noncomputable def cL80_1 : List MI := [(17, .iload_n 2, 1, 0, 0, 0), (18, .aaload, 1, 0, 0, 0), (19, .getfield 70, 3, 5, 1, 0), (22, .iadd, 1, 0, 0, 0), (23, .istore_n 1, 1, 0, 0, 0), (24, .iinc 2 1, 3, 0, 0, 0), (27, .goto (-23), 3, 0, 0, 0), (30, .iload_n 1, 1, 0, 0, 0), (31, .ireturn, 1, 0, 0, 0)]
noncomputable def cG80_0 : List MI := cL80_0 ++ ( cL80_1 ++ ([]))
noncomputable def cL80 : List MI := cG80_0 ++ ([])
/-- DoorPaints.scrape(I)I -/
noncomputable def cL81_0 : List MI := [(0, .aload_n 0, 1, 0, 0, 0), (1, .getfield 26, 3, 0, 2, 0), (4, .getfield 90, 3, 2, 0, 0), (7, .iload_n 1, 1, 0, 0, 0), (8, .invokevirtual 136, 3, 50, 2, 3), (11, .ifCond .ne 5, 3, 0, 0, 0), (14, .iconst (-1), 1, 0, 0, 0), (15, .ireturn, 1, 0, 0, 0)]
noncomputable def cL81_1 : List MI := [(16, .aload_n 0, 1, 0, 0, 0), (17, .getfield 26, 3, 0, 2, 0), (20, .getfield 90, 3, 2, 0, 0), (23, .getfield 139, 3, 3, 1, 0), (26, .iload_n 1, 1, 0, 0, 0), (27, .aaload, 1, 0, 0, 0), (28, .astore_n 2, 1, 0, 0, 0), (29, .aload_n 2, 1, 0, 0, 0), (30, .getfield 148, 3, 5, 1, 0)]
noncomputable def cL81_2 : List MI := [(33, .ifCond .ne 6, 3, 0, 0, 0), (36, .bipush (-2), 2, 0, 0, 0), (38, .ireturn, 1, 0, 0, 0), (39, .aload_n 2, 1, 0, 0, 0), (40, .invokevirtual 178, 3, 78, 1, 5), (43, .aload_n 2, 1, 0, 0, 0), (44, .iconst 0, 1, 0, 0, 0), (45, .putfield 157, 3, 5, 3, 0)]
noncomputable def cL81_3 : List MI := [(48, .aload_n 2, 1, 0, 0, 0), (49, .invokevirtual 151, 3, 60, 1, 5), (52, .ireturn, 1, 0, 0, 0)]
noncomputable def cG81_0 : List MI := cL81_0 ++ ( cL81_1 ++ ( cL81_2 ++ ( cL81_3 ++ ([]))))
noncomputable def cL81 : List MI := cG81_0 ++ ([])
/-- DoorPaints.alter(III)I -/
noncomputable def cL82_0 : List MI := [(0, .aload_n 0, 1, 0, 0, 0), (1, .getfield 26, 3, 0, 2, 0), (4, .getfield 90, 3, 2, 0, 0), (7, .iload_n 1, 1, 0, 0, 0), (8, .invokevirtual 111, 3, 49, 2, 3), (11, .ifCond .eq 7, 3, 0, 0, 0), (14, .iload_n 3, 1, 0, 0, 0), (15, .ifCond .ge 5, 3, 0, 0, 0)]
noncomputable def cL82_1 : List MI := [(18, .iconst (-1), 1, 0, 0, 0), (19, .ireturn, 1, 0, 0, 0), (20, .aload_n 0, 1, 0, 0, 0), (21, .getfield 26, 3, 0, 2, 0), (24, .getfield 90, 3, 2, 0, 0), (27, .getfield 114, 3, 3, 0, 0), (30, .iload_n 1, 1, 0, 0, 0), (31, .aaload, 1, 0, 0, 0)]
noncomputable def cL82_2 : List MI := [(32, .astore 4, 2, 0, 0, 0), (34, .iload_n 2, 1, 0, 0, 0), (35, .ifCond .ne 24, 3, 0, 0, 0), (38, .iload_n 3, 1, 0, 0, 0), (39, .iconst 4, 1, 0, 0, 0), (40, .if_icmp .ge 19, 3, 0, 0, 0), (43, .aload 4, 2, 0, 0, 0), (45, .getfield 118, 3, 4, 0, 0)]
noncomputable def cL82_3 : List MI := [(48, .istore 5, 2, 0, 0, 0), (50, .aload 4, 2, 0, 0, 0), (52, .iload_n 3, 1, 0, 0, 0), (53, .putfield 118, 3, 4, 0, 0), (56, .iload 5, 2, 0, 0, 0), (58, .ireturn, 1, 0, 0, 0), (59, .iload_n 2, 1, 0, 0, 0), (60, .iconst 1, 1, 0, 0, 0), (61, .if_icmp .ne 25, 3, 0, 0, 0)]
noncomputable def cL82_4 : List MI := [(64, .iload_n 3, 1, 0, 0, 0), (65, .bipush 6, 2, 0, 0, 0), (67, .if_icmp .ge 19, 3, 0, 0, 0), (70, .aload 4, 2, 0, 0, 0), (72, .getfield 123, 3, 4, 1, 0), (75, .istore 5, 2, 0, 0, 0), (77, .aload 4, 2, 0, 0, 0), (79, .iload_n 3, 1, 0, 0, 0)]
noncomputable def cL82_5 : List MI := [(80, .putfield 123, 3, 4, 1, 0), (83, .iload 5, 2, 0, 0, 0), (85, .ireturn, 1, 0, 0, 0), (86, .iload_n 2, 1, 0, 0, 0), (87, .iconst 2, 1, 0, 0, 0), (88, .if_icmp .ne 25, 3, 0, 0, 0), (91, .iload_n 3, 1, 0, 0, 0), (92, .bipush 99, 2, 0, 0, 0), (94, .if_icmp .gt 19, 3, 0, 0, 0)]
noncomputable def cL82_6 : List MI := [(97, .aload 4, 2, 0, 0, 0), (99, .getfield 126, 3, 4, 2, 0), (102, .istore 5, 2, 0, 0, 0), (104, .aload 4, 2, 0, 0, 0), (106, .iload_n 3, 1, 0, 0, 0), (107, .putfield 126, 3, 4, 2, 0), (110, .iload 5, 2, 0, 0, 0)]
noncomputable def cL82_7 : List MI := [(112, .ireturn, 1, 0, 0, 0), (113, .iload_n 2, 1, 0, 0, 0), (114, .iconst 3, 1, 0, 0, 0), (115, .if_icmp .ne 23, 3, 0, 0, 0), (118, .iload_n 3, 1, 0, 0, 0), (119, .ifCond .ne 19, 3, 0, 0, 0), (122, .aload 4, 2, 0, 0, 0), (124, .getfield 129, 3, 4, 3, 0), (127, .istore 5, 2, 0, 0, 0)]
noncomputable def cL82_8 : List MI := [(129, .aload 4, 2, 0, 0, 0), (131, .iconst 0, 1, 0, 0, 0), (132, .putfield 129, 3, 4, 3, 0), (135, .iload 5, 2, 0, 0, 0), (137, .ireturn, 1, 0, 0, 0), (138, .iconst (-1), 1, 0, 0, 0), (139, .ireturn, 1, 0, 0, 0)]
noncomputable def cG82_0 : List MI := cL82_0 ++ ( cL82_1 ++ ( cL82_2 ++ ( cL82_3 ++ ( cL82_4 ++ ( cL82_5 ++ ( cL82_6 ++ ( cL82_7 ++ ([]))))))))
noncomputable def cG82_1 : List MI := cL82_8 ++ ([])
noncomputable def cL82 : List MI := cG82_0 ++ ( cG82_1 ++ ([]))
/-- DoorPaints.ought(IIZ)I -/
noncomputable def cL83_0 : List MI := [(0, .aload_n 0, 1, 0, 0, 0), (1, .getfield 26, 3, 0, 2, 0), (4, .getfield 90, 3, 2, 0, 0), (7, .iload_n 1, 1, 0, 0, 0), (8, .invokevirtual 136, 3, 50, 2, 3), (11, .ifCond .eq 10, 3, 0, 0, 0), (14, .iload_n 2, 1, 0, 0, 0), (15, .invokestatic 181, 3, 73, 1, 0)]
noncomputable def cL83_1 : List MI := [(18, .ifCond .ne 5, 3, 0, 0, 0), (21, .iconst (-1), 1, 0, 0, 0), (22, .ireturn, 1, 0, 0, 0), (23, .aload_n 0, 1, 0, 0, 0), (24, .getfield 26, 3, 0, 2, 0), (27, .getfield 90, 3, 2, 0, 0), (30, .getfield 139, 3, 3, 1, 0)]
noncomputable def cL83_2 : List MI := [(33, .iload_n 1, 1, 0, 0, 0), (34, .aaload, 1, 0, 0, 0), (35, .iload_n 2, 1, 0, 0, 0), (36, .iload_n 3, 1, 0, 0, 0), (37, .invokevirtual 184, 3, 39, 3, 5), (40, .iload_n 3, 1, 0, 0, 0), (41, .ifCond .eq 7, 3, 0, 0, 0), (44, .iconst 1, 1, 0, 0, 0), (45, .goto 4, 3, 0, 0, 0)]
noncomputable def cL83_3 : List MI := [(48, .iconst 0, 1, 0, 0, 0), (49, .ireturn, 1, 0, 0, 0)]
noncomputable def cG83_0 : List MI := cL83_0 ++ ( cL83_1 ++ ( cL83_2 ++ ( cL83_3 ++ ([]))))
noncomputable def cL83 : List MI := cG83_0 ++ ([])
/-- DoorPaints.plans(I)I -/
noncomputable def cL84_0 : List MI := [(0, .iload_n 1, 1, 0, 0, 0), (1, .invokestatic 188, 3, 41, 1, 0), (4, .ifCond .eq 17, 3, 0, 0, 0), (7, .aload_n 0, 1, 0, 0, 0), (8, .getfield 26, 3, 0, 2, 0), (11, .getfield 90, 3, 2, 0, 0), (14, .iload_n 1, 1, 0, 0, 0), (15, .invokevirtual 191, 3, 48, 2, 3)]
noncomputable def cL84_1 : List MI := [(18, .ifCond .ne 5, 3, 0, 0, 0), (21, .iconst (-1), 1, 0, 0, 0), (22, .ireturn, 1, 0, 0, 0), (23, .aload_n 0, 1, 0, 0, 0), (24, .getfield 26, 3, 0, 2, 0), (27, .iload_n 1, 1, 0, 0, 0), (28, .invokevirtual 194, 3, 43, 2, 2), (31, .ifCond .eq 13, 3, 0, 0, 0)]
noncomputable def cL84_2 : List MI := [(34, .aload_n 0, 1, 0, 0, 0), (35, .getfield 26, 3, 0, 2, 0), (38, .getfield 99, 3, 2, 2, 0), (41, .goto 5, 3, 0, 0, 0), (44, .bipush (-3), 2, 0, 0, 0), (46, .ireturn, 1, 0, 0, 0)]
noncomputable def cG84_0 : List MI := cL84_0 ++ ( cL84_1 ++ ( cL84_2 ++ ([])))
noncomputable def cL84 : List MI := cG84_0 ++ ([])
/-- DoorPaints.cut(I)I -/
noncomputable def cL85_0 : List MI := [(0, .iload_n 1, 1, 0, 0, 0), (1, .ifCond .lt 14, 3, 0, 0, 0), (4, .iload_n 1, 1, 0, 0, 0), (5, .aload_n 0, 1, 0, 0, 0), (6, .getfield 26, 3, 0, 2, 0), (9, .getfield 99, 3, 2, 2, 0), (12, .if_icmp .le 5, 3, 0, 0, 0), (15, .iconst (-1), 1, 0, 0, 0)]
noncomputable def cL85_1 : List MI := [(16, .ireturn, 1, 0, 0, 0), (17, .aload_n 0, 1, 0, 0, 0), (18, .getfield 26, 3, 0, 2, 0), (21, .getfield 99, 3, 2, 2, 0), (24, .istore_n 2, 1, 0, 0, 0), (25, .aload_n 0, 1, 0, 0, 0), (26, .getfield 26, 3, 0, 2, 0), (29, .iload_n 1, 1, 0, 0, 0), (30, .putfield 99, 3, 2, 2, 0)]
noncomputable def cL85_2 : List MI := [(33, .iload_n 2, 1, 0, 0, 0), (34, .ireturn, 1, 0, 0, 0)]
noncomputable def cG85_0 : List MI := cL85_0 ++ ( cL85_1 ++ ( cL85_2 ++ ([])))
noncomputable def cL85 : List MI := cG85_0 ++ ([])
/-- DoorPaints.runs(I)I -/
noncomputable def cL86_0 : List MI := [(0, .iload_n 1, 1, 0, 0, 0), (1, .ifCond .lt 8, 3, 0, 0, 0), (4, .iload_n 1, 1, 0, 0, 0), (5, .iconst 4, 1, 0, 0, 0), (6, .if_icmp .le 5, 3, 0, 0, 0), (9, .iconst (-1), 1, 0, 0, 0), (10, .ireturn, 1, 0, 0, 0), (11, .aload_n 0, 1, 0, 0, 0), (12, .invokevirtual 197, 3, 87, 1, 0), (15, .istore_n 2, 1, 0, 0, 0)]
noncomputable def cL86_1 : List MI := [(16, .iload_n 1, 1, 0, 0, 0), (17, .tableswitch 54 0 3 #[31, 36, 44, 46], 31, 0, 0, 0)]
noncomputable def cL86_2 : List MI := []
noncomputable def cL86_3 : List MI := [(48, .aload_n 0, 1, 0, 0, 0), (49, .invokevirtual 200, 3, 91, 1, 0), (52, .ireturn, 1, 0, 0, 0), (53, .aload_n 0, 1, 0, 0, 0), (54, .getfield 41, 3, 0, 5, 0), (57, .invokevirtual 105, 3, 58, 1, 3), (60, .ireturn, 1, 0, 0, 0), (61, .iload_n 2, 1, 0, 0, 0), (62, .ireturn, 1, 0, 0, 0), (63, .aload_n 0, 1, 0, 0, 0)]
noncomputable def cL86_4 : List MI := [(64, .getfield 41, 3, 0, 5, 0), (67, .invokevirtual 175, 3, 80, 1, 3), (70, .ireturn, 1, 0, 0, 0), (71, .aload_n 0, 1, 0, 0, 0), (72, .getfield 41, 3, 0, 5, 0), (75, .invokevirtual 203, 3, 92, 1, 3), (78, .ireturn, 1, 0, 0, 0)]
noncomputable def cG86_0 : List MI := cL86_0 ++ ( cL86_1 ++ ( cL86_2 ++ ( cL86_3 ++ ( cL86_4 ++ ([])))))
noncomputable def cL86 : List MI := cG86_0 ++ ([])
/-- DoorPaints.rehearse()I -/
noncomputable def cL87_0 : List MI := [(0, .aload_n 0, 1, 0, 0, 0), (1, .getfield 41, 3, 0, 5, 0), (4, .aload_n 0, 1, 0, 0, 0), (5, .getfield 26, 3, 0, 2, 0), (8, .getfield 90, 3, 2, 0, 0), (11, .invokevirtual 206, 3, 52, 2, 3), (14, .aload_n 0, 1, 0, 0, 0), (15, .iconst 0, 1, 0, 0, 0)]
noncomputable def cL87_1 : List MI := [(16, .aload_n 0, 1, 0, 0, 0), (17, .getfield 26, 3, 0, 2, 0), (20, .getfield 99, 3, 2, 2, 0), (23, .invokevirtual 247, 3, 88, 3, 0), (26, .ireturn, 1, 0, 0, 0)]
noncomputable def cG87_0 : List MI := cL87_0 ++ ( cL87_1 ++ ([]))
noncomputable def cL87 : List MI := cG87_0 ++ ([])
/-- DoorPaints.actInTrial(II)I -/
noncomputable def cL88_0 : List MI := [(0, .bipush (-4), 2, 0, 0, 0), (2, .istore_n 3, 1, 0, 0, 0), (3, .iload_n 1, 1, 0, 0, 0), (4, .istore 4, 2, 0, 0, 0), (6, .iload 4, 2, 0, 0, 0), (8, .iload_n 2, 1, 0, 0, 0), (9, .if_icmp .ge 50, 3, 0, 0, 0), (12, .iload 4, 2, 0, 0, 0), (14, .aload_n 0, 1, 0, 0, 0), (15, .getfield 26, 3, 0, 2, 0)]
noncomputable def cL88_1 : List MI := [(18, .getfield 99, 3, 2, 2, 0), (21, .if_icmp .ge 38, 3, 0, 0, 0), (24, .aload_n 0, 1, 0, 0, 0), (25, .getfield 41, 3, 0, 5, 0), (28, .aload_n 0, 1, 0, 0, 0), (29, .getfield 26, 3, 0, 2, 0)]
noncomputable def cL88_2 : List MI := [(32, .getfield 161, 3, 2, 1, 0), (35, .iload 4, 2, 0, 0, 0), (37, .iaload, 1, 0, 0, 0), (38, .invokevirtual 323, 3, 89, 2, 3), (41, .ifCond .ne 12, 3, 0, 0, 0), (44, .iload_n 3, 1, 0, 0, 0), (45, .bipush (-4), 2, 0, 0, 0), (47, .if_icmp .ne 6, 3, 0, 0, 0)]
noncomputable def cL88_3 : List MI := [(50, .iload 4, 2, 0, 0, 0), (52, .istore_n 3, 1, 0, 0, 0), (53, .iinc 4 1, 3, 0, 0, 0), (56, .goto (-50), 3, 0, 0, 0), (59, .iload_n 3, 1, 0, 0, 0), (60, .ireturn, 1, 0, 0, 0)]
noncomputable def cG88_0 : List MI := cL88_0 ++ ( cL88_1 ++ ( cL88_2 ++ ( cL88_3 ++ ([]))))
noncomputable def cL88 : List MI := cG88_0 ++ ([])
/-- DoorPaints$Town.undergo(I)Z -/
noncomputable def cL89_0 : List MI := [(0, .iload_n 1, 1, 0, 0, 0), (1, .invokestatic 45, 3, 42, 1, 0), (4, .ifCond .eq 10, 3, 0, 0, 0), (7, .aload_n 0, 1, 0, 0, 0), (8, .iload_n 1, 1, 0, 0, 0), (9, .invokevirtual 106, 3, 76, 2, 3), (12, .iconst 1, 1, 0, 0, 0), (13, .ireturn, 1, 0, 0, 0), (14, .aload_n 0, 1, 0, 0, 0), (15, .iload_n 1, 1, 0, 0, 0)]
noncomputable def cL89_1 : List MI := [(16, .bipush 10, 2, 0, 0, 0), (18, .idiv, 1, 0, 0, 0), (19, .iload_n 1, 1, 0, 0, 0), (20, .bipush 10, 2, 0, 0, 0), (22, .irem, 1, 0, 0, 0), (23, .invokevirtual 109, 3, 70, 3, 3), (26, .invokestatic 112, 3, 90, 1, 0), (29, .ifCond .ne 7, 3, 0, 0, 0)]
noncomputable def cL89_2 : List MI := [(32, .iconst 1, 1, 0, 0, 0), (33, .goto 4, 3, 0, 0, 0), (36, .iconst 0, 1, 0, 0, 0), (37, .ireturn, 1, 0, 0, 0)]
noncomputable def cG89_0 : List MI := cL89_0 ++ ( cL89_1 ++ ( cL89_2 ++ ([])))
noncomputable def cL89 : List MI := cG89_0 ++ ([])
end
