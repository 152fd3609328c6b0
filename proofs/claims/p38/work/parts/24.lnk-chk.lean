section
/-! TABLES: the links (written by a program) -/
/-- of each method: 0 static, 1 virtual, 2 a constructor; where its words stand: code, static or instanceMethod, selects, initialized; how many parameters -/
noncomputable def tKd : List (Nat × Nat × Nat × Nat × Nat × Nat) := [(0, 0, 0, 0, 0, 0), (2, 93, 92, 0, 73, 0), (2, 101, 100, 0, 74, 0), (2, 107, 106, 0, 75, 0), (2, 113, 112, 0, 76, 0), (2, 120, 119, 0, 77, 0), (2, 149, 148, 0, 78, 0), (2, 236, 235, 0, 79, 0), (2, 290, 289, 0, 80, 0), (2, 324, 323, 0, 81, 0), (1, 381, 379, 380, 73, 1), (1, 385, 383, 384, 79, 1), (1, 389, 387, 388, 73, 1), (1, 393, 391, 392, 73, 0), (1, 397, 395, 396, 74, 0), (1, 401, 399, 400, 75, 0), (1, 405, 403, 404, 76, 0), (1, 409, 407, 408, 78, 0), (1, 413, 411, 412, 79, 0), (1, 417, 415, 416, 79, 0), (1, 421, 420, 0, 79, 2), (1, 425, 424, 1, 79, 0), (1, 429, 428, 2, 74, 0), (1, 433, 432, 3, 74, 1), (1, 437, 436, 4, 74, 1), (1, 442, 440, 441, 79, 1), (1, 446, 444, 445, 83, 0), (1, 450, 448, 449, 83, 0), (1, 456, 454, 455, 83, 1), (1, 460, 458, 459, 83, 0), (0, 463, 462, 0, 84, 2), (0, 466, 465, 0, 83, 2), (0, 471, 470, 0, 85, 3), (1, 494, 493, 5, 74, 0), (1, 499, 498, 6, 74, 1), (1, 503, 501, 502, 78, 1), (1, 507, 506, 7, 74, 0), (1, 512, 511, 8, 74, 0), (1, 516, 514, 515, 78, 1), (1, 520, 518, 519, 78, 2), (1, 525, 524, 9, 74, 0), (0, 528, 527, 0, 73, 1), (0, 531, 530, 0, 73, 1), (1, 535, 533, 534, 75, 1), (1, 539, 538, 10, 74, 0), (1, 547, 546, 11, 74, 1), (1, 551, 549, 550, 76, 3), (1, 555, 553, 554, 75, 0), (1, 559, 557, 558, 76, 1), (1, 564, 562, 563, 76, 1), (1, 568, 566, 567, 76, 1), (1, 572, 570, 571, 75, 1), (1, 576, 574, 575, 76, 1), (1, 580, 578, 579, 77, 1), (1, 584, 582, 583, 78, 1), (1, 589, 587, 588, 73, 0), (1, 593, 591, 592, 73, 1), (1, 597, 595, 596, 76, 0), (1, 601, 599, 600, 76, 0), (1, 605, 603, 604, 78, 0), (1, 609, 607, 608, 78, 0), (1, 614, 612, 613, 76, 0), (1, 618, 616, 617, 73, 2), (1, 623, 621, 622, 76, 1), (1, 627, 625, 626, 73, 2), (1, 632, 630, 631, 78, 1), (1, 637, 635, 636, 73, 1), (1, 641, 639, 640, 73, 2), (1, 645, 643, 644, 76, 2), (1, 649, 647, 648, 73, 2), (1, 653, 651, 652, 76, 2), (1, 658, 656, 657, 78, 0), (1, 663, 661, 662, 77, 1), (0, 666, 665, 0, 73, 1), (1, 671, 669, 670, 78, 1), (1, 676, 674, 675, 73, 1), (1, 680, 678, 679, 76, 1), (1, 684, 682, 683, 78, 0), (1, 688, 686, 687, 78, 0), (1, 692, 690, 691, 78, 0), (1, 696, 694, 695, 76, 0), (1, 700, 698, 699, 73, 1), (1, 705, 703, 704, 73, 3), (1, 709, 707, 708, 73, 3), (1, 715, 713, 714, 73, 1), (1, 722, 720, 721, 73, 1), (1, 726, 724, 725, 73, 1), (1, 730, 729, 12, 73, 0), (1, 735, 734, 13, 73, 2), (1, 739, 737, 738, 76, 1), (0, 744, 743, 0, 73, 1), (1, 748, 747, 14, 73, 0), (1, 752, 750, 751, 76, 0), (1, 756, 754, 755, 73, 1), (1, 760, 758, 759, 73, 1), (1, 766, 764, 765, 73, 2), (1, 770, 768, 769, 80, 2), (1, 775, 774, 15, 80, 2), (1, 780, 778, 779, 76, 0), (0, 784, 783, 0, 87, 1), (1, 791, 790, 16, 80, 3), (1, 795, 794, 17, 80, 2), (1, 799, 798, 18, 80, 2), (1, 803, 802, 19, 80, 3), (1, 810, 809, 20, 80, 5), (1, 817, 815, 816, 78, 3), (1, 821, 819, 820, 80, 1), (1, 825, 823, 824, 73, 1), (1, 829, 827, 828, 80, 2), (1, 833, 831, 832, 73, 1), (1, 837, 835, 836, 78, 1), (1, 841, 839, 840, 73, 3), (1, 845, 843, 844, 75, 3), (1, 849, 847, 848, 73, 1), (1, 853, 851, 852, 73, 1), (1, 857, 855, 856, 76, 2), (1, 861, 859, 860, 75, 1), (1, 867, 865, 866, 73, 0), (1, 871, 869, 870, 73, 1), (1, 875, 874, 21, 73, 2), (1, 879, 878, 22, 73, 1), (1, 883, 881, 882, 73, 3), (1, 888, 886, 887, 75, 0), (0, 892, 891, 0, 73, 3), (1, 896, 895, 23, 73, 1), (0, 899, 898, 0, 73, 1), (0, 903, 902, 0, 73, 3), (1, 907, 905, 906, 73, 2), (1, 911, 909, 910, 73, 3), (1, 917, 915, 916, 76, 1), (1, 922, 920, 921, 73, 1), (1, 926, 924, 925, 73, 1), (1, 930, 928, 929, 73, 3), (0, 933, 932, 0, 73, 1), (0, 936, 935, 0, 73, 1), (1, 940, 938, 939, 81, 2), (1, 944, 942, 943, 73, 3), (1, 948, 946, 947, 81, 2), (1, 952, 950, 951, 81, 2), (1, 956, 954, 955, 73, 4), (1, 960, 958, 959, 81, 2), (1, 965, 963, 964, 81, 1), (1, 969, 967, 968, 73, 0), (1, 973, 971, 972, 73, 1), (2, 978, 977, 0, 82, 0), (1, 983, 982, 24, 82, 0), (1, 987, 986, 25, 82, 0), (1, 1091, 1089, 1090, 82, 1), (0, 1095, 1094, 0, 82, 3), (1, 1099, 1097, 1098, 82, 1), (1, 1103, 1101, 1102, 82, 0), (1, 1107, 1106, 26, 82, 0), (1, 1111, 1110, 27, 82, 1), (1, 1119, 1118, 28, 82, 2), (1, 1123, 1122, 29, 82, 0), (1, 1127, 1126, 30, 82, 0), (1, 1131, 1130, 31, 82, 4), (1, 1135, 1134, 32, 82, 3), (1, 1139, 1138, 33, 82, 1), (1, 1143, 1142, 34, 82, 0), (1, 1147, 1146, 35, 82, 2), (1, 1151, 1150, 36, 82, 2), (1, 1155, 1154, 37, 82, 0), (1, 1159, 1158, 38, 82, 0), (0, 1162, 1161, 0, 82, 1), (1, 1169, 1168, 39, 82, 1), (1, 1173, 1171, 1172, 82, 0), (1, 1177, 1175, 1176, 82, 1), (1, 1181, 1180, 40, 82, 0), (1, 1185, 1184, 41, 82, 2), (1, 1189, 1188, 42, 82, 2), (1, 1193, 1192, 43, 82, 0), (1, 1197, 1196, 44, 82, 1), (1, 1201, 1200, 45, 82, 1), (1, 1205, 1204, 46, 82, 2), (0, 1208, 1207, 0, 82, 1), (1, 1212, 1210, 1211, 82, 2), (1, 1216, 1215, 47, 82, 1), (1, 1221, 1220, 48, 82, 1), (1, 1225, 1224, 49, 82, 1), (1, 1229, 1227, 1228, 82, 2), (1, 1233, 1232, 50, 82, 1), (1, 1238, 1236, 1237, 82, 1), (1, 1242, 1240, 1241, 82, 2), (1, 1246, 1245, 51, 82, 2), (1, 1250, 1248, 1249, 82, 2), (1, 1254, 1253, 52, 82, 2), (1, 1258, 1257, 53, 82, 2), (1, 1262, 1261, 54, 82, 3), (1, 1266, 1265, 55, 82, 0), (1, 1270, 1268, 1269, 82, 1), (1, 1275, 1274, 56, 82, 1), (1, 1279, 1278, 57, 82, 1), (1, 1283, 1282, 58, 82, 0), (1, 1287, 1285, 1286, 82, 1), (1, 1291, 1289, 1290, 82, 3), (0, 1294, 1293, 0, 82, 1), (1, 1298, 1297, 59, 82, 2), (1, 1302, 1300, 1301, 82, 3), (1, 1306, 1304, 1305, 82, 1), (1, 1310, 1309, 60, 82, 1), (1, 1314, 1312, 1313, 82, 1), (1, 1318, 1316, 1317, 82, 1), (1, 1322, 1321, 61, 82, 1), (1, 1326, 1324, 1325, 82, 1), (1, 1330, 1329, 62, 82, 0), (1, 1334, 1332, 1333, 82, 1), (1, 1338, 1336, 1337, 82, 2), (0, 1341, 1340, 0, 82, 1), (1, 1345, 1344, 63, 82, 0), (1, 1350, 1349, 64, 82, 1), (1, 1354, 1353, 65, 82, 2), (1, 1358, 1357, 66, 82, 1), (0, 1361, 1360, 0, 82, 1), (1, 1365, 1364, 67, 82, 3), (1, 1369, 1367, 1368, 82, 1), (1, 1373, 1371, 1372, 82, 1), (1, 1377, 1375, 1376, 82, 3), (1, 1381, 1379, 1380, 82, 1), (1, 1385, 1383, 1384, 82, 1), (1, 1389, 1388, 68, 82, 0), (1, 1393, 1391, 1392, 82, 0), (1, 1397, 1395, 1396, 82, 1), (1, 1401, 1400, 69, 82, 1), (1, 1405, 1403, 1404, 82, 3), (1, 1411, 1410, 70, 82, 2), (0, 1414, 1413, 0, 82, 3), (0, 1417, 1416, 0, 82, 2), (1, 1421, 1419, 1420, 82, 2), (1, 1425, 1423, 1424, 82, 3), (1, 1431, 1429, 1430, 82, 1), (1, 1435, 1434, 71, 82, 2), (1, 1439, 1437, 1438, 82, 1), (1, 1443, 1441, 1442, 82, 3), (0, 1446, 1445, 0, 82, 2), (1, 1450, 1448, 1449, 82, 3), (1, 1454, 1452, 1453, 82, 4), (1, 1460, 1458, 1459, 82, 0), (1, 1464, 1462, 1463, 82, 1)]
end
section
/-! TABLES: what is checked of the links -/
/-- the tables' words in blocks -/
noncomputable def lwT : List (Nat × List Cond) := [(72, k2_sels lw_privs), (240, tables_1_1), (240, tables_1_2), (240, tables_1_3), (240, tables_1_4), (240, tables_1_5), (195, tables_1_6)]
noncomputable def lwAt : List (Nat × List Cond) → Nat → Option Cond
  | [], _ => none
  | q :: t, k => bif Nat.ble q.1 k then lwAt t (k - q.1) else q.2[k]?
theorem lwAt_mem {w : Cond} : ∀ {T : List (Nat × List Cond)} {k : Nat}, lwAt T k = some w → ∃ q ∈ T, w ∈ q.2
  | [], _, h => by cases h
  | q :: t, k, h => by
    rw [lwAt] at h
    cases hb : Nat.ble q.1 k with
    | true =>
      rw [hb, cond_true] at h
      obtain ⟨p, hp, hw⟩ := lwAt_mem h
      exact ⟨p, List.mem_cons_of_mem _ hp, hw⟩
    | false =>
      rw [hb, cond_false] at h
      exact ⟨q, List.mem_cons_self, List.mem_of_getElem? h⟩
theorem lwT_in : ∀ q ∈ lwT, ∀ w ∈ q.2, w ∈ lw_tbl := by
  intro q hq w hw
  simp only [lwT, List.mem_cons, List.not_mem_nil, or_false] at hq
  unfold lw_tbl tables_1
  simp only [List.mem_append]
  rcases hq with rfl | rfl | rfl | rfl | rfl | rfl | rfl
  · exact Or.inl hw
  · exact Or.inr (Or.inl hw)
  · exact Or.inr (Or.inr (Or.inl hw))
  · exact Or.inr (Or.inr (Or.inr (Or.inl hw)))
  · exact Or.inr (Or.inr (Or.inr (Or.inr (Or.inl hw))))
  · exact Or.inr (Or.inr (Or.inr (Or.inr (Or.inr (Or.inl hw)))))
  · exact Or.inr (Or.inr (Or.inr (Or.inr (Or.inr (Or.inr (hw))))))
noncomputable def bEq : List UInt8 → List UInt8 → Bool
  | [], [] => true
  | x :: s, y :: t => Nat.beq x.toNat y.toNat && bEq s t
  | _, _ => false
theorem bEq_ok : ∀ {s t : List UInt8}, bEq s t = true → s = t
  | [], [], _ => rfl
  | [], _ :: _, h => by simp [bEq] at h
  | _ :: _, [], h => by simp [bEq] at h
  | x :: s, y :: t, h => by
    rw [bEq, Bool.and_eq_true] at h
    have h1 : x = y := UInt8.toNat_inj.mp (Nat.eq_of_beq_eq_true h.1)
    rw [h1, bEq_ok h.2]
/-- words are the same -/
noncomputable def eWd (w v : Cond) : Bool := match w with
  | .code x b l r => (match v with | .code x2 b2 l2 r2 => bEq b.data.toList b2.data.toList && decide (x = x2 ∧ l = l2 ∧ r = r2) | _ => false)
  | _ => decide (w = v)
theorem eWd_ok {w v : Cond} (h : eWd w v = true) : w = v := by
  unfold eWd at h
  split at h
  · rename_i x b l r
    split at h
    · rename_i x2 b2 l2 r2
      rw [Bool.and_eq_true, decide_eq_true_eq] at h
      obtain ⟨h1, rfl, rfl, rfl⟩ := h
      obtain ⟨⟨b⟩⟩ := b
      obtain ⟨⟨b2⟩⟩ := b2
      have h3 : b = b2 := bEq_ok h1
      rw [h3]
    · cases h
  · exact of_decide_eq_true h
noncomputable def wIn (k : Nat) (w : Cond) : Bool := (match lwAt lwT k with | some v => eWd w v | none => false) && goodWord w
theorem wIn_spec {k : Nat} {w : Cond} (h : wIn k w = true) : w ∈ gw := by
  unfold wIn at h
  rw [Bool.and_eq_true] at h
  obtain ⟨h1, h2⟩ := h
  split at h1
  · rename_i v hv
    rw [← eWd_ok h1] at hv
    obtain ⟨q, hq, hw⟩ := lwAt_mem hv
    exact List.mem_filter.mpr ⟨lwT_in q hq w hw, h2⟩
  · cases h1
noncomputable def wMem (w : Cond) : Bool := lwT.any (fun q => q.2.any (fun v => eWd w v))
theorem wMem_spec {w : Cond} (h : wMem w = true) : w ∈ lw_tbl := by
  obtain ⟨q, hq, h⟩ := List.any_eq_true.mp h
  obtain ⟨v, hv, h⟩ := List.any_eq_true.mp h
  rw [eWd_ok h]
  exact lwT_in q hq v hv
/-- the word that an instruction's link is -/
noncomputable def eW (own : String) (E : MI) : Option Cond := match E.2.1 with
  | .getfield idx => if E.2.2.2.1 = 99 then (if E.2.2.2.2.1 = 0 then some (.fieldLink own idx "java/lang/String" "value" "[B") else some (.fieldLink own idx "java/lang/String" "coder" "B")) else (tCls[E.2.2.2.1]?).map fun q => .fieldLink own idx (q.2.1 E.2.2.2.2.1).1 (q.2.1 E.2.2.2.2.1).2.1 (q.2.1 E.2.2.2.2.1).2.2.1
  | .putfield idx => (tCls[E.2.2.2.1]?).map fun q => .fieldLink own idx (q.2.1 E.2.2.2.2.1).1 (q.2.1 E.2.2.2.2.1).2.1 (q.2.1 E.2.2.2.2.1).2.2.1
  | .getstatic idx => if E.2.2.2.1 = 0 then some (.fieldLink own idx "java/lang/String" "COMPACT_STRINGS" "Z") else some (.fieldLink own idx "jdk/internal/util/Preconditions" "SIOOBE_FORMATTER" "Ljava/util/function/BiFunction;")
  | .ldc idx => some (.constant own idx (Int32.ofInt E.2.2.2.2.2))
  | .ldc_w idx => some (.constant own idx (Int32.ofInt E.2.2.2.2.2))
  | .ldc2_w idx => some (.constantLong own idx (Int64.ofInt E.2.2.2.2.2))
  | .new idx => (tCls[E.2.2.2.1]?).map fun q => .classLink own idx q.1
  | .anewarray idx => if E.2.2.2.1 = 3 then some (.classLink own idx "DoorPaints$Visitor") else if E.2.2.2.1 = 4 then some (.classLink own idx "DoorPaints$Door") else if E.2.2.2.1 = 5 then some (.classLink own idx "DoorPaints$Told") else if E.2.2.2.1 = 6 then some (.classLink own idx "DoorPaints$Sheet") else none
  | .invokestatic idx => if E.2.2.2.1 = 9998 then some (.methodLink own idx Lib.Math.max.name) else (tMT[E.2.2.2.1]?).map fun M => .methodLink own idx M.1
  | .invokevirtual idx => (tMT[E.2.2.2.1]?).map fun M => .methodLink own idx M.1
  | .invokespecial idx => if E.2.2.2.1 = 9999 then some (.methodLink own idx Lib.objectInit) else (tMT[E.2.2.2.1]?).map fun M => .methodLink own idx M.1
  | _ => none
noncomputable def eWin (own : String) (E : MI) (k : Nat) : Bool := match eW own E with
  | some w => wIn k w
  | none => false
/-- a call of a nest mate: its row in tNest -/
noncomputable def eNest (own : String) (E : MI) (idx k : Nat) : Bool := match tNest[k]?, tMT[E.2.2.2.1]? with
  | some q, some M => decide (q.1 = own ∧ q.2.1 = idx ∧ q.2.2.1 = M.1)
  | _, _ => false
noncomputable def eKd (E : MI) (kd np : Nat) : Bool := match tKd[E.2.2.2.1]? with
  | some q => decide (0 < E.2.2.2.1 ∧ E.2.2.2.1 < 9000 ∧ q.1 = kd ∧ q.2.2.2.2.2 = np)
  | none => false
noncomputable def eCl (E : MI) : Bool := match tMT[E.2.2.2.1]? with
  | some M => decide (E.2.2.2.2.2 = 99 ∧ M.1.cls = "java/lang/String") || (decide (0 ≤ E.2.2.2.2.2) && (match tCls[E.2.2.2.2.2.toNat]? with | some q => decide (q.1 = M.1.cls) | none => false))
  | none => false
noncomputable def eB (own nm : String) (E : MI) (k : Nat) : Bool := match E.2.1 with
  | .getfield _ => eWin own E k && (if E.2.2.2.1 = 99 then decide (E.2.2.2.2.1 ≤ 1) else (match tCls[E.2.2.2.1]? with | some q => decide (E.2.2.2.2.1 < q.2.2) | none => false))
  | .putfield _ => eWin own E k && (match tCls[E.2.2.2.1]? with | some q => decide (E.2.2.2.2.1 < q.2.2) && (!(q.2.1 E.2.2.2.2.1).2.2.2 || decide (nm = "<init>" ∧ (q.2.1 E.2.2.2.2.1).1 = own)) | none => false)
  | .getstatic _ => eWin own E k && (if E.2.2.2.1 = 0 then decide (E.2.2.2.2.2 = 1) else decide (E.2.2.2.2.1 = 100))
  | .ldc idx => if E.2.2.2.1 = 0 then eWin own E k else decide (¬ E.2.2.2.2.1 = 100) && decide (tStr[k - 20000]? = some (own, idx, E.2.2.2.2.1))
  | .ldc_w _ => eWin own E k
  | .ldc2_w _ => eWin own E k
  | .new _ => eWin own E k
  | .anewarray _ => eWin own E k
  | .aastore => (match tCls[E.2.2.2.1]? with | some q => decide ((E.2.2.2.2.1 = 3 ∧ q.1 = "DoorPaints$Visitor") ∨ (E.2.2.2.2.1 = 4 ∧ q.1 = "DoorPaints$Door") ∨ (E.2.2.2.2.1 = 5 ∧ q.1 = "DoorPaints$Told") ∨ (E.2.2.2.2.1 = 6 ∧ q.1 = "DoorPaints$Sheet")) | none => false)
  | .invokestatic idx => if E.2.2.2.1 = 9998 then decide (E.2.2.2.2.1 = 2) && eWin own E k else eKd E 0 E.2.2.2.2.1 && (if k < 10000 then eWin own E k else eNest own E idx (k - 10000))
  | .invokespecial idx => if E.2.2.2.1 = 9999 then decide (E.2.2.2.2.1 = 1) && eWin own E k else eKd E 2 (E.2.2.2.2.1 - 1) && (if k < 10000 then eWin own E k else eNest own E idx (k - 10000))
  | .invokevirtual _ => eKd E 1 (E.2.2.2.2.1 - 1) && eWin own E k && eCl E
  | _ => true
noncomputable def kOK (own nm : String) : List MI → List Nat → Bool
  | [], [] => true
  | E :: L, k :: K => eB own nm E k && kOK own nm L K
  | _, _ => false
noncomputable def kAll (own nm : String) (L : List MI) : Prop := ∀ E ∈ L, ∃ k, eB own nm E k = true
theorem kOK_of {own nm : String} : ∀ {L : List MI} {K : List Nat}, kOK own nm L K = true → kAll own nm L
  | [], _, _ => fun E h => absurd h List.not_mem_nil
  | E :: L, [], h => by simp [kOK] at h
  | E :: L, k :: K, h => by
    simp only [kOK, Bool.and_eq_true] at h
    intro E' h'
    rcases List.mem_cons.mp h' with rfl | h'
    · exact ⟨k, h.1⟩
    · exact kOK_of h.2 E' h'
theorem kAll_nil {own nm : String} : kAll own nm [] := fun E h => absurd h List.not_mem_nil
noncomputable def kOKs (own nm : String) : List (List MI) → List (List Nat) → Bool
  | [], [] => true
  | L :: Ls, K :: Ks => kOK own nm L K && kOKs own nm Ls Ks
  | _, _ => false
theorem kAll_gr {own nm : String} {R : List MI} (h2 : kAll own nm R) : ∀ {Ls : List (List MI)} {Ks : List (List Nat)}, kOKs own nm Ls Ks = true → kAll own nm (Ls.foldr (fun a b => a ++ b) R)
  | [], _, _ => h2
  | L :: Ls, [], h => by simp [kOKs] at h
  | L :: Ls, K :: Ks, h => by
    rw [kOKs, Bool.and_eq_true] at h
    intro E hE
    rcases List.mem_append.mp hE with h' | h'
    · exact kOK_of h.1 E h'
    · exact kAll_gr h2 h.2 E h'
theorem kAll_app {own nm : String} {L L2 : List MI} (h : kAll own nm L) (h2 : kAll own nm L2) : kAll own nm (L ++ L2) := fun E hE => (List.mem_append.mp hE).elim (h E) (h2 E)
end
