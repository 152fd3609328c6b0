section
/-! TABLES: the methods' listings (written by a program) -/
/-- DoorPaints.isRefusal(I)Z -/
noncomputable def cL90_0 : List MI := [(0, .iload_n 0, 1, 0, 0, 0), (1, .iconst (-1), 1, 0, 0, 0), (2, .if_icmp .eq 15, 3, 0, 0, 0), (5, .iload_n 0, 1, 0, 0, 0), (6, .bipush (-2), 2, 0, 0, 0), (8, .if_icmp .eq 9, 3, 0, 0, 0), (11, .iload_n 0, 1, 0, 0, 0), (12, .bipush (-3), 2, 0, 0, 0), (14, .if_icmp .ne 7, 3, 0, 0, 0)]
noncomputable def cL90_1 : List MI := [(17, .iconst 1, 1, 0, 0, 0), (18, .goto 4, 3, 0, 0, 0), (21, .iconst 0, 1, 0, 0, 0), (22, .ireturn, 1, 0, 0, 0)]
noncomputable def cG90_0 : List MI := cL90_0 ++ ( cL90_1 ++ ([]))
noncomputable def cL90 : List MI := cG90_0 ++ ([])
/-- DoorPaints.takenInTrial()I -/
noncomputable def cL91_0 : List MI := [(0, .aload_n 0, 1, 0, 0, 0), (1, .getfield 26, 3, 0, 2, 0), (4, .getfield 90, 3, 2, 0, 0), (7, .invokevirtual 108, 3, 61, 1, 3), (10, .aload_n 0, 1, 0, 0, 0), (11, .getfield 41, 3, 0, 5, 0), (14, .invokevirtual 108, 3, 61, 1, 3)]
noncomputable def cL91_1 : List MI := [(17, .isub, 1, 0, 0, 0), (18, .ireturn, 1, 0, 0, 0)]
noncomputable def cG91_0 : List MI := cL91_0 ++ ( cL91_1 ++ ([]))
noncomputable def cL91 : List MI := cG91_0 ++ ([])
/-- DoorPaints$Town.markedBits()I -/
noncomputable def cL92_0 : List MI := [(0, .iconst 0, 1, 0, 0, 0), (1, .istore_n 1, 1, 0, 0, 0), (2, .iconst 0, 1, 0, 0, 0), (3, .istore_n 2, 1, 0, 0, 0), (4, .iload_n 2, 1, 0, 0, 0), (5, .aload_n 0, 1, 0, 0, 0), (6, .getfield 29, 3, 3, 2, 0), (9, .if_icmp .ge 31, 3, 0, 0, 0), (12, .iload_n 1, 1, 0, 0, 0), (13, .aload_n 0, 1, 0, 0, 0), (14, .getfield 11, 3, 3, 0, 0)]
noncomputable def cL92_1 : List MI := [(17, .iload_n 2, 1, 0, 0, 0), (18, .aaload, 1, 0, 0, 0), (19, .getfield 64, 3, 4, 3, 0), (22, .ifCond .eq 9, 3, 0, 0, 0), (25, .iconst 1, 1, 0, 0, 0), (26, .iload_n 2, 1, 0, 0, 0), (27, .ishl, 1, 0, 0, 0), (28, .goto 4, 3, 0, 0, 0), (31, .iconst 0, 1, 0, 0, 0)]
noncomputable def cL92_2 : List MI := [(32, .ior, 1, 0, 0, 0), (33, .istore_n 1, 1, 0, 0, 0), (34, .iinc 2 1, 3, 0, 0, 0), (37, .goto (-33), 3, 0, 0, 0), (40, .iload_n 1, 1, 0, 0, 0), (41, .ireturn, 1, 0, 0, 0)]
noncomputable def cG92_0 : List MI := cL92_0 ++ ( cL92_1 ++ ( cL92_2 ++ ([])))
noncomputable def cL92 : List MI := cG92_0 ++ ([])
/-- DoorPaints.ahead(I)I -/
noncomputable def cL93_0 : List MI := [(0, .aload_n 0, 1, 0, 0, 0), (1, .getfield 26, 3, 0, 2, 0), (4, .getfield 90, 3, 2, 0, 0), (7, .iload_n 1, 1, 0, 0, 0), (8, .invokevirtual 136, 3, 50, 2, 3), (11, .ifCond .ne 5, 3, 0, 0, 0), (14, .iconst (-1), 1, 0, 0, 0), (15, .ireturn, 1, 0, 0, 0)]
noncomputable def cL93_1 : List MI := [(16, .aload_n 0, 1, 0, 0, 0), (17, .invokevirtual 197, 3, 87, 1, 0), (20, .pop, 1, 0, 0, 0), (21, .aload_n 0, 1, 0, 0, 0), (22, .getfield 41, 3, 0, 5, 0), (25, .getfield 139, 3, 3, 1, 0), (28, .iload_n 1, 1, 0, 0, 0), (29, .aaload, 1, 0, 0, 0), (30, .invokevirtual 151, 3, 60, 1, 5)]
noncomputable def cL93_2 : List MI := [(33, .ireturn, 1, 0, 0, 0)]
noncomputable def cG93_0 : List MI := cL93_0 ++ ( cL93_1 ++ ( cL93_2 ++ ([])))
noncomputable def cL93 : List MI := cG93_0 ++ ([])
/-- DoorPaints.clears(I)I -/
noncomputable def cL94_0 : List MI := [(0, .aload_n 0, 1, 0, 0, 0), (1, .getfield 26, 3, 0, 2, 0), (4, .getfield 90, 3, 2, 0, 0), (7, .iload_n 1, 1, 0, 0, 0), (8, .invokevirtual 136, 3, 50, 2, 3), (11, .ifCond .ne 5, 3, 0, 0, 0), (14, .iconst (-1), 1, 0, 0, 0), (15, .ireturn, 1, 0, 0, 0)]
noncomputable def cL94_1 : List MI := [(16, .iconst 0, 1, 0, 0, 0), (17, .istore_n 2, 1, 0, 0, 0), (18, .iconst 0, 1, 0, 0, 0), (19, .istore_n 3, 1, 0, 0, 0), (20, .iload_n 3, 1, 0, 0, 0), (21, .aload_n 0, 1, 0, 0, 0), (22, .getfield 26, 3, 0, 2, 0), (25, .getfield 90, 3, 2, 0, 0), (28, .getfield 93, 3, 3, 2, 0), (31, .if_icmp .ge 59, 3, 0, 0, 0)]
noncomputable def cL94_2 : List MI := [(34, .aload_n 0, 1, 0, 0, 0), (35, .getfield 41, 3, 0, 5, 0), (38, .aload_n 0, 1, 0, 0, 0), (39, .getfield 26, 3, 0, 2, 0), (42, .getfield 90, 3, 2, 0, 0), (45, .invokevirtual 206, 3, 52, 2, 3)]
noncomputable def cL94_3 : List MI := [(48, .aload_n 0, 1, 0, 0, 0), (49, .getfield 41, 3, 0, 5, 0), (52, .iload_n 3, 1, 0, 0, 0), (53, .iload_n 1, 1, 0, 0, 0), (54, .invokevirtual 168, 3, 70, 3, 3), (57, .invokestatic 209, 3, 90, 1, 0), (60, .ifCond .ne 24, 3, 0, 0, 0), (63, .aload_n 0, 1, 0, 0, 0)]
noncomputable def cL94_4 : List MI := [(64, .getfield 41, 3, 0, 5, 0), (67, .getfield 139, 3, 3, 1, 0), (70, .iload_n 1, 1, 0, 0, 0), (71, .aaload, 1, 0, 0, 0), (72, .invokevirtual 212, 3, 59, 1, 5), (75, .ifCond .ne 9, 3, 0, 0, 0), (78, .iload_n 2, 1, 0, 0, 0), (79, .iconst 1, 1, 0, 0, 0)]
noncomputable def cL94_5 : List MI := [(80, .iload_n 3, 1, 0, 0, 0), (81, .ishl, 1, 0, 0, 0), (82, .ior, 1, 0, 0, 0), (83, .istore_n 2, 1, 0, 0, 0), (84, .iinc 3 1, 3, 0, 0, 0), (87, .goto (-67), 3, 0, 0, 0), (90, .iload_n 2, 1, 0, 0, 0), (91, .ireturn, 1, 0, 0, 0)]
noncomputable def cG94_0 : List MI := cL94_0 ++ ( cL94_1 ++ ( cL94_2 ++ ( cL94_3 ++ ( cL94_4 ++ ( cL94_5 ++ ([]))))))
noncomputable def cL94 : List MI := cG94_0 ++ ([])
/-- DoorPaints.best(II)I -/
noncomputable def cL95_0 : List MI := [(0, .iload_n 1, 1, 0, 0, 0), (1, .ifCond .lt 23, 3, 0, 0, 0), (4, .iload_n 1, 1, 0, 0, 0), (5, .iconst 3, 1, 0, 0, 0), (6, .if_icmp .gt 18, 3, 0, 0, 0), (9, .iload_n 2, 1, 0, 0, 0), (10, .ifCond .lt 14, 3, 0, 0, 0), (13, .iload_n 2, 1, 0, 0, 0), (14, .iconst 1, 1, 0, 0, 0), (15, .if_icmp .le 11, 3, 0, 0, 0)]
noncomputable def cL95_1 : List MI := [(18, .iload_n 2, 1, 0, 0, 0), (19, .bipush 10, 2, 0, 0, 0), (21, .if_icmp .ge 5, 3, 0, 0, 0), (24, .iconst (-1), 1, 0, 0, 0), (25, .ireturn, 1, 0, 0, 0), (26, .aload_n 0, 1, 0, 0, 0), (27, .getfield 48, 3, 0, 6, 0), (30, .aload_n 0, 1, 0, 0, 0), (31, .getfield 26, 3, 0, 2, 0)]
noncomputable def cL95_2 : List MI := [(34, .getfield 90, 3, 2, 0, 0), (37, .iload_n 1, 1, 0, 0, 0), (38, .invokevirtual 216, 3, 96, 3, 7), (41, .iload_n 2, 1, 0, 0, 0), (42, .lookupswitch 42 #[(0, 26), (1, 34)], 26, 0, 0, 0)]
noncomputable def cL95_3 : List MI := []
noncomputable def cL95_4 : List MI := [(68, .aload_n 0, 1, 0, 0, 0), (69, .getfield 48, 3, 0, 6, 0), (72, .getfield 220, 3, 7, 4, 0), (75, .ireturn, 1, 0, 0, 0), (76, .aload_n 0, 1, 0, 0, 0), (77, .getfield 48, 3, 0, 6, 0)]
noncomputable def cL95_5 : List MI := [(80, .getfield 223, 3, 7, 5, 0), (83, .ireturn, 1, 0, 0, 0), (84, .aload_n 0, 1, 0, 0, 0), (85, .getfield 48, 3, 0, 6, 0), (88, .iload_n 2, 1, 0, 0, 0), (89, .bipush 10, 2, 0, 0, 0), (91, .isub, 1, 0, 0, 0), (92, .invokevirtual 226, 3, 106, 2, 7), (95, .ireturn, 1, 0, 0, 0)]
noncomputable def cG95_0 : List MI := cL95_0 ++ ( cL95_1 ++ ( cL95_2 ++ ( cL95_3 ++ ( cL95_4 ++ ( cL95_5 ++ ([]))))))
noncomputable def cL95 : List MI := cG95_0 ++ ([])
/-- DoorPaints$Search.forBest(LDoorPaints$Town;I)V -/
noncomputable def cL96_0 : List MI := [(0, .aload_n 0, 1, 0, 0, 0), (1, .iconst 1, 1, 0, 0, 0), (2, .putfield 25, 3, 7, 6, 0), (5, .aload_n 0, 1, 0, 0, 0), (6, .ldc 29, 2, 0, 0, 1073741824), (8, .putfield 30, 3, 7, 4, 0), (11, .aload_n 0, 1, 0, 0, 0), (12, .aload_n 1, 1, 0, 0, 0), (13, .iload_n 2, 1, 0, 0, 0), (14, .invokevirtual 34, 3, 97, 3, 7)]
noncomputable def cL96_1 : List MI := [(17, .aload_n 0, 1, 0, 0, 0), (18, .iconst 0, 1, 0, 0, 0), (19, .aload_n 0, 1, 0, 0, 0), (20, .getfield 12, 3, 7, 0, 0), (23, .invokevirtual 38, 3, 58, 1, 3), (26, .invokestatic 42, 3, 99, 1, 0), (29, .iconst 0, 1, 0, 0, 0), (30, .invokevirtual 48, 3, 100, 4, 7)]
noncomputable def cL96_2 : List MI := [(33, .return_, 1, 0, 0, 0)]
noncomputable def cG96_0 : List MI := cL96_0 ++ ( cL96_1 ++ ( cL96_2 ++ ([])))
noncomputable def cL96 : List MI := cG96_0 ++ ([])
/-- DoorPaints$Search.begin(LDoorPaints$Town;I)V -/
noncomputable def cL97_0 : List MI := [(0, .aload_n 0, 1, 0, 0, 0), (1, .getfield 12, 3, 7, 0, 0), (4, .aload_n 1, 1, 0, 0, 0), (5, .invokevirtual 52, 3, 52, 2, 3), (8, .aload_n 0, 1, 0, 0, 0), (9, .aload_n 1, 1, 0, 0, 0), (10, .invokevirtual 56, 3, 98, 1, 3), (13, .ifCond .eq 7, 3, 0, 0, 0)]
noncomputable def cL97_1 : List MI := [(16, .iload_n 2, 1, 0, 0, 0), (17, .goto 4, 3, 0, 0, 0), (20, .iconst 0, 1, 0, 0, 0), (21, .putfield 60, 3, 7, 3, 0), (24, .aload_n 0, 1, 0, 0, 0), (25, .ldc 29, 2, 0, 0, 1073741824), (27, .putfield 63, 3, 7, 5, 0), (30, .return_, 1, 0, 0, 0)]
noncomputable def cG97_0 : List MI := cL97_0 ++ ( cL97_1 ++ ([]))
noncomputable def cL97 : List MI := cG97_0 ++ ([])
/-- DoorPaints$Town.hasVisits()Z -/
noncomputable def cL98_0 : List MI := [(0, .aload_n 0, 1, 0, 0, 0), (1, .getfield 29, 3, 3, 2, 0), (4, .ifCond .le 14, 3, 0, 0, 0), (7, .aload_n 0, 1, 0, 0, 0), (8, .getfield 36, 3, 3, 3, 0), (11, .ifCond .le 7, 3, 0, 0, 0), (14, .iconst 1, 1, 0, 0, 0), (15, .goto 4, 3, 0, 0, 0)]
noncomputable def cL98_1 : List MI := [(18, .iconst 0, 1, 0, 0, 0), (19, .ireturn, 1, 0, 0, 0)]
noncomputable def cG98_0 : List MI := cL98_0 ++ ( cL98_1 ++ ([]))
noncomputable def cL98 : List MI := cG98_0 ++ ([])
/-- java/lang/Integer.bitCount(I)I -/
noncomputable def cL99_0 : List MI := [(0, .iload_n 0, 1, 0, 0, 0), (1, .iload_n 0, 1, 0, 0, 0), (2, .iconst 1, 1, 0, 0, 0), (3, .iushr, 1, 0, 0, 0), (4, .ldc_w 265, 3, 0, 0, 1431655765), (7, .iand, 1, 0, 0, 0), (8, .isub, 1, 0, 0, 0), (9, .istore_n 0, 1, 0, 0, 0), (10, .iload_n 0, 1, 0, 0, 0), (11, .ldc_w 266, 3, 0, 0, 858993459), (14, .iand, 1, 0, 0, 0), (15, .iload_n 0, 1, 0, 0, 0)]
noncomputable def cL99_1 : List MI := [(16, .iconst 2, 1, 0, 0, 0), (17, .iushr, 1, 0, 0, 0), (18, .ldc_w 266, 3, 0, 0, 858993459), (21, .iand, 1, 0, 0, 0), (22, .iadd, 1, 0, 0, 0), (23, .istore_n 0, 1, 0, 0, 0), (24, .iload_n 0, 1, 0, 0, 0), (25, .iload_n 0, 1, 0, 0, 0), (26, .iconst 4, 1, 0, 0, 0), (27, .iushr, 1, 0, 0, 0), (28, .iadd, 1, 0, 0, 0), (29, .ldc_w 267, 3, 0, 0, 252645135)]
noncomputable def cL99_2 : List MI := [(32, .iand, 1, 0, 0, 0), (33, .istore_n 0, 1, 0, 0, 0), (34, .iload_n 0, 1, 0, 0, 0), (35, .iload_n 0, 1, 0, 0, 0), (36, .bipush 8, 2, 0, 0, 0), (38, .iushr, 1, 0, 0, 0), (39, .iadd, 1, 0, 0, 0), (40, .istore_n 0, 1, 0, 0, 0), (41, .iload_n 0, 1, 0, 0, 0), (42, .iload_n 0, 1, 0, 0, 0), (43, .bipush 16, 2, 0, 0, 0), (45, .iushr, 1, 0, 0, 0), (46, .iadd, 1, 0, 0, 0), (47, .istore_n 0, 1, 0, 0, 0)]
noncomputable def cL99_3 : List MI := [(48, .iload_n 0, 1, 0, 0, 0), (49, .bipush 63, 2, 0, 0, 0), (51, .iand, 1, 0, 0, 0), (52, .ireturn, 1, 0, 0, 0)]
noncomputable def cG99_0 : List MI := cL99_0 ++ ( cL99_1 ++ ( cL99_2 ++ ( cL99_3 ++ ([]))))
noncomputable def cL99 : List MI := cG99_0 ++ ([])
/-- DoorPaints$Search.tryFrom(III)V -/
noncomputable def cL100_0 : List MI := [(0, .iload_n 1, 1, 0, 0, 0), (1, .aload_n 0, 1, 0, 0, 0), (2, .getfield 60, 3, 7, 3, 0), (5, .if_icmp .ge 8, 3, 0, 0, 0), (8, .iload_n 1, 1, 0, 0, 0), (9, .iconst 3, 1, 0, 0, 0), (10, .if_icmp .lt 19, 3, 0, 0, 0), (13, .aload_n 0, 1, 0, 0, 0), (14, .iload_n 2, 1, 0, 0, 0), (15, .iload_n 3, 1, 0, 0, 0)]
noncomputable def cL100_1 : List MI := [(16, .invokevirtual 66, 3, 101, 3, 7), (19, .ifCond .eq 9, 3, 0, 0, 0), (22, .aload_n 0, 1, 0, 0, 0), (23, .iload_n 2, 1, 0, 0, 0), (24, .iload_n 3, 1, 0, 0, 0), (25, .invokevirtual 70, 3, 102, 3, 7), (28, .return_, 1, 0, 0, 0), (29, .iconst 0, 1, 0, 0, 0), (30, .istore 4, 2, 0, 0, 0)]
noncomputable def cL100_2 : List MI := [(32, .iload 4, 2, 0, 0, 0), (34, .aload_n 0, 1, 0, 0, 0), (35, .getfield 12, 3, 7, 0, 0), (38, .getfield 74, 3, 3, 2, 0), (41, .if_icmp .ge 65, 3, 0, 0, 0), (44, .iconst 0, 1, 0, 0, 0), (45, .istore 5, 2, 0, 0, 0), (47, .iload 5, 2, 0, 0, 0)]
noncomputable def cL100_3 : List MI := [(49, .aload_n 0, 1, 0, 0, 0), (50, .getfield 12, 3, 7, 0, 0), (53, .getfield 77, 3, 3, 3, 0), (56, .if_icmp .ge 44, 3, 0, 0, 0), (59, .aload_n 0, 1, 0, 0, 0), (60, .iload_n 1, 1, 0, 0, 0), (61, .iload_n 2, 1, 0, 0, 0), (62, .iload_n 3, 1, 0, 0, 0), (63, .invokevirtual 80, 3, 103, 4, 7)]
noncomputable def cL100_4 : List MI := [(66, .ifCond .eq 34, 3, 0, 0, 0), (69, .aload_n 0, 1, 0, 0, 0), (70, .getfield 18, 3, 7, 1, 0), (73, .iload_n 1, 1, 0, 0, 0), (74, .bipush 10, 2, 0, 0, 0), (76, .iload 4, 2, 0, 0, 0), (78, .imul, 1, 0, 0, 0), (79, .iload 5, 2, 0, 0, 0)]
noncomputable def cL100_5 : List MI := [(81, .iadd, 1, 0, 0, 0), (82, .iastore, 1, 0, 0, 0), (83, .aload_n 0, 1, 0, 0, 0), (84, .iload 4, 2, 0, 0, 0), (86, .iload 5, 2, 0, 0, 0), (88, .iload_n 1, 1, 0, 0, 0), (89, .iload_n 2, 1, 0, 0, 0), (90, .iload_n 3, 1, 0, 0, 0), (91, .invokevirtual 84, 3, 104, 6, 7), (94, .iinc 5 1, 3, 0, 0, 0)]
noncomputable def cL100_6 : List MI := [(97, .goto (-50), 3, 0, 0, 0), (100, .iinc 4 1, 3, 0, 0, 0), (103, .goto (-71), 3, 0, 0, 0), (106, .return_, 1, 0, 0, 0)]
noncomputable def cG100_0 : List MI := cL100_0 ++ ( cL100_1 ++ ( cL100_2 ++ ( cL100_3 ++ ( cL100_4 ++ ( cL100_5 ++ ( cL100_6 ++ ([])))))))
noncomputable def cL100 : List MI := cG100_0 ++ ([])
/-- DoorPaints$Search.isBetter(II)Z -/
noncomputable def cL101_0 : List MI := [(0, .iload_n 1, 1, 0, 0, 0), (1, .aload_n 0, 1, 0, 0, 0), (2, .getfield 30, 3, 7, 4, 0), (5, .if_icmp .lt 26, 3, 0, 0, 0), (8, .aload_n 0, 1, 0, 0, 0), (9, .getfield 25, 3, 7, 6, 0), (12, .ifCond .eq 23, 3, 0, 0, 0), (15, .iload_n 1, 1, 0, 0, 0)]
noncomputable def cL101_1 : List MI := [(16, .aload_n 0, 1, 0, 0, 0), (17, .getfield 30, 3, 7, 4, 0), (20, .if_icmp .ne 15, 3, 0, 0, 0), (23, .iload_n 2, 1, 0, 0, 0), (24, .aload_n 0, 1, 0, 0, 0), (25, .getfield 63, 3, 7, 5, 0), (28, .if_icmp .ge 7, 3, 0, 0, 0), (31, .iconst 1, 1, 0, 0, 0)]
noncomputable def cL101_2 : List MI := [(32, .goto 4, 3, 0, 0, 0), (35, .iconst 0, 1, 0, 0, 0), (36, .ireturn, 1, 0, 0, 0)]
noncomputable def cG101_0 : List MI := cL101_0 ++ ( cL101_1 ++ ( cL101_2 ++ ([])))
noncomputable def cL101 : List MI := cG101_0 ++ ([])
/-- DoorPaints$Search.take(II)V -/
noncomputable def cL102_0 : List MI := [(0, .aload_n 0, 1, 0, 0, 0), (1, .iload_n 1, 1, 0, 0, 0), (2, .putfield 30, 3, 7, 4, 0), (5, .aload_n 0, 1, 0, 0, 0), (6, .iload_n 2, 1, 0, 0, 0), (7, .putfield 63, 3, 7, 5, 0), (10, .iconst 0, 1, 0, 0, 0), (11, .istore_n 3, 1, 0, 0, 0), (12, .iload_n 3, 1, 0, 0, 0), (13, .aload_n 0, 1, 0, 0, 0), (14, .getfield 60, 3, 7, 3, 0)]
noncomputable def cL102_1 : List MI := [(17, .if_icmp .ge 26, 3, 0, 0, 0), (20, .iload_n 3, 1, 0, 0, 0), (21, .iconst 3, 1, 0, 0, 0), (22, .if_icmp .ge 21, 3, 0, 0, 0), (25, .aload_n 0, 1, 0, 0, 0), (26, .getfield 22, 3, 7, 2, 0), (29, .iload_n 3, 1, 0, 0, 0), (30, .aload_n 0, 1, 0, 0, 0), (31, .getfield 18, 3, 7, 1, 0)]
noncomputable def cL102_2 : List MI := [(34, .iload_n 3, 1, 0, 0, 0), (35, .iaload, 1, 0, 0, 0), (36, .iastore, 1, 0, 0, 0), (37, .iinc 3 1, 3, 0, 0, 0), (40, .goto (-28), 3, 0, 0, 0), (43, .return_, 1, 0, 0, 0)]
noncomputable def cG102_0 : List MI := cL102_0 ++ ( cL102_1 ++ ( cL102_2 ++ ([])))
noncomputable def cL102 : List MI := cG102_0 ++ ([])
/-- DoorPaints$Search.mayImprove(III)Z -/
noncomputable def cL103_0 : List MI := [(0, .aload_n 0, 1, 0, 0, 0), (1, .iconst 0, 1, 0, 0, 0), (2, .iload_n 2, 1, 0, 0, 0), (3, .aload_n 0, 1, 0, 0, 0), (4, .getfield 60, 3, 7, 3, 0), (7, .iload_n 1, 1, 0, 0, 0), (8, .isub, 1, 0, 0, 0), (9, .isub, 1, 0, 0, 0), (10, .invokestatic 123, 3, 9998, 2, 0), (13, .iload_n 3, 1, 0, 0, 0), (14, .invokevirtual 66, 3, 101, 3, 7)]
noncomputable def cL103_1 : List MI := [(17, .ireturn, 1, 0, 0, 0)]
noncomputable def cG103_0 : List MI := cL103_0 ++ ( cL103_1 ++ ([]))
noncomputable def cL103 : List MI := cG103_0 ++ ([])
/-- DoorPaints$Search.tryVisit(IIIII)V -/
noncomputable def cL104_0 : List MI := [(0, .aload_n 0, 1, 0, 0, 0), (1, .getfield 12, 3, 7, 0, 0), (4, .getfield 88, 3, 3, 0, 0), (7, .iload_n 1, 1, 0, 0, 0), (8, .aaload, 1, 0, 0, 0), (9, .astore 6, 2, 0, 0, 0), (11, .aload_n 0, 1, 0, 0, 0), (12, .getfield 12, 3, 7, 0, 0), (15, .getfield 92, 3, 3, 1, 0)]
noncomputable def cL104_1 : List MI := [(18, .iload_n 2, 1, 0, 0, 0), (19, .aaload, 1, 0, 0, 0), (20, .astore 7, 2, 0, 0, 0), (22, .aload 6, 2, 0, 0, 0), (24, .getfield 96, 3, 4, 2, 0), (27, .istore 8, 2, 0, 0, 0), (29, .aload 7, 2, 0, 0, 0), (31, .getfield 101, 3, 5, 1, 0)]
noncomputable def cL104_2 : List MI := [(34, .istore 9, 2, 0, 0, 0), (36, .aload 7, 2, 0, 0, 0), (38, .invokevirtual 106, 3, 60, 1, 5), (41, .istore 10, 2, 0, 0, 0), (43, .aload 7, 2, 0, 0, 0), (45, .getfield 109, 3, 5, 3, 0)]
noncomputable def cL104_3 : List MI := [(48, .istore 11, 2, 0, 0, 0), (50, .aload 7, 2, 0, 0, 0), (52, .invokevirtual 112, 3, 59, 1, 5), (55, .ifCond .eq 10, 3, 0, 0, 0), (58, .iload 4, 2, 0, 0, 0), (60, .iconst 1, 1, 0, 0, 0), (61, .isub, 1, 0, 0, 0), (62, .goto 5, 3, 0, 0, 0)]
noncomputable def cL104_4 : List MI := [(65, .iload 4, 2, 0, 0, 0), (67, .istore 12, 2, 0, 0, 0), (69, .aload_n 0, 1, 0, 0, 0), (70, .getfield 12, 3, 7, 0, 0), (73, .iload_n 1, 1, 0, 0, 0), (74, .iload_n 2, 1, 0, 0, 0), (75, .invokevirtual 115, 3, 70, 3, 3), (78, .pop, 1, 0, 0, 0), (79, .aload_n 0, 1, 0, 0, 0)]
noncomputable def cL104_5 : List MI := [(80, .iload_n 3, 1, 0, 0, 0), (81, .iconst 1, 1, 0, 0, 0), (82, .iadd, 1, 0, 0, 0), (83, .aload 7, 2, 0, 0, 0), (85, .invokevirtual 112, 3, 59, 1, 5), (88, .ifCond .eq 10, 3, 0, 0, 0), (91, .iload 12, 2, 0, 0, 0), (93, .iconst 1, 1, 0, 0, 0), (94, .iadd, 1, 0, 0, 0), (95, .goto 5, 3, 0, 0, 0)]
noncomputable def cL104_6 : List MI := [(98, .iload 12, 2, 0, 0, 0), (100, .iload 5, 2, 0, 0, 0), (102, .iload 8, 2, 0, 0, 0), (104, .iadd, 1, 0, 0, 0), (105, .aload 6, 2, 0, 0, 0), (107, .getfield 96, 3, 4, 2, 0), (110, .isub, 1, 0, 0, 0), (111, .invokevirtual 48, 3, 100, 4, 7)]
noncomputable def cL104_7 : List MI := [(114, .aload 6, 2, 0, 0, 0), (116, .iload 8, 2, 0, 0, 0), (118, .putfield 96, 3, 4, 2, 0), (121, .aload 7, 2, 0, 0, 0), (123, .iload 9, 2, 0, 0, 0), (125, .iload 10, 2, 0, 0, 0), (127, .iload 11, 2, 0, 0, 0)]
noncomputable def cL104_8 : List MI := [(129, .invokevirtual 119, 3, 105, 4, 5), (132, .return_, 1, 0, 0, 0)]
noncomputable def cG104_0 : List MI := cL104_0 ++ ( cL104_1 ++ ( cL104_2 ++ ( cL104_3 ++ ( cL104_4 ++ ( cL104_5 ++ ( cL104_6 ++ ( cL104_7 ++ ([]))))))))
noncomputable def cG104_1 : List MI := cL104_8 ++ ([])
noncomputable def cL104 : List MI := cG104_0 ++ ( cG104_1 ++ ([]))
/-- DoorPaints$Door.restore(IIZ)V -/
noncomputable def cL105_0 : List MI := [(0, .aload_n 0, 1, 0, 0, 0), (1, .iload_n 1, 1, 0, 0, 0), (2, .putfield 15, 3, 5, 1, 0), (5, .aload_n 0, 1, 0, 0, 0), (6, .getfield 15, 3, 5, 1, 0), (9, .ifCond .le 24, 3, 0, 0, 0), (12, .aload_n 0, 1, 0, 0, 0), (13, .getfield 15, 3, 5, 1, 0)]
noncomputable def cL105_1 : List MI := [(16, .bipush 6, 2, 0, 0, 0), (18, .if_icmp .gt 15, 3, 0, 0, 0), (21, .aload_n 0, 1, 0, 0, 0), (22, .getfield 9, 3, 5, 0, 0), (25, .aload_n 0, 1, 0, 0, 0), (26, .getfield 15, 3, 5, 1, 0), (29, .iconst 1, 1, 0, 0, 0), (30, .isub, 1, 0, 0, 0), (31, .iload_n 2, 1, 0, 0, 0)]
noncomputable def cL105_2 : List MI := [(32, .iastore, 1, 0, 0, 0), (33, .aload_n 0, 1, 0, 0, 0), (34, .iload_n 3, 1, 0, 0, 0), (35, .putfield 22, 3, 5, 3, 0), (38, .return_, 1, 0, 0, 0)]
noncomputable def cG105_0 : List MI := cL105_0 ++ ( cL105_1 ++ ( cL105_2 ++ ([])))
noncomputable def cL105 : List MI := cG105_0 ++ ([])
/-- DoorPaints$Search.visitAt(I)I -/
noncomputable def cL106_0 : List MI := [(0, .iload_n 1, 1, 0, 0, 0), (1, .ifCond .lt 25, 3, 0, 0, 0), (4, .iload_n 1, 1, 0, 0, 0), (5, .aload_n 0, 1, 0, 0, 0), (6, .getfield 60, 3, 7, 3, 0), (9, .if_icmp .ge 17, 3, 0, 0, 0), (12, .iload_n 1, 1, 0, 0, 0), (13, .iconst 3, 1, 0, 0, 0), (14, .if_icmp .ge 12, 3, 0, 0, 0)]
noncomputable def cL106_1 : List MI := [(17, .aload_n 0, 1, 0, 0, 0), (18, .getfield 22, 3, 7, 2, 0), (21, .iload_n 1, 1, 0, 0, 0), (22, .iaload, 1, 0, 0, 0), (23, .goto 5, 3, 0, 0, 0), (26, .bipush (-4), 2, 0, 0, 0), (28, .ireturn, 1, 0, 0, 0)]
noncomputable def cG106_0 : List MI := cL106_0 ++ ( cL106_1 ++ ([]))
noncomputable def cL106 : List MI := cG106_0 ++ ([])
/-- DoorPaints.few(I)I -/
noncomputable def cL107_0 : List MI := [(0, .iload_n 1, 1, 0, 0, 0), (1, .ifCond .eq 11, 3, 0, 0, 0), (4, .iload_n 1, 1, 0, 0, 0), (5, .bipush 10, 2, 0, 0, 0), (7, .if_icmp .ge 5, 3, 0, 0, 0), (10, .iconst (-1), 1, 0, 0, 0), (11, .ireturn, 1, 0, 0, 0), (12, .iconst 0, 1, 0, 0, 0), (13, .istore_n 2, 1, 0, 0, 0), (14, .iload_n 2, 1, 0, 0, 0), (15, .iconst 3, 1, 0, 0, 0)]
noncomputable def cL107_1 : List MI := [(16, .if_icmp .gt 47, 3, 0, 0, 0), (19, .aload_n 0, 1, 0, 0, 0), (20, .getfield 48, 3, 0, 6, 0), (23, .aload_n 0, 1, 0, 0, 0), (24, .getfield 26, 3, 0, 2, 0), (27, .getfield 90, 3, 2, 0, 0), (30, .iload_n 2, 1, 0, 0, 0), (31, .invokevirtual 229, 3, 108, 3, 7)]
noncomputable def cL107_2 : List MI := [(34, .ifCond .eq 23, 3, 0, 0, 0), (37, .iload_n 1, 1, 0, 0, 0), (38, .ifCond .ne 7, 3, 0, 0, 0), (41, .iload_n 2, 1, 0, 0, 0), (42, .goto 14, 3, 0, 0, 0), (45, .aload_n 0, 1, 0, 0, 0), (46, .getfield 48, 3, 0, 6, 0)]
noncomputable def cL107_3 : List MI := [(49, .iload_n 1, 1, 0, 0, 0), (50, .bipush 10, 2, 0, 0, 0), (52, .isub, 1, 0, 0, 0), (53, .invokevirtual 226, 3, 106, 2, 7), (56, .ireturn, 1, 0, 0, 0), (57, .iinc 2 1, 3, 0, 0, 0), (60, .goto (-46), 3, 0, 0, 0), (63, .bipush (-4), 2, 0, 0, 0)]
noncomputable def cL107_4 : List MI := [(65, .ireturn, 1, 0, 0, 0)]
noncomputable def cG107_0 : List MI := cL107_0 ++ ( cL107_1 ++ ( cL107_2 ++ ( cL107_3 ++ ( cL107_4 ++ ([])))))
noncomputable def cL107 : List MI := cG107_0 ++ ([])
/-- DoorPaints$Search.clearsAll(LDoorPaints$Town;I)Z -/
noncomputable def cL108_0 : List MI := [(0, .aload_n 0, 1, 0, 0, 0), (1, .iconst 0, 1, 0, 0, 0), (2, .putfield 25, 3, 7, 6, 0), (5, .aload_n 0, 1, 0, 0, 0), (6, .iconst 1, 1, 0, 0, 0), (7, .putfield 30, 3, 7, 4, 0), (10, .aload_n 0, 1, 0, 0, 0), (11, .aload_n 1, 1, 0, 0, 0), (12, .iload_n 2, 1, 0, 0, 0), (13, .invokevirtual 34, 3, 97, 3, 7)]
noncomputable def cL108_1 : List MI := [(16, .aload_n 0, 1, 0, 0, 0), (17, .iconst 0, 1, 0, 0, 0), (18, .aload_n 0, 1, 0, 0, 0), (19, .getfield 12, 3, 7, 0, 0), (22, .invokevirtual 38, 3, 58, 1, 3), (25, .invokestatic 42, 3, 99, 1, 0), (28, .iconst 0, 1, 0, 0, 0), (29, .invokevirtual 48, 3, 100, 4, 7)]
noncomputable def cL108_2 : List MI := [(32, .aload_n 0, 1, 0, 0, 0), (33, .getfield 30, 3, 7, 4, 0), (36, .ifCond .ne 7, 3, 0, 0, 0), (39, .iconst 1, 1, 0, 0, 0), (40, .goto 4, 3, 0, 0, 0), (43, .iconst 0, 1, 0, 0, 0), (44, .ireturn, 1, 0, 0, 0)]
noncomputable def cG108_0 : List MI := cL108_0 ++ ( cL108_1 ++ ( cL108_2 ++ ([])))
noncomputable def cL108 : List MI := cG108_0 ++ ([])
/-- DoorPaints.reads(I)I -/
noncomputable def cL109_0 : List MI := [(0, .aload_n 0, 1, 0, 0, 0), (1, .getfield 26, 3, 0, 2, 0), (4, .getfield 90, 3, 2, 0, 0), (7, .iload_n 1, 1, 0, 0, 0), (8, .invokevirtual 111, 3, 49, 2, 3), (11, .ifCond .ne 5, 3, 0, 0, 0), (14, .iconst (-1), 1, 0, 0, 0), (15, .ireturn, 1, 0, 0, 0)]
noncomputable def cL109_1 : List MI := [(16, .aload_n 0, 1, 0, 0, 0), (17, .getfield 26, 3, 0, 2, 0), (20, .getfield 90, 3, 2, 0, 0), (23, .iload_n 1, 1, 0, 0, 0), (24, .invokevirtual 132, 3, 63, 2, 3), (27, .istore_n 2, 1, 0, 0, 0), (28, .iconst 0, 1, 0, 0, 0), (29, .istore_n 3, 1, 0, 0, 0), (30, .iconst 0, 1, 0, 0, 0), (31, .istore 4, 2, 0, 0, 0)]
noncomputable def cL109_2 : List MI := [(33, .iload 4, 2, 0, 0, 0), (35, .aload_n 0, 1, 0, 0, 0), (36, .getfield 26, 3, 0, 2, 0), (39, .getfield 90, 3, 2, 0, 0), (42, .getfield 96, 3, 3, 3, 0), (45, .if_icmp .ge 36, 3, 0, 0, 0)]
noncomputable def cL109_3 : List MI := [(48, .aload_n 0, 1, 0, 0, 0), (49, .getfield 26, 3, 0, 2, 0), (52, .getfield 90, 3, 2, 0, 0), (55, .getfield 139, 3, 3, 1, 0), (58, .iload 4, 2, 0, 0, 0), (60, .aaload, 1, 0, 0, 0), (61, .iload_n 2, 1, 0, 0, 0), (62, .invokevirtual 233, 3, 110, 2, 5)]
noncomputable def cL109_4 : List MI := [(65, .ifCond .eq 10, 3, 0, 0, 0), (68, .iload_n 3, 1, 0, 0, 0), (69, .iconst 1, 1, 0, 0, 0), (70, .iload 4, 2, 0, 0, 0), (72, .ishl, 1, 0, 0, 0), (73, .ior, 1, 0, 0, 0), (74, .istore_n 3, 1, 0, 0, 0), (75, .iinc 4 1, 3, 0, 0, 0), (78, .goto (-45), 3, 0, 0, 0)]
noncomputable def cL109_5 : List MI := [(81, .iload_n 3, 1, 0, 0, 0), (82, .ireturn, 1, 0, 0, 0)]
noncomputable def cG109_0 : List MI := cL109_0 ++ ( cL109_1 ++ ( cL109_2 ++ ( cL109_3 ++ ( cL109_4 ++ ( cL109_5 ++ ([]))))))
noncomputable def cL109 : List MI := cG109_0 ++ ([])
/-- DoorPaints$Door.hasLayerOf(I)Z -/
noncomputable def cL110_0 : List MI := [(0, .iconst 0, 1, 0, 0, 0), (1, .istore_n 2, 1, 0, 0, 0), (2, .iload_n 2, 1, 0, 0, 0), (3, .aload_n 0, 1, 0, 0, 0), (4, .getfield 15, 3, 5, 1, 0), (7, .if_icmp .ge 21, 3, 0, 0, 0), (10, .aload_n 0, 1, 0, 0, 0), (11, .getfield 9, 3, 5, 0, 0), (14, .iload_n 2, 1, 0, 0, 0), (15, .iaload, 1, 0, 0, 0)]
noncomputable def cL110_1 : List MI := [(16, .iload_n 1, 1, 0, 0, 0), (17, .if_icmp .ne 5, 3, 0, 0, 0), (20, .iconst 1, 1, 0, 0, 0), (21, .ireturn, 1, 0, 0, 0), (22, .iinc 2 1, 3, 0, 0, 0), (25, .goto (-23), 3, 0, 0, 0), (28, .iconst 0, 1, 0, 0, 0), (29, .ireturn, 1, 0, 0, 0)]
noncomputable def cG110_0 : List MI := cL110_0 ++ ( cL110_1 ++ ([]))
noncomputable def cL110 : List MI := cG110_0 ++ ([])
/-- DoorPaints.see(III)I -/
noncomputable def cL111_0 : List MI := [(0, .iload_n 3, 1, 0, 0, 0), (1, .invokestatic 181, 3, 73, 1, 0), (4, .ifCond .ne 9, 3, 0, 0, 0), (7, .iload_n 3, 1, 0, 0, 0), (8, .bipush (-4), 2, 0, 0, 0), (10, .if_icmp .ne 7, 3, 0, 0, 0), (13, .iconst 1, 1, 0, 0, 0), (14, .goto 4, 3, 0, 0, 0)]
noncomputable def cL111_1 : List MI := [(17, .iconst 0, 1, 0, 0, 0), (18, .istore 4, 2, 0, 0, 0), (20, .aload_n 0, 1, 0, 0, 0), (21, .getfield 26, 3, 0, 2, 0), (24, .getfield 90, 3, 2, 0, 0), (27, .iload_n 1, 1, 0, 0, 0), (28, .invokevirtual 136, 3, 50, 2, 3), (31, .ifCond .eq 18, 3, 0, 0, 0)]
noncomputable def cL111_2 : List MI := [(34, .iload_n 2, 1, 0, 0, 0), (35, .ifCond .lt 14, 3, 0, 0, 0), (38, .iload_n 2, 1, 0, 0, 0), (39, .bipush 6, 2, 0, 0, 0), (41, .if_icmp .ge 8, 3, 0, 0, 0), (44, .iload 4, 2, 0, 0, 0), (46, .ifCond .ne 5, 3, 0, 0, 0)]
noncomputable def cL111_3 : List MI := [(49, .iconst (-1), 1, 0, 0, 0), (50, .ireturn, 1, 0, 0, 0), (51, .aload_n 0, 1, 0, 0, 0), (52, .getfield 26, 3, 0, 2, 0), (55, .iload_n 1, 1, 0, 0, 0), (56, .iload_n 2, 1, 0, 0, 0), (57, .iload_n 3, 1, 0, 0, 0), (58, .invokevirtual 236, 3, 112, 4, 2), (61, .ifCond .eq 13, 3, 0, 0, 0)]
noncomputable def cL111_4 : List MI := [(64, .aload_n 0, 1, 0, 0, 0), (65, .getfield 26, 3, 0, 2, 0), (68, .getfield 240, 3, 2, 6, 0), (71, .goto 5, 3, 0, 0, 0), (74, .bipush (-3), 2, 0, 0, 0), (76, .ireturn, 1, 0, 0, 0)]
noncomputable def cG111_0 : List MI := cL111_0 ++ ( cL111_1 ++ ( cL111_2 ++ ( cL111_3 ++ ( cL111_4 ++ ([])))))
noncomputable def cL111 : List MI := cG111_0 ++ ([])
/-- DoorPaints$Told.addSeen(III)Z -/
noncomputable def cL112_0 : List MI := [(0, .aload_n 0, 1, 0, 0, 0), (1, .getfield 39, 3, 2, 6, 0), (4, .bipush 6, 2, 0, 0, 0), (6, .if_icmp .lt 5, 3, 0, 0, 0), (9, .iconst 0, 1, 0, 0, 0), (10, .ireturn, 1, 0, 0, 0), (11, .aload_n 0, 1, 0, 0, 0), (12, .getfield 22, 3, 2, 3, 0), (15, .aload_n 0, 1, 0, 0, 0)]
noncomputable def cL112_1 : List MI := [(16, .getfield 39, 3, 2, 6, 0), (19, .iload_n 1, 1, 0, 0, 0), (20, .iastore, 1, 0, 0, 0), (21, .aload_n 0, 1, 0, 0, 0), (22, .getfield 25, 3, 2, 4, 0), (25, .aload_n 0, 1, 0, 0, 0), (26, .getfield 39, 3, 2, 6, 0), (29, .iload_n 2, 1, 0, 0, 0), (30, .iastore, 1, 0, 0, 0), (31, .aload_n 0, 1, 0, 0, 0)]
noncomputable def cL112_2 : List MI := [(32, .getfield 28, 3, 2, 5, 0), (35, .aload_n 0, 1, 0, 0, 0), (36, .getfield 39, 3, 2, 6, 0), (39, .iload_n 3, 1, 0, 0, 0), (40, .iastore, 1, 0, 0, 0), (41, .aload_n 0, 1, 0, 0, 0), (42, .dup, 1, 0, 0, 0), (43, .getfield 39, 3, 2, 6, 0), (46, .iconst 1, 1, 0, 0, 0), (47, .iadd, 1, 0, 0, 0)]
noncomputable def cL112_3 : List MI := [(48, .putfield 39, 3, 2, 6, 0), (51, .iconst 1, 1, 0, 0, 0), (52, .ireturn, 1, 0, 0, 0)]
noncomputable def cG112_0 : List MI := cL112_0 ++ ( cL112_1 ++ ( cL112_2 ++ ( cL112_3 ++ ([]))))
noncomputable def cL112 : List MI := cG112_0 ++ ([])
/-- DoorPaints.forget(I)I -/
noncomputable def cL113_0 : List MI := [(0, .iload_n 1, 1, 0, 0, 0), (1, .ifCond .lt 14, 3, 0, 0, 0), (4, .iload_n 1, 1, 0, 0, 0), (5, .aload_n 0, 1, 0, 0, 0), (6, .getfield 26, 3, 0, 2, 0), (9, .getfield 240, 3, 2, 6, 0), (12, .if_icmp .le 5, 3, 0, 0, 0), (15, .iconst (-1), 1, 0, 0, 0)]
noncomputable def cL113_1 : List MI := [(16, .ireturn, 1, 0, 0, 0), (17, .aload_n 0, 1, 0, 0, 0), (18, .getfield 26, 3, 0, 2, 0), (21, .getfield 240, 3, 2, 6, 0), (24, .istore_n 2, 1, 0, 0, 0), (25, .aload_n 0, 1, 0, 0, 0), (26, .getfield 26, 3, 0, 2, 0), (29, .iload_n 1, 1, 0, 0, 0), (30, .putfield 240, 3, 2, 6, 0)]
noncomputable def cL113_2 : List MI := [(33, .iload_n 2, 1, 0, 0, 0), (34, .ireturn, 1, 0, 0, 0)]
noncomputable def cG113_0 : List MI := cL113_0 ++ ( cL113_1 ++ ( cL113_2 ++ ([])))
noncomputable def cL113 : List MI := cG113_0 ++ ([])
/-- DoorPaints.pots(I)I -/
noncomputable def cL114_0 : List MI := [(0, .aload_n 0, 1, 0, 0, 0), (1, .getfield 26, 3, 0, 2, 0), (4, .getfield 90, 3, 2, 0, 0), (7, .iload_n 1, 1, 0, 0, 0), (8, .invokevirtual 111, 3, 49, 2, 3), (11, .ifCond .ne 5, 3, 0, 0, 0), (14, .iconst (-1), 1, 0, 0, 0), (15, .ireturn, 1, 0, 0, 0)]
noncomputable def cL114_1 : List MI := [(16, .iconst 0, 1, 0, 0, 0), (17, .istore_n 2, 1, 0, 0, 0), (18, .iconst 0, 1, 0, 0, 0), (19, .istore_n 3, 1, 0, 0, 0), (20, .iload_n 3, 1, 0, 0, 0), (21, .aload_n 0, 1, 0, 0, 0), (22, .getfield 26, 3, 0, 2, 0), (25, .getfield 90, 3, 2, 0, 0), (28, .getfield 93, 3, 3, 2, 0), (31, .if_icmp .ge 75, 3, 0, 0, 0)]
noncomputable def cL114_2 : List MI := [(34, .aload_n 0, 1, 0, 0, 0), (35, .getfield 41, 3, 0, 5, 0), (38, .aload_n 0, 1, 0, 0, 0), (39, .getfield 26, 3, 0, 2, 0), (42, .getfield 90, 3, 2, 0, 0), (45, .invokevirtual 206, 3, 52, 2, 3)]
noncomputable def cL114_3 : List MI := [(48, .aload_n 0, 1, 0, 0, 0), (49, .getfield 41, 3, 0, 5, 0), (52, .iload_n 1, 1, 0, 0, 0), (53, .aload_n 0, 1, 0, 0, 0), (54, .getfield 26, 3, 0, 2, 0), (57, .getfield 90, 3, 2, 0, 0), (60, .iload_n 3, 1, 0, 0, 0), (61, .invokevirtual 132, 3, 63, 2, 3)]
noncomputable def cL114_4 : List MI := [(64, .invokevirtual 243, 3, 115, 3, 3), (67, .aload_n 0, 1, 0, 0, 0), (68, .iconst 0, 1, 0, 0, 0), (69, .aload_n 0, 1, 0, 0, 0), (70, .getfield 26, 3, 0, 2, 0), (73, .getfield 99, 3, 2, 2, 0), (76, .invokevirtual 247, 3, 88, 3, 0), (79, .pop, 1, 0, 0, 0)]
noncomputable def cL114_5 : List MI := [(80, .aload_n 0, 1, 0, 0, 0), (81, .getfield 26, 3, 0, 2, 0), (84, .aload_n 0, 1, 0, 0, 0), (85, .getfield 41, 3, 0, 5, 0), (88, .invokevirtual 250, 3, 116, 2, 2), (91, .ifCond .eq 9, 3, 0, 0, 0), (94, .iload_n 2, 1, 0, 0, 0), (95, .iconst 1, 1, 0, 0, 0)]
noncomputable def cL114_6 : List MI := [(96, .iload_n 3, 1, 0, 0, 0), (97, .ishl, 1, 0, 0, 0), (98, .ior, 1, 0, 0, 0), (99, .istore_n 2, 1, 0, 0, 0), (100, .iinc 3 1, 3, 0, 0, 0), (103, .goto (-83), 3, 0, 0, 0), (106, .iload_n 2, 1, 0, 0, 0), (107, .ireturn, 1, 0, 0, 0)]
noncomputable def cG114_0 : List MI := cL114_0 ++ ( cL114_1 ++ ( cL114_2 ++ ( cL114_3 ++ ( cL114_4 ++ ( cL114_5 ++ ( cL114_6 ++ ([])))))))
noncomputable def cL114 : List MI := cG114_0 ++ ([])
/-- DoorPaints$Town.lend(II)V -/
noncomputable def cL115_0 : List MI := [(0, .aload_n 0, 1, 0, 0, 0), (1, .iload_n 1, 1, 0, 0, 0), (2, .putfield 25, 3, 3, 4, 0), (5, .aload_n 0, 1, 0, 0, 0), (6, .iload_n 2, 1, 0, 0, 0), (7, .putfield 67, 3, 3, 5, 0), (10, .return_, 1, 0, 0, 0)]
noncomputable def cG115_0 : List MI := cL115_0 ++ ([])
noncomputable def cL115 : List MI := cG115_0 ++ ([])
/-- DoorPaints$Told.agreesWith(LDoorPaints$Town;)Z -/
noncomputable def cL116_0 : List MI := [(0, .iconst 0, 1, 0, 0, 0), (1, .istore_n 2, 1, 0, 0, 0), (2, .iload_n 2, 1, 0, 0, 0), (3, .aload_n 0, 1, 0, 0, 0), (4, .getfield 39, 3, 2, 6, 0), (7, .if_icmp .ge 50, 3, 0, 0, 0), (10, .aload_n 0, 1, 0, 0, 0), (11, .getfield 22, 3, 2, 3, 0), (14, .iload_n 2, 1, 0, 0, 0), (15, .iaload, 1, 0, 0, 0)]
noncomputable def cL116_1 : List MI := [(16, .istore_n 3, 1, 0, 0, 0), (17, .aload_n 1, 1, 0, 0, 0), (18, .iload_n 3, 1, 0, 0, 0), (19, .invokevirtual 45, 3, 50, 2, 3), (22, .ifCond .eq 27, 3, 0, 0, 0), (25, .aload_n 1, 1, 0, 0, 0), (26, .getfield 49, 3, 3, 1, 0), (29, .iload_n 3, 1, 0, 0, 0), (30, .aaload, 1, 0, 0, 0), (31, .aload_n 0, 1, 0, 0, 0)]
noncomputable def cL116_2 : List MI := [(32, .getfield 25, 3, 2, 4, 0), (35, .iload_n 2, 1, 0, 0, 0), (36, .iaload, 1, 0, 0, 0), (37, .invokevirtual 53, 3, 65, 2, 5), (40, .aload_n 0, 1, 0, 0, 0), (41, .getfield 28, 3, 2, 5, 0), (44, .iload_n 2, 1, 0, 0, 0), (45, .iaload, 1, 0, 0, 0), (46, .if_icmp .eq 5, 3, 0, 0, 0)]
noncomputable def cL116_3 : List MI := [(49, .iconst 0, 1, 0, 0, 0), (50, .ireturn, 1, 0, 0, 0), (51, .iinc 2 1, 3, 0, 0, 0), (54, .goto (-52), 3, 0, 0, 0), (57, .iconst 1, 1, 0, 0, 0), (58, .ireturn, 1, 0, 0, 0)]
noncomputable def cG116_0 : List MI := cL116_0 ++ ( cL116_1 ++ ( cL116_2 ++ ( cL116_3 ++ ([]))))
noncomputable def cL116 : List MI := cG116_0 ++ ([])
/-- DoorPaints.rained()I -/
noncomputable def cL117_0 : List MI := [(0, .iconst 0, 1, 0, 0, 0), (1, .istore_n 1, 1, 0, 0, 0), (2, .iconst 0, 1, 0, 0, 0), (3, .istore_n 2, 1, 0, 0, 0), (4, .iload_n 2, 1, 0, 0, 0), (5, .aload_n 0, 1, 0, 0, 0), (6, .getfield 26, 3, 0, 2, 0), (9, .getfield 99, 3, 2, 2, 0), (12, .if_icmp .gt 72, 3, 0, 0, 0), (15, .aload_n 0, 1, 0, 0, 0)]
noncomputable def cL117_1 : List MI := [(16, .getfield 41, 3, 0, 5, 0), (19, .aload_n 0, 1, 0, 0, 0), (20, .getfield 26, 3, 0, 2, 0), (23, .getfield 90, 3, 2, 0, 0), (26, .invokevirtual 206, 3, 52, 2, 3), (29, .aload_n 0, 1, 0, 0, 0), (30, .iconst 0, 1, 0, 0, 0), (31, .iload_n 2, 1, 0, 0, 0)]
noncomputable def cL117_2 : List MI := [(32, .invokevirtual 247, 3, 88, 3, 0), (35, .pop, 1, 0, 0, 0), (36, .aload_n 0, 1, 0, 0, 0), (37, .getfield 41, 3, 0, 5, 0), (40, .bipush 91, 2, 0, 0, 0), (42, .invokevirtual 171, 3, 76, 2, 3), (45, .aload_n 0, 1, 0, 0, 0), (46, .iload_n 2, 1, 0, 0, 0), (47, .aload_n 0, 1, 0, 0, 0)]
noncomputable def cL117_3 : List MI := [(48, .getfield 26, 3, 0, 2, 0), (51, .getfield 99, 3, 2, 2, 0), (54, .invokevirtual 247, 3, 88, 3, 0), (57, .pop, 1, 0, 0, 0), (58, .aload_n 0, 1, 0, 0, 0), (59, .getfield 26, 3, 0, 2, 0), (62, .aload_n 0, 1, 0, 0, 0), (63, .getfield 41, 3, 0, 5, 0)]
noncomputable def cL117_4 : List MI := [(66, .invokevirtual 250, 3, 116, 2, 2), (69, .ifCond .eq 9, 3, 0, 0, 0), (72, .iload_n 1, 1, 0, 0, 0), (73, .iconst 1, 1, 0, 0, 0), (74, .iload_n 2, 1, 0, 0, 0), (75, .ishl, 1, 0, 0, 0), (76, .ior, 1, 0, 0, 0), (77, .istore_n 1, 1, 0, 0, 0), (78, .iinc 2 1, 3, 0, 0, 0)]
noncomputable def cL117_5 : List MI := [(81, .goto (-77), 3, 0, 0, 0), (84, .iload_n 1, 1, 0, 0, 0), (85, .ireturn, 1, 0, 0, 0)]
noncomputable def cG117_0 : List MI := cL117_0 ++ ( cL117_1 ++ ( cL117_2 ++ ( cL117_3 ++ ( cL117_4 ++ ( cL117_5 ++ ([]))))))
noncomputable def cL117 : List MI := cG117_0 ++ ([])
/-- DoorPaints.orders(I)I -/
noncomputable def cL118_0 : List MI := [(0, .iload_n 1, 1, 0, 0, 0), (1, .ifCond .lt 8, 3, 0, 0, 0), (4, .iload_n 1, 1, 0, 0, 0), (5, .iconst 1, 1, 0, 0, 0), (6, .if_icmp .le 5, 3, 0, 0, 0), (9, .iconst (-1), 1, 0, 0, 0), (10, .ireturn, 1, 0, 0, 0), (11, .aload_n 0, 1, 0, 0, 0), (12, .getfield 26, 3, 0, 2, 0), (15, .getfield 99, 3, 2, 2, 0)]
noncomputable def cL118_1 : List MI := [(18, .iconst 5, 1, 0, 0, 0), (19, .if_icmp .le 6, 3, 0, 0, 0), (22, .bipush (-2), 2, 0, 0, 0), (24, .ireturn, 1, 0, 0, 0), (25, .aload_n 0, 1, 0, 0, 0), (26, .iconst 0, 1, 0, 0, 0), (27, .putfield 254, 3, 0, 11, 0), (30, .aload_n 0, 1, 0, 0, 0), (31, .iconst 0, 1, 0, 0, 0)]
noncomputable def cL118_2 : List MI := [(32, .putfield 257, 3, 0, 12, 0), (35, .aload_n 0, 1, 0, 0, 0), (36, .iconst 0, 1, 0, 0, 0), (37, .iconst 0, 1, 0, 0, 0), (38, .invokevirtual 260, 3, 119, 3, 0), (41, .iload_n 1, 1, 0, 0, 0), (42, .ifCond .ne 10, 3, 0, 0, 0), (45, .aload_n 0, 1, 0, 0, 0), (46, .getfield 254, 3, 0, 11, 0)]
noncomputable def cL118_3 : List MI := [(49, .goto 7, 3, 0, 0, 0), (52, .aload_n 0, 1, 0, 0, 0), (53, .getfield 257, 3, 0, 12, 0), (56, .ireturn, 1, 0, 0, 0)]
noncomputable def cG118_0 : List MI := cL118_0 ++ ( cL118_1 ++ ( cL118_2 ++ ( cL118_3 ++ ([]))))
noncomputable def cL118 : List MI := cG118_0 ++ ([])
/-- DoorPaints.arrange(II)V -/
noncomputable def cL119_0 : List MI := [(0, .iload_n 1, 1, 0, 0, 0), (1, .aload_n 0, 1, 0, 0, 0), (2, .getfield 26, 3, 0, 2, 0), (5, .getfield 99, 3, 2, 2, 0), (8, .if_icmp .ge 8, 3, 0, 0, 0), (11, .iload_n 1, 1, 0, 0, 0), (12, .iconst 5, 1, 0, 0, 0), (13, .if_icmp .lt 9, 3, 0, 0, 0)]
noncomputable def cL119_1 : List MI := [(16, .aload_n 0, 1, 0, 0, 0), (17, .iload_n 1, 1, 0, 0, 0), (18, .invokevirtual 326, 3, 120, 2, 0), (21, .return_, 1, 0, 0, 0), (22, .iconst 0, 1, 0, 0, 0), (23, .istore_n 3, 1, 0, 0, 0), (24, .iload_n 3, 1, 0, 0, 0), (25, .aload_n 0, 1, 0, 0, 0), (26, .getfield 26, 3, 0, 2, 0), (29, .getfield 99, 3, 2, 2, 0)]
noncomputable def cL119_2 : List MI := [(32, .if_icmp .ge 36, 3, 0, 0, 0), (35, .iload_n 2, 1, 0, 0, 0), (36, .iload_n 3, 1, 0, 0, 0), (37, .ishr, 1, 0, 0, 0), (38, .iconst 1, 1, 0, 0, 0), (39, .iand, 1, 0, 0, 0), (40, .ifCond .ne 22, 3, 0, 0, 0), (43, .aload_n 0, 1, 0, 0, 0), (44, .getfield 52, 3, 0, 7, 0), (47, .iload_n 1, 1, 0, 0, 0)]
noncomputable def cL119_3 : List MI := [(48, .iload_n 3, 1, 0, 0, 0), (49, .iastore, 1, 0, 0, 0), (50, .aload_n 0, 1, 0, 0, 0), (51, .iload_n 1, 1, 0, 0, 0), (52, .iconst 1, 1, 0, 0, 0), (53, .iadd, 1, 0, 0, 0), (54, .iload_n 2, 1, 0, 0, 0), (55, .iconst 1, 1, 0, 0, 0), (56, .iload_n 3, 1, 0, 0, 0), (57, .ishl, 1, 0, 0, 0), (58, .ior, 1, 0, 0, 0), (59, .invokevirtual 260, 3, 119, 3, 0), (62, .iinc 3 1, 3, 0, 0, 0)]
noncomputable def cL119_4 : List MI := [(65, .goto (-41), 3, 0, 0, 0), (68, .return_, 1, 0, 0, 0)]
noncomputable def cG119_0 : List MI := cL119_0 ++ ( cL119_1 ++ ( cL119_2 ++ ( cL119_3 ++ ( cL119_4 ++ ([])))))
noncomputable def cL119 : List MI := cG119_0 ++ ([])
/-- DoorPaints.judgeOrder(I)V -/
noncomputable def cL120_0 : List MI := [(0, .aload_n 0, 1, 0, 0, 0), (1, .getfield 41, 3, 0, 5, 0), (4, .aload_n 0, 1, 0, 0, 0), (5, .getfield 26, 3, 0, 2, 0), (8, .getfield 90, 3, 2, 0, 0), (11, .invokevirtual 206, 3, 52, 2, 3), (14, .iconst 0, 1, 0, 0, 0), (15, .istore_n 2, 1, 0, 0, 0)]
noncomputable def cL120_1 : List MI := [(16, .iload_n 2, 1, 0, 0, 0), (17, .iload_n 1, 1, 0, 0, 0), (18, .if_icmp .ge 31, 3, 0, 0, 0), (21, .aload_n 0, 1, 0, 0, 0), (22, .getfield 41, 3, 0, 5, 0), (25, .aload_n 0, 1, 0, 0, 0), (26, .getfield 26, 3, 0, 2, 0), (29, .getfield 161, 3, 2, 1, 0)]
noncomputable def cL120_2 : List MI := [(32, .aload_n 0, 1, 0, 0, 0), (33, .getfield 52, 3, 0, 7, 0), (36, .iload_n 2, 1, 0, 0, 0), (37, .iaload, 1, 0, 0, 0), (38, .iaload, 1, 0, 0, 0), (39, .invokevirtual 323, 3, 89, 2, 3), (42, .pop, 1, 0, 0, 0), (43, .iinc 2 1, 3, 0, 0, 0), (46, .goto (-30), 3, 0, 0, 0)]
noncomputable def cL120_3 : List MI := [(49, .aload_n 0, 1, 0, 0, 0), (50, .getfield 26, 3, 0, 2, 0), (53, .aload_n 0, 1, 0, 0, 0), (54, .getfield 41, 3, 0, 5, 0), (57, .invokevirtual 250, 3, 116, 2, 2), (60, .ifCond .eq 40, 3, 0, 0, 0), (63, .aload_n 0, 1, 0, 0, 0)]
noncomputable def cL120_4 : List MI := [(64, .dup, 1, 0, 0, 0), (65, .getfield 254, 3, 0, 11, 0), (68, .iconst 1, 1, 0, 0, 0), (69, .iadd, 1, 0, 0, 0), (70, .putfield 254, 3, 0, 11, 0), (73, .aload_n 0, 1, 0, 0, 0), (74, .dup, 1, 0, 0, 0), (75, .getfield 257, 3, 0, 12, 0), (78, .iload_n 1, 1, 0, 0, 0), (79, .ifCond .le 16, 3, 0, 0, 0)]
noncomputable def cL120_5 : List MI := [(82, .iconst 1, 1, 0, 0, 0), (83, .aload_n 0, 1, 0, 0, 0), (84, .getfield 52, 3, 0, 7, 0), (87, .iload_n 1, 1, 0, 0, 0), (88, .iconst 1, 1, 0, 0, 0), (89, .isub, 1, 0, 0, 0), (90, .iaload, 1, 0, 0, 0), (91, .ishl, 1, 0, 0, 0), (92, .goto 4, 3, 0, 0, 0), (95, .iconst 0, 1, 0, 0, 0)]
noncomputable def cL120_6 : List MI := [(96, .ior, 1, 0, 0, 0), (97, .putfield 257, 3, 0, 12, 0), (100, .return_, 1, 0, 0, 0)]
noncomputable def cG120_0 : List MI := cL120_0 ++ ( cL120_1 ++ ( cL120_2 ++ ( cL120_3 ++ ( cL120_4 ++ ( cL120_5 ++ ( cL120_6 ++ ([])))))))
noncomputable def cL120 : List MI := cG120_0 ++ ([])
/-- DoorPaints.luck(III)J -/
noncomputable def cL121_0 : List MI := [(0, .iload_n 1, 1, 0, 0, 0), (1, .ifCond .lt 32, 3, 0, 0, 0), (4, .iload_n 1, 1, 0, 0, 0), (5, .bipush 10, 2, 0, 0, 0), (7, .if_icmp .gt 26, 3, 0, 0, 0), (10, .aload_n 0, 1, 0, 0, 0), (11, .getfield 26, 3, 0, 2, 0), (14, .getfield 90, 3, 2, 0, 0)]
noncomputable def cL121_1 : List MI := [(17, .iload_n 2, 1, 0, 0, 0), (18, .invokevirtual 136, 3, 50, 2, 3), (21, .ifCond .eq 12, 3, 0, 0, 0), (24, .iload_n 3, 1, 0, 0, 0), (25, .ifCond .lt 8, 3, 0, 0, 0), (28, .iload_n 3, 1, 0, 0, 0), (29, .iconst 1, 1, 0, 0, 0), (30, .if_icmp .le 7, 3, 0, 0, 0)]
noncomputable def cL121_2 : List MI := [(33, .ldc2_w 263, 3, 0, 0, (-1)), (36, .lreturn, 1, 0, 0, 0), (37, .aload_n 0, 1, 0, 0, 0), (38, .getfield 26, 3, 0, 2, 0), (41, .invokevirtual 265, 3, 122, 1, 2), (44, .istore 4, 2, 0, 0, 0), (46, .lconst 0, 1, 0, 0, 0), (47, .lstore 5, 2, 0, 0, 0)]
noncomputable def cL121_3 : List MI := [(49, .iconst 0, 1, 0, 0, 0), (50, .istore 7, 2, 0, 0, 0), (52, .iload 7, 2, 0, 0, 0), (54, .iconst 1, 1, 0, 0, 0), (55, .iload 4, 2, 0, 0, 0), (57, .ishl, 1, 0, 0, 0), (58, .if_icmp .ge 58, 3, 0, 0, 0), (61, .iload 7, 2, 0, 0, 0), (63, .iload 4, 2, 0, 0, 0)]
noncomputable def cL121_4 : List MI := [(65, .iload_n 1, 1, 0, 0, 0), (66, .invokestatic 268, 3, 123, 3, 0), (69, .lstore 8, 2, 0, 0, 0), (71, .lload 8, 2, 0, 0, 0), (73, .lconst 0, 1, 0, 0, 0), (74, .lcmp, 1, 0, 0, 0), (75, .ifCond .le 35, 3, 0, 0, 0), (78, .aload_n 0, 1, 0, 0, 0), (79, .iload 7, 2, 0, 0, 0)]
noncomputable def cL121_5 : List MI := [(81, .invokevirtual 272, 3, 124, 2, 0), (84, .lload 5, 2, 0, 0, 0), (86, .aload_n 0, 1, 0, 0, 0), (87, .getfield 41, 3, 0, 5, 0), (90, .getfield 139, 3, 3, 1, 0), (93, .iload_n 2, 1, 0, 0, 0), (94, .aaload, 1, 0, 0, 0), (95, .invokevirtual 212, 3, 59, 1, 5)]
noncomputable def cL121_6 : List MI := [(98, .ifCond .eq 8, 3, 0, 0, 0), (101, .lload 8, 2, 0, 0, 0), (103, .goto 4, 3, 0, 0, 0), (106, .lconst 0, 1, 0, 0, 0), (107, .ladd, 1, 0, 0, 0), (108, .lstore 5, 2, 0, 0, 0), (110, .iinc 7 1, 3, 0, 0, 0)]
noncomputable def cL121_7 : List MI := [(113, .goto (-61), 3, 0, 0, 0), (116, .lload 5, 2, 0, 0, 0), (118, .iload 4, 2, 0, 0, 0), (120, .invokestatic 275, 3, 125, 1, 0), (123, .iload_n 3, 1, 0, 0, 0), (124, .invokestatic 279, 3, 126, 3, 0), (127, .lreturn, 1, 0, 0, 0)]
noncomputable def cG121_0 : List MI := cL121_0 ++ ( cL121_1 ++ ( cL121_2 ++ ( cL121_3 ++ ( cL121_4 ++ ( cL121_5 ++ ( cL121_6 ++ ( cL121_7 ++ ([]))))))))
noncomputable def cL121 : List MI := cG121_0 ++ ([])
/-- DoorPaints$Told.visitsPlanned()I -/
noncomputable def cL122_0 : List MI := [(0, .iconst 0, 1, 0, 0, 0), (1, .istore_n 1, 1, 0, 0, 0), (2, .iconst 0, 1, 0, 0, 0), (3, .istore_n 2, 1, 0, 0, 0), (4, .iload_n 2, 1, 0, 0, 0), (5, .aload_n 0, 1, 0, 0, 0), (6, .getfield 35, 3, 2, 2, 0), (9, .if_icmp .ge 29, 3, 0, 0, 0), (12, .iload_n 1, 1, 0, 0, 0), (13, .aload_n 0, 1, 0, 0, 0), (14, .getfield 18, 3, 2, 1, 0)]
noncomputable def cL122_1 : List MI := [(17, .iload_n 2, 1, 0, 0, 0), (18, .iaload, 1, 0, 0, 0), (19, .invokestatic 59, 3, 42, 1, 0), (22, .ifCond .eq 7, 3, 0, 0, 0), (25, .iconst 0, 1, 0, 0, 0), (26, .goto 4, 3, 0, 0, 0), (29, .iconst 1, 1, 0, 0, 0), (30, .iadd, 1, 0, 0, 0), (31, .istore_n 1, 1, 0, 0, 0)]
noncomputable def cL122_2 : List MI := [(32, .iinc 2 1, 3, 0, 0, 0), (35, .goto (-31), 3, 0, 0, 0), (38, .iload_n 1, 1, 0, 0, 0), (39, .ireturn, 1, 0, 0, 0)]
noncomputable def cG122_0 : List MI := cL122_0 ++ ( cL122_1 ++ ( cL122_2 ++ ([])))
noncomputable def cL122 : List MI := cG122_0 ++ ([])
/-- DoorPaints.weightOf(III)J -/
noncomputable def cL123_0 : List MI := [(0, .lconst 1, 1, 0, 0, 0), (1, .lstore_n 3, 1, 0, 0, 0), (2, .iconst 0, 1, 0, 0, 0), (3, .istore 5, 2, 0, 0, 0), (5, .iload 5, 2, 0, 0, 0), (7, .iload_n 1, 1, 0, 0, 0), (8, .if_icmp .ge 32, 3, 0, 0, 0), (11, .lload_n 3, 1, 0, 0, 0), (12, .iload_n 0, 1, 0, 0, 0), (13, .iload 5, 2, 0, 0, 0), (15, .ishr, 1, 0, 0, 0)]
noncomputable def cL123_1 : List MI := [(16, .iconst 1, 1, 0, 0, 0), (17, .iand, 1, 0, 0, 0), (18, .iconst 1, 1, 0, 0, 0), (19, .if_icmp .ne 8, 3, 0, 0, 0), (22, .iload_n 2, 1, 0, 0, 0), (23, .i2l, 1, 0, 0, 0), (24, .goto 8, 3, 0, 0, 0), (27, .bipush 10, 2, 0, 0, 0), (29, .iload_n 2, 1, 0, 0, 0), (30, .isub, 1, 0, 0, 0), (31, .i2l, 1, 0, 0, 0)]
noncomputable def cL123_2 : List MI := [(32, .lmul, 1, 0, 0, 0), (33, .lstore_n 3, 1, 0, 0, 0), (34, .iinc 5 1, 3, 0, 0, 0), (37, .goto (-32), 3, 0, 0, 0), (40, .lload_n 3, 1, 0, 0, 0), (41, .lreturn, 1, 0, 0, 0)]
noncomputable def cG123_0 : List MI := cL123_0 ++ ( cL123_1 ++ ( cL123_2 ++ ([])))
noncomputable def cL123 : List MI := cG123_0 ++ ([])
/-- DoorPaints.actChosen(I)V -/
noncomputable def cL124_0 : List MI := [(0, .aload_n 0, 1, 0, 0, 0), (1, .getfield 41, 3, 0, 5, 0), (4, .aload_n 0, 1, 0, 0, 0), (5, .getfield 26, 3, 0, 2, 0), (8, .getfield 90, 3, 2, 0, 0), (11, .invokevirtual 206, 3, 52, 2, 3), (14, .iconst 0, 1, 0, 0, 0), (15, .istore_n 2, 1, 0, 0, 0)]
noncomputable def cL124_1 : List MI := [(16, .iconst 0, 1, 0, 0, 0), (17, .istore_n 3, 1, 0, 0, 0), (18, .iload_n 3, 1, 0, 0, 0), (19, .aload_n 0, 1, 0, 0, 0), (20, .getfield 26, 3, 0, 2, 0), (23, .getfield 99, 3, 2, 2, 0), (26, .if_icmp .ge 62, 3, 0, 0, 0), (29, .aload_n 0, 1, 0, 0, 0), (30, .getfield 26, 3, 0, 2, 0)]
noncomputable def cL124_2 : List MI := [(33, .getfield 161, 3, 2, 1, 0), (36, .iload_n 3, 1, 0, 0, 0), (37, .iaload, 1, 0, 0, 0), (38, .istore 4, 2, 0, 0, 0), (40, .iload 4, 2, 0, 0, 0), (42, .invokestatic 320, 3, 42, 1, 0), (45, .ifCond .eq 15, 3, 0, 0, 0)]
noncomputable def cL124_3 : List MI := [(48, .aload_n 0, 1, 0, 0, 0), (49, .getfield 41, 3, 0, 5, 0), (52, .iload 4, 2, 0, 0, 0), (54, .invokevirtual 171, 3, 76, 2, 3), (57, .goto 25, 3, 0, 0, 0), (60, .iload_n 1, 1, 0, 0, 0), (61, .iload_n 2, 1, 0, 0, 0), (62, .ishr, 1, 0, 0, 0), (63, .iconst 1, 1, 0, 0, 0)]
noncomputable def cL124_4 : List MI := [(64, .iand, 1, 0, 0, 0), (65, .iconst 1, 1, 0, 0, 0), (66, .if_icmp .ne 13, 3, 0, 0, 0), (69, .aload_n 0, 1, 0, 0, 0), (70, .getfield 41, 3, 0, 5, 0), (73, .iload 4, 2, 0, 0, 0), (75, .invokevirtual 323, 3, 89, 2, 3), (78, .pop, 1, 0, 0, 0), (79, .iinc 2 1, 3, 0, 0, 0)]
noncomputable def cL124_5 : List MI := [(82, .iinc 3 1, 3, 0, 0, 0), (85, .goto (-67), 3, 0, 0, 0), (88, .return_, 1, 0, 0, 0)]
noncomputable def cG124_0 : List MI := cL124_0 ++ ( cL124_1 ++ ( cL124_2 ++ ( cL124_3 ++ ( cL124_4 ++ ( cL124_5 ++ ([]))))))
noncomputable def cL124 : List MI := cG124_0 ++ ([])
/-- DoorPaints.powerOfTen(I)J -/
noncomputable def cL125_0 : List MI := [(0, .lconst 1, 1, 0, 0, 0), (1, .lstore_n 1, 1, 0, 0, 0), (2, .iconst 0, 1, 0, 0, 0), (3, .istore_n 3, 1, 0, 0, 0), (4, .iload_n 3, 1, 0, 0, 0), (5, .iload_n 0, 1, 0, 0, 0), (6, .if_icmp .ge 15, 3, 0, 0, 0), (9, .lload_n 1, 1, 0, 0, 0), (10, .ldc2_w 329, 3, 0, 0, 10), (13, .lmul, 1, 0, 0, 0), (14, .lstore_n 1, 1, 0, 0, 0), (15, .iinc 3 1, 3, 0, 0, 0)]
noncomputable def cL125_1 : List MI := [(18, .goto (-14), 3, 0, 0, 0), (21, .lload_n 1, 1, 0, 0, 0), (22, .lreturn, 1, 0, 0, 0)]
noncomputable def cG125_0 : List MI := cL125_0 ++ ( cL125_1 ++ ([]))
noncomputable def cL125 : List MI := cG125_0 ++ ([])
/-- DoorPaints.ofFraction(JJI)J -/
noncomputable def cL126_0 : List MI := [(0, .lload_n 2, 1, 0, 0, 0), (1, .lstore 5, 2, 0, 0, 0), (3, .lload_n 0, 1, 0, 0, 0), (4, .lstore 7, 2, 0, 0, 0), (6, .iconst 0, 1, 0, 0, 0), (7, .istore 9, 2, 0, 0, 0), (9, .iload 9, 2, 0, 0, 0), (11, .bipush 100, 2, 0, 0, 0), (13, .if_icmp .ge 31, 3, 0, 0, 0)]
noncomputable def cL126_1 : List MI := [(16, .lload 7, 2, 0, 0, 0), (18, .lconst 0, 1, 0, 0, 0), (19, .lcmp, 1, 0, 0, 0), (20, .ifCond .le 24, 3, 0, 0, 0), (23, .lload 5, 2, 0, 0, 0), (25, .lload 7, 2, 0, 0, 0), (27, .lrem, 1, 0, 0, 0), (28, .lstore 10, 2, 0, 0, 0), (30, .lload 7, 2, 0, 0, 0)]
noncomputable def cL126_2 : List MI := [(32, .lstore 5, 2, 0, 0, 0), (34, .lload 10, 2, 0, 0, 0), (36, .lstore 7, 2, 0, 0, 0), (38, .iinc 9 1, 3, 0, 0, 0), (41, .goto (-32), 3, 0, 0, 0), (44, .lload 5, 2, 0, 0, 0), (46, .lconst 0, 1, 0, 0, 0), (47, .lcmp, 1, 0, 0, 0)]
noncomputable def cL126_3 : List MI := [(48, .ifCond .gt 7, 3, 0, 0, 0), (51, .ldc2_w 263, 3, 0, 0, (-1)), (54, .lreturn, 1, 0, 0, 0), (55, .iload 4, 2, 0, 0, 0), (57, .ifCond .ne 10, 3, 0, 0, 0), (60, .lload_n 0, 1, 0, 0, 0), (61, .lload 5, 2, 0, 0, 0), (63, .ldiv, 1, 0, 0, 0)]
noncomputable def cL126_4 : List MI := [(64, .goto 7, 3, 0, 0, 0), (67, .lload_n 2, 1, 0, 0, 0), (68, .lload 5, 2, 0, 0, 0), (70, .ldiv, 1, 0, 0, 0), (71, .lreturn, 1, 0, 0, 0)]
noncomputable def cG126_0 : List MI := cL126_0 ++ ( cL126_1 ++ ( cL126_2 ++ ( cL126_3 ++ ( cL126_4 ++ ([])))))
noncomputable def cL126 : List MI := cG126_0 ++ ([])
/-- DoorPaints.mean(II)J -/
noncomputable def cL127_0 : List MI := [(0, .iload_n 1, 1, 0, 0, 0), (1, .ifCond .lt 18, 3, 0, 0, 0), (4, .iload_n 1, 1, 0, 0, 0), (5, .bipush 10, 2, 0, 0, 0), (7, .if_icmp .gt 12, 3, 0, 0, 0), (10, .iload_n 2, 1, 0, 0, 0), (11, .ifCond .lt 8, 3, 0, 0, 0), (14, .iload_n 2, 1, 0, 0, 0), (15, .iconst 1, 1, 0, 0, 0)]
noncomputable def cL127_1 : List MI := [(16, .if_icmp .le 7, 3, 0, 0, 0), (19, .ldc2_w 263, 3, 0, 0, (-1)), (22, .lreturn, 1, 0, 0, 0), (23, .aload_n 0, 1, 0, 0, 0), (24, .getfield 26, 3, 0, 2, 0), (27, .invokevirtual 265, 3, 122, 1, 2), (30, .istore_n 3, 1, 0, 0, 0), (31, .lconst 0, 1, 0, 0, 0)]
noncomputable def cL127_2 : List MI := [(32, .lstore 4, 2, 0, 0, 0), (34, .iconst 0, 1, 0, 0, 0), (35, .istore 6, 2, 0, 0, 0), (37, .iload 6, 2, 0, 0, 0), (39, .iconst 1, 1, 0, 0, 0), (40, .iload_n 3, 1, 0, 0, 0), (41, .ishl, 1, 0, 0, 0), (42, .if_icmp .ge 44, 3, 0, 0, 0), (45, .iload 6, 2, 0, 0, 0), (47, .iload_n 3, 1, 0, 0, 0)]
noncomputable def cL127_3 : List MI := [(48, .iload_n 1, 1, 0, 0, 0), (49, .invokestatic 268, 3, 123, 3, 0), (52, .lstore 7, 2, 0, 0, 0), (54, .lload 7, 2, 0, 0, 0), (56, .lconst 0, 1, 0, 0, 0), (57, .lcmp, 1, 0, 0, 0), (58, .ifCond .le 22, 3, 0, 0, 0), (61, .aload_n 0, 1, 0, 0, 0), (62, .iload 6, 2, 0, 0, 0)]
noncomputable def cL127_4 : List MI := [(64, .invokevirtual 272, 3, 124, 2, 0), (67, .lload 4, 2, 0, 0, 0), (69, .lload 7, 2, 0, 0, 0), (71, .aload_n 0, 1, 0, 0, 0), (72, .invokevirtual 200, 3, 91, 1, 0), (75, .i2l, 1, 0, 0, 0), (76, .lmul, 1, 0, 0, 0), (77, .ladd, 1, 0, 0, 0), (78, .lstore 4, 2, 0, 0, 0)]
noncomputable def cL127_5 : List MI := [(80, .iinc 6 1, 3, 0, 0, 0), (83, .goto (-46), 3, 0, 0, 0), (86, .lload 4, 2, 0, 0, 0), (88, .iload_n 3, 1, 0, 0, 0), (89, .invokestatic 275, 3, 125, 1, 0), (92, .iload_n 2, 1, 0, 0, 0), (93, .invokestatic 279, 3, 126, 3, 0)]
noncomputable def cL127_6 : List MI := [(96, .lreturn, 1, 0, 0, 0)]
noncomputable def cG127_0 : List MI := cL127_0 ++ ( cL127_1 ++ ( cL127_2 ++ ( cL127_3 ++ ( cL127_4 ++ ( cL127_5 ++ ( cL127_6 ++ ([])))))))
noncomputable def cL127 : List MI := cG127_0 ++ ([])
/-- DoorPaints.drift(III)I -/
noncomputable def cL128_0 : List MI := [(0, .iload_n 2, 1, 0, 0, 0), (1, .iconst 1, 1, 0, 0, 0), (2, .if_icmp .lt 18, 3, 0, 0, 0), (5, .iload_n 2, 1, 0, 0, 0), (6, .bipush 60, 2, 0, 0, 0), (8, .if_icmp .gt 12, 3, 0, 0, 0), (11, .iload_n 3, 1, 0, 0, 0), (12, .ifCond .lt 8, 3, 0, 0, 0), (15, .iload_n 3, 1, 0, 0, 0)]
noncomputable def cL128_1 : List MI := [(16, .iconst 1, 1, 0, 0, 0), (17, .if_icmp .le 5, 3, 0, 0, 0), (20, .iconst (-1), 1, 0, 0, 0), (21, .ireturn, 1, 0, 0, 0), (22, .aload_n 0, 1, 0, 0, 0), (23, .getfield 26, 3, 0, 2, 0), (26, .getfield 90, 3, 2, 0, 0), (29, .invokevirtual 283, 3, 98, 1, 3)]
noncomputable def cL128_2 : List MI := [(32, .ifCond .ne 6, 3, 0, 0, 0), (35, .bipush (-2), 2, 0, 0, 0), (37, .ireturn, 1, 0, 0, 0), (38, .aload_n 0, 1, 0, 0, 0), (39, .getfield 41, 3, 0, 5, 0), (42, .aload_n 0, 1, 0, 0, 0), (43, .getfield 26, 3, 0, 2, 0), (46, .getfield 90, 3, 2, 0, 0)]
noncomputable def cL128_3 : List MI := [(49, .invokevirtual 206, 3, 52, 2, 3), (52, .iload_n 1, 1, 0, 0, 0), (53, .istore 4, 2, 0, 0, 0), (55, .iconst 0, 1, 0, 0, 0), (56, .istore 5, 2, 0, 0, 0), (58, .iload 5, 2, 0, 0, 0), (60, .iload_n 2, 1, 0, 0, 0), (61, .if_icmp .ge 37, 3, 0, 0, 0)]
noncomputable def cL128_4 : List MI := [(64, .iload 4, 2, 0, 0, 0), (66, .ldc_w 286, 3, 0, 0, 1103515245), (69, .imul, 1, 0, 0, 0), (70, .sipush 12345, 3, 0, 0, 0), (73, .iadd, 1, 0, 0, 0), (74, .istore 4, 2, 0, 0, 0), (76, .aload_n 0, 1, 0, 0, 0), (77, .getfield 41, 3, 0, 5, 0)]
noncomputable def cL128_5 : List MI := [(80, .iload 4, 2, 0, 0, 0), (82, .bipush 16, 2, 0, 0, 0), (84, .iushr, 1, 0, 0, 0), (85, .sipush 32767, 3, 0, 0, 0), (88, .iand, 1, 0, 0, 0), (89, .invokevirtual 287, 3, 129, 2, 3), (92, .iinc 5 1, 3, 0, 0, 0), (95, .goto (-37), 3, 0, 0, 0)]
noncomputable def cL128_6 : List MI := [(98, .iload_n 3, 1, 0, 0, 0), (99, .ifCond .ne 13, 3, 0, 0, 0), (102, .aload_n 0, 1, 0, 0, 0), (103, .getfield 41, 3, 0, 5, 0), (106, .invokevirtual 175, 3, 80, 1, 3), (109, .goto 10, 3, 0, 0, 0)]
noncomputable def cL128_7 : List MI := [(112, .aload_n 0, 1, 0, 0, 0), (113, .getfield 41, 3, 0, 5, 0), (116, .invokevirtual 105, 3, 58, 1, 3), (119, .ireturn, 1, 0, 0, 0)]
noncomputable def cG128_0 : List MI := cL128_0 ++ ( cL128_1 ++ ( cL128_2 ++ ( cL128_3 ++ ( cL128_4 ++ ( cL128_5 ++ ( cL128_6 ++ ( cL128_7 ++ ([]))))))))
noncomputable def cL128 : List MI := cG128_0 ++ ([])
/-- DoorPaints$Town.actBySeed(I)V -/
noncomputable def cL129_0 : List MI := [(0, .iload_n 1, 1, 0, 0, 0), (1, .bipush 8, 2, 0, 0, 0), (3, .irem, 1, 0, 0, 0), (4, .istore_n 2, 1, 0, 0, 0), (5, .iload_n 2, 1, 0, 0, 0), (6, .iconst 5, 1, 0, 0, 0), (7, .if_icmp .lt 16, 3, 0, 0, 0), (10, .aload_n 0, 1, 0, 0, 0), (11, .bipush 90, 2, 0, 0, 0), (13, .iload_n 2, 1, 0, 0, 0), (14, .iadd, 1, 0, 0, 0), (15, .iconst 5, 1, 0, 0, 0)]
noncomputable def cL129_1 : List MI := [(16, .isub, 1, 0, 0, 0), (17, .invokevirtual 106, 3, 76, 2, 3), (20, .goto 33, 3, 0, 0, 0), (23, .aload_n 0, 1, 0, 0, 0), (24, .invokevirtual 115, 3, 98, 1, 3), (27, .ifCond .eq 26, 3, 0, 0, 0), (30, .aload_n 0, 1, 0, 0, 0), (31, .iload_n 1, 1, 0, 0, 0)]
noncomputable def cL129_2 : List MI := [(32, .bipush 8, 2, 0, 0, 0), (34, .idiv, 1, 0, 0, 0), (35, .aload_n 0, 1, 0, 0, 0), (36, .getfield 29, 3, 3, 2, 0), (39, .irem, 1, 0, 0, 0), (40, .iload_n 1, 1, 0, 0, 0), (41, .bipush 32, 2, 0, 0, 0), (43, .idiv, 1, 0, 0, 0), (44, .aload_n 0, 1, 0, 0, 0), (45, .getfield 36, 3, 3, 3, 0)]
noncomputable def cL129_3 : List MI := [(48, .irem, 1, 0, 0, 0), (49, .invokevirtual 109, 3, 70, 3, 3), (52, .pop, 1, 0, 0, 0), (53, .return_, 1, 0, 0, 0)]
noncomputable def cG129_0 : List MI := cL129_0 ++ ( cL129_1 ++ ( cL129_2 ++ ( cL129_3 ++ ([]))))
noncomputable def cL129 : List MI := cG129_0 ++ ([])
/-- DoorPaints.keep(I)I -/
noncomputable def cL130_0 : List MI := [(0, .iload_n 1, 1, 0, 0, 0), (1, .ifCond .lt 8, 3, 0, 0, 0), (4, .iload_n 1, 1, 0, 0, 0), (5, .iconst 2, 1, 0, 0, 0), (6, .if_icmp .lt 5, 3, 0, 0, 0), (9, .iconst (-1), 1, 0, 0, 0), (10, .ireturn, 1, 0, 0, 0), (11, .aload_n 0, 1, 0, 0, 0), (12, .getfield 34, 3, 0, 4, 0), (15, .iload_n 1, 1, 0, 0, 0)]
noncomputable def cL130_1 : List MI := [(16, .baload, 1, 0, 0, 0), (17, .ifCond .eq 7, 3, 0, 0, 0), (20, .iconst 1, 1, 0, 0, 0), (21, .goto 4, 3, 0, 0, 0), (24, .iconst 0, 1, 0, 0, 0), (25, .istore_n 2, 1, 0, 0, 0), (26, .aload_n 0, 1, 0, 0, 0), (27, .getfield 30, 3, 0, 3, 0), (30, .iload_n 1, 1, 0, 0, 0), (31, .aaload, 1, 0, 0, 0)]
noncomputable def cL130_2 : List MI := [(32, .aload_n 0, 1, 0, 0, 0), (33, .getfield 26, 3, 0, 2, 0), (36, .invokevirtual 86, 3, 51, 2, 2), (39, .aload_n 0, 1, 0, 0, 0), (40, .getfield 34, 3, 0, 4, 0), (43, .iload_n 1, 1, 0, 0, 0), (44, .iconst 1, 1, 0, 0, 0), (45, .bastore, 1, 0, 0, 0), (46, .iload_n 2, 1, 0, 0, 0), (47, .ireturn, 1, 0, 0, 0)]
noncomputable def cG130_0 : List MI := cL130_0 ++ ( cL130_1 ++ ( cL130_2 ++ ([])))
noncomputable def cL130 : List MI := cG130_0 ++ ([])
/-- DoorPaints.back(I)I -/
noncomputable def cL131_0 : List MI := [(0, .iload_n 1, 1, 0, 0, 0), (1, .ifCond .lt 8, 3, 0, 0, 0), (4, .iload_n 1, 1, 0, 0, 0), (5, .iconst 2, 1, 0, 0, 0), (6, .if_icmp .lt 5, 3, 0, 0, 0), (9, .iconst (-1), 1, 0, 0, 0), (10, .ireturn, 1, 0, 0, 0), (11, .aload_n 0, 1, 0, 0, 0), (12, .getfield 34, 3, 0, 4, 0), (15, .iload_n 1, 1, 0, 0, 0)]
noncomputable def cL131_1 : List MI := [(16, .baload, 1, 0, 0, 0), (17, .ifCond .ne 6, 3, 0, 0, 0), (20, .bipush (-2), 2, 0, 0, 0), (22, .ireturn, 1, 0, 0, 0), (23, .aload_n 0, 1, 0, 0, 0), (24, .getfield 26, 3, 0, 2, 0), (27, .aload_n 0, 1, 0, 0, 0), (28, .getfield 30, 3, 0, 3, 0), (31, .iload_n 1, 1, 0, 0, 0)]
noncomputable def cL131_2 : List MI := [(32, .aaload, 1, 0, 0, 0), (33, .invokevirtual 86, 3, 51, 2, 2), (36, .aload_n 0, 1, 0, 0, 0), (37, .getfield 26, 3, 0, 2, 0), (40, .getfield 90, 3, 2, 0, 0), (43, .invokevirtual 175, 3, 80, 1, 3), (46, .ireturn, 1, 0, 0, 0)]
noncomputable def cG131_0 : List MI := cL131_0 ++ ( cL131_1 ++ ( cL131_2 ++ ([])))
noncomputable def cL131 : List MI := cG131_0 ++ ([])
/-- DoorPaints.sheet(III)I -/
noncomputable def cL132_0 : List MI := [(0, .iload_n 1, 1, 0, 0, 0), (1, .invokestatic 290, 3, 133, 1, 0), (4, .ifCond .eq 16, 3, 0, 0, 0), (7, .iload_n 2, 1, 0, 0, 0), (8, .invokestatic 293, 3, 134, 1, 0), (11, .ifCond .eq 9, 3, 0, 0, 0), (14, .iload_n 3, 1, 0, 0, 0), (15, .bipush 40, 2, 0, 0, 0)]
noncomputable def cL132_1 : List MI := [(17, .if_icmp .le 5, 3, 0, 0, 0), (20, .iconst (-1), 1, 0, 0, 0), (21, .ireturn, 1, 0, 0, 0), (22, .iload_n 3, 1, 0, 0, 0), (23, .ifCond .ge 6, 3, 0, 0, 0), (26, .bipush (-14), 2, 0, 0, 0), (28, .ireturn, 1, 0, 0, 0), (29, .aload_n 0, 1, 0, 0, 0), (30, .getfield 58, 3, 0, 8, 0)]
noncomputable def cL132_2 : List MI := [(33, .iload_n 1, 1, 0, 0, 0), (34, .aaload, 1, 0, 0, 0), (35, .iload_n 2, 1, 0, 0, 0), (36, .iload_n 3, 1, 0, 0, 0), (37, .invokevirtual 296, 3, 135, 3, 8), (40, .iconst 1, 1, 0, 0, 0), (41, .ireturn, 1, 0, 0, 0)]
noncomputable def cG132_0 : List MI := cL132_0 ++ ( cL132_1 ++ ( cL132_2 ++ ([])))
noncomputable def cL132 : List MI := cG132_0 ++ ([])
/-- DoorPaints.isSheet(I)Z -/
noncomputable def cL133_0 : List MI := [(0, .iload_n 0, 1, 0, 0, 0), (1, .ifCond .lt 12, 3, 0, 0, 0), (4, .iload_n 0, 1, 0, 0, 0), (5, .iconst 4, 1, 0, 0, 0), (6, .if_icmp .ge 7, 3, 0, 0, 0), (9, .iconst 1, 1, 0, 0, 0), (10, .goto 4, 3, 0, 0, 0), (13, .iconst 0, 1, 0, 0, 0), (14, .ireturn, 1, 0, 0, 0)]
noncomputable def cG133_0 : List MI := cL133_0 ++ ([])
noncomputable def cL133 : List MI := cG133_0 ++ ([])
/-- DoorPaints.isLane(I)Z -/
noncomputable def cL134_0 : List MI := [(0, .iload_n 0, 1, 0, 0, 0), (1, .ifCond .lt 12, 3, 0, 0, 0), (4, .iload_n 0, 1, 0, 0, 0), (5, .iconst 3, 1, 0, 0, 0), (6, .if_icmp .ge 7, 3, 0, 0, 0), (9, .iconst 1, 1, 0, 0, 0), (10, .goto 4, 3, 0, 0, 0), (13, .iconst 0, 1, 0, 0, 0), (14, .ireturn, 1, 0, 0, 0)]
noncomputable def cG134_0 : List MI := cL134_0 ++ ([])
noncomputable def cL134 : List MI := cG134_0 ++ ([])
/-- DoorPaints$Sheet.renew(II)V -/
noncomputable def cL135_0 : List MI := [(0, .aload_n 0, 1, 0, 0, 0), (1, .iload_n 1, 1, 0, 0, 0), (2, .putfield 15, 3, 8, 2, 0), (5, .aload_n 0, 1, 0, 0, 0), (6, .iload_n 2, 1, 0, 0, 0), (7, .putfield 19, 3, 8, 1, 0), (10, .iconst 0, 1, 0, 0, 0), (11, .istore_n 3, 1, 0, 0, 0), (12, .iload_n 3, 1, 0, 0, 0), (13, .bipush 40, 2, 0, 0, 0), (15, .if_icmp .ge 16, 3, 0, 0, 0)]
noncomputable def cL135_1 : List MI := [(18, .aload_n 0, 1, 0, 0, 0), (19, .getfield 9, 3, 8, 0, 0), (22, .iload_n 3, 1, 0, 0, 0), (23, .iconst 0, 1, 0, 0, 0), (24, .iastore, 1, 0, 0, 0), (25, .iinc 3 1, 3, 0, 0, 0), (28, .goto (-16), 3, 0, 0, 0), (31, .return_, 1, 0, 0, 0)]
noncomputable def cG135_0 : List MI := cL135_0 ++ ( cL135_1 ++ ([]))
noncomputable def cL135 : List MI := cG135_0 ++ ([])
/-- DoorPaints.lay(III)I -/
noncomputable def cL136_0 : List MI := [(0, .iload_n 1, 1, 0, 0, 0), (1, .invokestatic 290, 3, 133, 1, 0), (4, .ifCond .ne 5, 3, 0, 0, 0), (7, .iconst (-1), 1, 0, 0, 0), (8, .ireturn, 1, 0, 0, 0), (9, .aload_n 0, 1, 0, 0, 0), (10, .getfield 58, 3, 0, 8, 0), (13, .iload_n 1, 1, 0, 0, 0), (14, .aaload, 1, 0, 0, 0), (15, .astore 4, 2, 0, 0, 0)]
noncomputable def cL136_1 : List MI := [(17, .aload 4, 2, 0, 0, 0), (19, .aload 4, 2, 0, 0, 0), (21, .getfield 299, 3, 8, 2, 0), (24, .iload_n 2, 1, 0, 0, 0), (25, .invokevirtual 302, 3, 137, 3, 8), (28, .istore 5, 2, 0, 0, 0), (30, .iload 5, 2, 0, 0, 0)]
noncomputable def cL136_2 : List MI := [(32, .ifCond .eq 9, 3, 0, 0, 0), (35, .bipush (-10), 2, 0, 0, 0), (37, .iload 5, 2, 0, 0, 0), (39, .isub, 1, 0, 0, 0), (40, .ireturn, 1, 0, 0, 0), (41, .aload 4, 2, 0, 0, 0), (43, .iload_n 2, 1, 0, 0, 0), (44, .iload_n 3, 1, 0, 0, 0), (45, .invokevirtual 305, 3, 138, 3, 8)]
noncomputable def cL136_3 : List MI := [(48, .iconst 1, 1, 0, 0, 0), (49, .ireturn, 1, 0, 0, 0)]
noncomputable def cG136_0 : List MI := cL136_0 ++ ( cL136_1 ++ ( cL136_2 ++ ( cL136_3 ++ ([]))))
noncomputable def cL136 : List MI := cG136_0 ++ ([])
/-- DoorPaints$Sheet.faultAt(II)I -/
noncomputable def cL137_0 : List MI := [(0, .aload_n 0, 1, 0, 0, 0), (1, .getfield 15, 3, 8, 2, 0), (4, .bipush (-4), 2, 0, 0, 0), (6, .if_icmp .ne 5, 3, 0, 0, 0), (9, .iconst 1, 1, 0, 0, 0), (10, .ireturn, 1, 0, 0, 0), (11, .aload_n 0, 1, 0, 0, 0), (12, .getfield 15, 3, 8, 2, 0), (15, .iload_n 1, 1, 0, 0, 0)]
noncomputable def cL137_1 : List MI := [(16, .if_icmp .eq 5, 3, 0, 0, 0), (19, .iconst 3, 1, 0, 0, 0), (20, .ireturn, 1, 0, 0, 0), (21, .iload_n 2, 1, 0, 0, 0), (22, .ifCond .lt 11, 3, 0, 0, 0), (25, .iload_n 2, 1, 0, 0, 0), (26, .aload_n 0, 1, 0, 0, 0), (27, .getfield 19, 3, 8, 1, 0), (30, .if_icmp .lt 7, 3, 0, 0, 0)]
noncomputable def cL137_2 : List MI := [(33, .iconst 2, 1, 0, 0, 0), (34, .goto 4, 3, 0, 0, 0), (37, .iconst 0, 1, 0, 0, 0), (38, .ireturn, 1, 0, 0, 0)]
noncomputable def cG137_0 : List MI := cL137_0 ++ ( cL137_1 ++ ( cL137_2 ++ ([])))
noncomputable def cL137 : List MI := cG137_0 ++ ([])
/-- DoorPaints$Sheet.put(II)V -/
noncomputable def cL138_0 : List MI := [(0, .iload_n 1, 1, 0, 0, 0), (1, .ifCond .lt 43, 3, 0, 0, 0), (4, .iload_n 1, 1, 0, 0, 0), (5, .aload_n 0, 1, 0, 0, 0), (6, .getfield 19, 3, 8, 1, 0), (9, .if_icmp .ge 35, 3, 0, 0, 0), (12, .aload_n 0, 1, 0, 0, 0), (13, .getfield 9, 3, 8, 0, 0)]
noncomputable def cL138_1 : List MI := [(16, .iload_n 1, 1, 0, 0, 0), (17, .aload_n 0, 1, 0, 0, 0), (18, .getfield 15, 3, 8, 2, 0), (21, .ifCond .ne 8, 3, 0, 0, 0), (24, .iload_n 2, 1, 0, 0, 0), (25, .i2b, 1, 0, 0, 0), (26, .goto 17, 3, 0, 0, 0), (29, .aload_n 0, 1, 0, 0, 0), (30, .getfield 15, 3, 8, 2, 0)]
noncomputable def cL138_2 : List MI := [(33, .iconst 1, 1, 0, 0, 0), (34, .if_icmp .ne 8, 3, 0, 0, 0), (37, .iload_n 2, 1, 0, 0, 0), (38, .i2s, 1, 0, 0, 0), (39, .goto 4, 3, 0, 0, 0), (42, .iload_n 2, 1, 0, 0, 0), (43, .iastore, 1, 0, 0, 0), (44, .return_, 1, 0, 0, 0)]
noncomputable def cG138_0 : List MI := cL138_0 ++ ( cL138_1 ++ ( cL138_2 ++ ([])))
noncomputable def cL138 : List MI := cG138_0 ++ ([])
/-- DoorPaints.read(IIII)I -/
noncomputable def cL139_0 : List MI := [(0, .iload_n 1, 1, 0, 0, 0), (1, .invokestatic 290, 3, 133, 1, 0), (4, .ifCond .eq 22, 3, 0, 0, 0), (7, .iload_n 2, 1, 0, 0, 0), (8, .invokestatic 293, 3, 134, 1, 0), (11, .ifCond .eq 15, 3, 0, 0, 0), (14, .iload 4, 2, 0, 0, 0)]
noncomputable def cL139_1 : List MI := [(16, .ifCond .lt 10, 3, 0, 0, 0), (19, .iload 4, 2, 0, 0, 0), (21, .bipush 20, 2, 0, 0, 0), (23, .if_icmp .le 5, 3, 0, 0, 0), (26, .iconst (-1), 1, 0, 0, 0), (27, .ireturn, 1, 0, 0, 0), (28, .aload_n 0, 1, 0, 0, 0), (29, .getfield 58, 3, 0, 8, 0)]
noncomputable def cL139_2 : List MI := [(32, .iload_n 1, 1, 0, 0, 0), (33, .aaload, 1, 0, 0, 0), (34, .astore 5, 2, 0, 0, 0), (36, .aload_n 0, 1, 0, 0, 0), (37, .getfield 41, 3, 0, 5, 0), (40, .aload_n 0, 1, 0, 0, 0), (41, .getfield 26, 3, 0, 2, 0), (44, .getfield 90, 3, 2, 0, 0), (47, .invokevirtual 206, 3, 52, 2, 3)]
noncomputable def cL139_3 : List MI := [(50, .iconst 0, 1, 0, 0, 0), (51, .istore 6, 2, 0, 0, 0), (53, .iconst 0, 1, 0, 0, 0), (54, .istore 7, 2, 0, 0, 0), (56, .iconst 0, 1, 0, 0, 0), (57, .istore 8, 2, 0, 0, 0), (59, .iload 8, 2, 0, 0, 0), (61, .iload 4, 2, 0, 0, 0), (63, .if_icmp .ge 75, 3, 0, 0, 0)]
noncomputable def cL139_4 : List MI := [(66, .iload 6, 2, 0, 0, 0), (68, .ifCond .ne 70, 3, 0, 0, 0), (71, .iload_n 3, 1, 0, 0, 0), (72, .iconst 2, 1, 0, 0, 0), (73, .iload 8, 2, 0, 0, 0), (75, .imul, 1, 0, 0, 0), (76, .iadd, 1, 0, 0, 0), (77, .istore 9, 2, 0, 0, 0), (79, .aload 5, 2, 0, 0, 0)]
noncomputable def cL139_5 : List MI := [(81, .iload_n 2, 1, 0, 0, 0), (82, .iload 9, 2, 0, 0, 0), (84, .invokevirtual 308, 3, 140, 3, 8), (87, .istore 6, 2, 0, 0, 0), (89, .iload 6, 2, 0, 0, 0), (91, .ifCond .ne 41, 3, 0, 0, 0), (94, .aload_n 0, 1, 0, 0, 0), (95, .getfield 41, 3, 0, 5, 0)]
noncomputable def cL139_6 : List MI := [(98, .aload 5, 2, 0, 0, 0), (100, .iload 9, 2, 0, 0, 0), (102, .invokevirtual 311, 3, 141, 2, 8), (105, .aload 5, 2, 0, 0, 0), (107, .iload 9, 2, 0, 0, 0), (109, .iconst 1, 1, 0, 0, 0), (110, .iadd, 1, 0, 0, 0), (111, .invokevirtual 311, 3, 141, 2, 8)]
noncomputable def cL139_7 : List MI := [(114, .invokevirtual 168, 3, 70, 3, 3), (117, .invokestatic 209, 3, 90, 1, 0), (120, .ifCond .eq 9, 3, 0, 0, 0), (123, .bipush (-20), 2, 0, 0, 0), (125, .iload 8, 2, 0, 0, 0), (127, .isub, 1, 0, 0, 0)]
noncomputable def cL139_8 : List MI := [(128, .ireturn, 1, 0, 0, 0), (129, .iinc 7 1, 3, 0, 0, 0), (132, .iinc 8 1, 3, 0, 0, 0), (135, .goto (-76), 3, 0, 0, 0), (138, .aload_n 0, 1, 0, 0, 0), (139, .getfield 26, 3, 0, 2, 0), (142, .getfield 90, 3, 2, 0, 0)]
noncomputable def cL139_9 : List MI := [(145, .aload_n 0, 1, 0, 0, 0), (146, .getfield 41, 3, 0, 5, 0), (149, .invokevirtual 206, 3, 52, 2, 3), (152, .aload_n 0, 1, 0, 0, 0), (153, .iload 6, 2, 0, 0, 0), (155, .putfield 314, 3, 0, 10, 0), (158, .iload 7, 2, 0, 0, 0)]
noncomputable def cL139_10 : List MI := [(160, .ireturn, 1, 0, 0, 0)]
noncomputable def cG139_0 : List MI := cL139_0 ++ ( cL139_1 ++ ( cL139_2 ++ ( cL139_3 ++ ( cL139_4 ++ ( cL139_5 ++ ( cL139_6 ++ ( cL139_7 ++ ([]))))))))
noncomputable def cG139_1 : List MI := cL139_8 ++ ( cL139_9 ++ ( cL139_10 ++ ([])))
noncomputable def cL139 : List MI := cG139_0 ++ ( cG139_1 ++ ([]))
end
section
/-! TABLES: the methods' listings (written by a program) -/
/-- DoorPaints$Sheet.faultOfPair(II)I -/
noncomputable def cL140_0 : List MI := [(0, .aload_n 0, 1, 0, 0, 0), (1, .iload_n 1, 1, 0, 0, 0), (2, .iload_n 2, 1, 0, 0, 0), (3, .invokevirtual 22, 3, 137, 3, 8), (6, .istore_n 3, 1, 0, 0, 0), (7, .iload_n 3, 1, 0, 0, 0), (8, .ifCond .eq 7, 3, 0, 0, 0), (11, .iload_n 3, 1, 0, 0, 0), (12, .goto 11, 3, 0, 0, 0), (15, .aload_n 0, 1, 0, 0, 0)]
noncomputable def cL140_1 : List MI := [(16, .iload_n 1, 1, 0, 0, 0), (17, .iload_n 2, 1, 0, 0, 0), (18, .iconst 1, 1, 0, 0, 0), (19, .iadd, 1, 0, 0, 0), (20, .invokevirtual 22, 3, 137, 3, 8), (23, .ireturn, 1, 0, 0, 0)]
noncomputable def cG140_0 : List MI := cL140_0 ++ ( cL140_1 ++ ([]))
noncomputable def cL140 : List MI := cG140_0 ++ ([])
/-- DoorPaints$Sheet.cellAt(I)I -/
noncomputable def cL141_0 : List MI := [(0, .iload_n 1, 1, 0, 0, 0), (1, .ifCond .lt 20, 3, 0, 0, 0), (4, .iload_n 1, 1, 0, 0, 0), (5, .aload_n 0, 1, 0, 0, 0), (6, .getfield 19, 3, 8, 1, 0), (9, .if_icmp .ge 12, 3, 0, 0, 0), (12, .aload_n 0, 1, 0, 0, 0), (13, .getfield 9, 3, 8, 0, 0)]
noncomputable def cL141_1 : List MI := [(16, .iload_n 1, 1, 0, 0, 0), (17, .iaload, 1, 0, 0, 0), (18, .goto 4, 3, 0, 0, 0), (21, .iconst (-1), 1, 0, 0, 0), (22, .ireturn, 1, 0, 0, 0)]
noncomputable def cG141_0 : List MI := cL141_0 ++ ( cL141_1 ++ ([]))
noncomputable def cL141 : List MI := cG141_0 ++ ([])
/-- DoorPaints.torn()I -/
noncomputable def cL142_0 : List MI := [(0, .aload_n 0, 1, 0, 0, 0), (1, .getfield 314, 3, 0, 10, 0), (4, .ireturn, 1, 0, 0, 0)]
noncomputable def cG142_0 : List MI := cL142_0 ++ ([])
noncomputable def cL142 : List MI := cG142_0 ++ ([])
/-- DoorPaints.count(I)I -/
noncomputable def cL143_0 : List MI := [(0, .iload_n 1, 1, 0, 0, 0), (1, .tableswitch 121 0 4 #[35, 46, 54, 84, 92], 35, 0, 0, 0)]
noncomputable def cL143_1 : List MI := []
noncomputable def cL143_2 : List MI := [(36, .aload_n 0, 1, 0, 0, 0), (37, .getfield 26, 3, 0, 2, 0), (40, .getfield 90, 3, 2, 0, 0), (43, .invokevirtual 175, 3, 80, 1, 3), (46, .ireturn, 1, 0, 0, 0), (47, .aload_n 0, 1, 0, 0, 0)]
noncomputable def cL143_3 : List MI := [(48, .getfield 26, 3, 0, 2, 0), (51, .getfield 240, 3, 2, 6, 0), (54, .ireturn, 1, 0, 0, 0), (55, .aload_n 0, 1, 0, 0, 0), (56, .getfield 34, 3, 0, 4, 0), (59, .iconst 0, 1, 0, 0, 0), (60, .baload, 1, 0, 0, 0), (61, .ifCond .eq 7, 3, 0, 0, 0)]
noncomputable def cL143_4 : List MI := [(64, .iconst 1, 1, 0, 0, 0), (65, .goto 4, 3, 0, 0, 0), (68, .iconst 0, 1, 0, 0, 0), (69, .aload_n 0, 1, 0, 0, 0), (70, .getfield 34, 3, 0, 4, 0), (73, .iconst 1, 1, 0, 0, 0), (74, .baload, 1, 0, 0, 0), (75, .ifCond .eq 7, 3, 0, 0, 0), (78, .iconst 1, 1, 0, 0, 0), (79, .goto 4, 3, 0, 0, 0)]
noncomputable def cL143_5 : List MI := [(82, .iconst 0, 1, 0, 0, 0), (83, .iadd, 1, 0, 0, 0), (84, .ireturn, 1, 0, 0, 0), (85, .aload_n 0, 1, 0, 0, 0), (86, .getfield 20, 3, 0, 1, 0), (89, .getfield 69, 3, 6, 1, 0), (92, .ireturn, 1, 0, 0, 0), (93, .aload_n 0, 1, 0, 0, 0), (94, .getfield 58, 3, 0, 8, 0)]
noncomputable def cL143_6 : List MI := [(97, .iconst 0, 1, 0, 0, 0), (98, .aaload, 1, 0, 0, 0), (99, .getfield 299, 3, 8, 2, 0), (102, .bipush (-4), 2, 0, 0, 0), (104, .if_icmp .ne 8, 3, 0, 0, 0), (107, .bipush (-4), 2, 0, 0, 0), (109, .goto 12, 3, 0, 0, 0)]
noncomputable def cL143_7 : List MI := [(112, .aload_n 0, 1, 0, 0, 0), (113, .getfield 58, 3, 0, 8, 0), (116, .iconst 0, 1, 0, 0, 0), (117, .aaload, 1, 0, 0, 0), (118, .getfield 317, 3, 8, 1, 0), (121, .ireturn, 1, 0, 0, 0), (122, .iconst (-1), 1, 0, 0, 0), (123, .ireturn, 1, 0, 0, 0)]
noncomputable def cG143_0 : List MI := cL143_0 ++ ( cL143_1 ++ ( cL143_2 ++ ( cL143_3 ++ ( cL143_4 ++ ( cL143_5 ++ ( cL143_6 ++ ( cL143_7 ++ ([]))))))))
noncomputable def cL143 : List MI := cG143_0 ++ ([])
/-- DoorPaintsModel.<init>()V -/
noncomputable def cL144_0 : List MI := [(0, .aload_n 0, 1, 0, 0, 0), (1, .invokespecial 1, 3, 9999, 1, 0), (4, .aload_n 0, 1, 0, 0, 0), (5, .sipush 240, 3, 0, 0, 0), (8, .newarray .int, 2, 0, 0, 0), (10, .putfield 7, 3, 9, 0, 0), (13, .aload_n 0, 1, 0, 0, 0), (14, .bipush 80, 2, 0, 0, 0)]
noncomputable def cL144_1 : List MI := [(16, .newarray .int, 2, 0, 0, 0), (18, .putfield 13, 3, 9, 1, 0), (21, .aload_n 0, 1, 0, 0, 0), (22, .iconst 2, 1, 0, 0, 0), (23, .newarray .boolean, 2, 1, 0, 0), (25, .putfield 16, 3, 9, 2, 0), (28, .aload_n 0, 1, 0, 0, 0), (29, .bipush 80, 2, 0, 0, 0), (31, .newarray .int, 2, 0, 0, 0)]
noncomputable def cL144_2 : List MI := [(33, .putfield 20, 3, 9, 5, 0), (36, .aload_n 0, 1, 0, 0, 0), (37, .iconst 4, 1, 0, 0, 0), (38, .newarray .int, 2, 0, 0, 0), (40, .putfield 23, 3, 9, 11, 0), (43, .aload_n 0, 1, 0, 0, 0), (44, .sipush 160, 3, 0, 0, 0), (47, .newarray .int, 2, 0, 0, 0)]
noncomputable def cL144_3 : List MI := [(49, .putfield 26, 3, 9, 12, 0), (52, .aload_n 0, 1, 0, 0, 0), (53, .iconst 5, 1, 0, 0, 0), (54, .newarray .int, 2, 0, 0, 0), (56, .putfield 29, 3, 9, 24, 0), (59, .aload_n 0, 1, 0, 0, 0), (60, .iconst 4, 1, 0, 0, 0), (61, .newarray .int, 2, 0, 0, 0), (63, .putfield 32, 3, 9, 28, 0)]
noncomputable def cL144_4 : List MI := [(66, .aload_n 0, 1, 0, 0, 0), (67, .iconst 4, 1, 0, 0, 0), (68, .newarray .int, 2, 0, 0, 0), (70, .putfield 35, 3, 9, 29, 0), (73, .aload_n 0, 1, 0, 0, 0), (74, .sipush 160, 3, 0, 0, 0), (77, .newarray .int, 2, 0, 0, 0), (79, .putfield 38, 3, 9, 30, 0)]
noncomputable def cL144_5 : List MI := [(82, .aload_n 0, 1, 0, 0, 0), (83, .bipush 80, 2, 0, 0, 0), (85, .newarray .int, 2, 0, 0, 0), (87, .putfield 41, 3, 9, 32, 0), (90, .iconst 0, 1, 0, 0, 0), (91, .istore_n 1, 1, 0, 0, 0), (92, .iload_n 1, 1, 0, 0, 0), (93, .iconst 4, 1, 0, 0, 0), (94, .if_icmp .ge 17, 3, 0, 0, 0)]
noncomputable def cL144_6 : List MI := [(97, .aload_n 0, 1, 0, 0, 0), (98, .getfield 32, 3, 9, 28, 0), (101, .iload_n 1, 1, 0, 0, 0), (102, .bipush (-4), 2, 0, 0, 0), (104, .iastore, 1, 0, 0, 0), (105, .iinc 1 1, 3, 0, 0, 0), (108, .goto (-16), 3, 0, 0, 0), (111, .aload_n 0, 1, 0, 0, 0)]
noncomputable def cL144_7 : List MI := [(112, .invokevirtual 44, 3, 145, 1, 9), (115, .aload_n 0, 1, 0, 0, 0), (116, .invokevirtual 47, 3, 146, 1, 9), (119, .return_, 1, 0, 0, 0)]
noncomputable def cG144_0 : List MI := cL144_0 ++ ( cL144_1 ++ ( cL144_2 ++ ( cL144_3 ++ ( cL144_4 ++ ( cL144_5 ++ ( cL144_6 ++ ( cL144_7 ++ ([]))))))))
noncomputable def cL144 : List MI := cG144_0 ++ ([])
/-- DoorPaintsModel.firstDraft()V -/
noncomputable def cL145_0 : List MI := [(0, .iconst 0, 1, 0, 0, 0), (1, .istore_n 1, 1, 0, 0, 0), (2, .iload_n 1, 1, 0, 0, 0), (3, .bipush 80, 2, 0, 0, 0), (5, .if_icmp .ge 16, 3, 0, 0, 0), (8, .aload_n 0, 1, 0, 0, 0), (9, .getfield 20, 3, 9, 5, 0), (12, .iload_n 1, 1, 0, 0, 0), (13, .iconst 0, 1, 0, 0, 0), (14, .iastore, 1, 0, 0, 0), (15, .iinc 1 1, 3, 0, 0, 0)]
noncomputable def cL145_1 : List MI := [(18, .goto (-16), 3, 0, 0, 0), (21, .iconst 0, 1, 0, 0, 0), (22, .istore_n 1, 1, 0, 0, 0), (23, .iload_n 1, 1, 0, 0, 0), (24, .iconst 4, 1, 0, 0, 0), (25, .if_icmp .ge 16, 3, 0, 0, 0), (28, .aload_n 0, 1, 0, 0, 0), (29, .getfield 23, 3, 9, 11, 0)]
noncomputable def cL145_2 : List MI := [(32, .iload_n 1, 1, 0, 0, 0), (33, .iconst 0, 1, 0, 0, 0), (34, .iastore, 1, 0, 0, 0), (35, .iinc 1 1, 3, 0, 0, 0), (38, .goto (-15), 3, 0, 0, 0), (41, .aload_n 0, 1, 0, 0, 0), (42, .iconst 0, 1, 0, 0, 0), (43, .putfield 50, 3, 9, 6, 0), (46, .aload_n 0, 1, 0, 0, 0), (47, .iconst 0, 1, 0, 0, 0)]
noncomputable def cL145_3 : List MI := [(48, .putfield 54, 3, 9, 7, 0), (51, .aload_n 0, 1, 0, 0, 0), (52, .iconst 0, 1, 0, 0, 0), (53, .putfield 57, 3, 9, 8, 0), (56, .aload_n 0, 1, 0, 0, 0), (57, .bipush (-4), 2, 0, 0, 0), (59, .putfield 61, 3, 9, 9, 0), (62, .aload_n 0, 1, 0, 0, 0), (63, .bipush (-4), 2, 0, 0, 0)]
noncomputable def cL145_4 : List MI := [(65, .putfield 64, 3, 9, 10, 0), (68, .return_, 1, 0, 0, 0)]
noncomputable def cG145_0 : List MI := cL145_0 ++ ( cL145_1 ++ ( cL145_2 ++ ( cL145_3 ++ ( cL145_4 ++ ([])))))
noncomputable def cL145 : List MI := cG145_0 ++ ([])
/-- DoorPaintsModel.keepDraft()V -/
noncomputable def cL146_0 : List MI := [(0, .iconst 0, 1, 0, 0, 0), (1, .istore_n 1, 1, 0, 0, 0), (2, .iload_n 1, 1, 0, 0, 0), (3, .bipush 80, 2, 0, 0, 0), (5, .if_icmp .ge 21, 3, 0, 0, 0), (8, .aload_n 0, 1, 0, 0, 0), (9, .getfield 7, 3, 9, 0, 0), (12, .iload_n 1, 1, 0, 0, 0), (13, .aload_n 0, 1, 0, 0, 0), (14, .getfield 20, 3, 9, 5, 0)]
noncomputable def cL146_1 : List MI := [(17, .iload_n 1, 1, 0, 0, 0), (18, .iaload, 1, 0, 0, 0), (19, .iastore, 1, 0, 0, 0), (20, .iinc 1 1, 3, 0, 0, 0), (23, .goto (-21), 3, 0, 0, 0), (26, .aload_n 0, 1, 0, 0, 0), (27, .aload_n 0, 1, 0, 0, 0), (28, .getfield 50, 3, 9, 6, 0), (31, .putfield 67, 3, 9, 3, 0)]
noncomputable def cL146_2 : List MI := [(34, .aload_n 0, 1, 0, 0, 0), (35, .aload_n 0, 1, 0, 0, 0), (36, .getfield 54, 3, 9, 7, 0), (39, .putfield 70, 3, 9, 4, 0), (42, .iconst 0, 1, 0, 0, 0), (43, .istore_n 1, 1, 0, 0, 0), (44, .iload_n 1, 1, 0, 0, 0), (45, .aload_n 0, 1, 0, 0, 0), (46, .getfield 70, 3, 9, 4, 0)]
noncomputable def cL146_3 : List MI := [(49, .if_icmp .ge 29, 3, 0, 0, 0), (52, .aload_n 0, 1, 0, 0, 0), (53, .getfield 7, 3, 9, 0, 0), (56, .bipush 16, 2, 0, 0, 0), (58, .bipush 9, 2, 0, 0, 0), (60, .iload_n 1, 1, 0, 0, 0), (61, .imul, 1, 0, 0, 0), (62, .iadd, 1, 0, 0, 0), (63, .iconst 2, 1, 0, 0, 0)]
noncomputable def cL146_4 : List MI := [(64, .iadd, 1, 0, 0, 0), (65, .aload_n 0, 1, 0, 0, 0), (66, .getfield 23, 3, 9, 11, 0), (69, .iload_n 1, 1, 0, 0, 0), (70, .iaload, 1, 0, 0, 0), (71, .iastore, 1, 0, 0, 0), (72, .iinc 1 1, 3, 0, 0, 0), (75, .goto (-31), 3, 0, 0, 0), (78, .aload_n 0, 1, 0, 0, 0), (79, .getfield 16, 3, 9, 2, 0)]
noncomputable def cL146_5 : List MI := [(82, .iconst 0, 1, 0, 0, 0), (83, .iconst 0, 1, 0, 0, 0), (84, .bastore, 1, 0, 0, 0), (85, .aload_n 0, 1, 0, 0, 0), (86, .getfield 16, 3, 9, 2, 0), (89, .iconst 1, 1, 0, 0, 0), (90, .iconst 0, 1, 0, 0, 0), (91, .bastore, 1, 0, 0, 0), (92, .return_, 1, 0, 0, 0)]
noncomputable def cG146_0 : List MI := cL146_0 ++ ( cL146_1 ++ ( cL146_2 ++ ( cL146_3 ++ ( cL146_4 ++ ( cL146_5 ++ ([]))))))
noncomputable def cL146 : List MI := cG146_0 ++ ([])
/-- DoorPaintsModel.feed(I)I -/
noncomputable def cL147_0 : List MI := [(0, .iload_n 1, 1, 0, 0, 0), (1, .i2l, 1, 0, 0, 0), (2, .lconst 0, 1, 0, 0, 0), (3, .ldc2_w 73, 3, 0, 0, 127), (6, .invokestatic 75, 3, 148, 3, 0), (9, .ifCond .ne 5, 3, 0, 0, 0), (12, .iconst (-1), 1, 0, 0, 0), (13, .ireturn, 1, 0, 0, 0), (14, .aload_n 0, 1, 0, 0, 0), (15, .getfield 79, 3, 9, 13, 0)]
noncomputable def cL147_1 : List MI := [(18, .sipush 160, 3, 0, 0, 0), (21, .if_icmp .ne 6, 3, 0, 0, 0), (24, .bipush (-3), 2, 0, 0, 0), (26, .ireturn, 1, 0, 0, 0), (27, .aload_n 0, 1, 0, 0, 0), (28, .getfield 26, 3, 9, 12, 0), (31, .aload_n 0, 1, 0, 0, 0)]
noncomputable def cL147_2 : List MI := [(32, .getfield 79, 3, 9, 13, 0), (35, .iload_n 1, 1, 0, 0, 0), (36, .iastore, 1, 0, 0, 0), (37, .aload_n 0, 1, 0, 0, 0), (38, .dup, 1, 0, 0, 0), (39, .getfield 79, 3, 9, 13, 0), (42, .iconst 1, 1, 0, 0, 0), (43, .iadd, 1, 0, 0, 0), (44, .putfield 79, 3, 9, 13, 0), (47, .aload_n 0, 1, 0, 0, 0)]
noncomputable def cL147_3 : List MI := [(48, .getfield 79, 3, 9, 13, 0), (51, .ireturn, 1, 0, 0, 0)]
noncomputable def cG147_0 : List MI := cL147_0 ++ ( cL147_1 ++ ( cL147_2 ++ ( cL147_3 ++ ([]))))
noncomputable def cL147 : List MI := cG147_0 ++ ([])
/-- DoorPaintsModel.in(JJJ)Z -/
noncomputable def cL148_0 : List MI := [(0, .lload_n 0, 1, 0, 0, 0), (1, .lload_n 2, 1, 0, 0, 0), (2, .lcmp, 1, 0, 0, 0), (3, .ifCond .lt 14, 3, 0, 0, 0), (6, .lload_n 0, 1, 0, 0, 0), (7, .lload 4, 2, 0, 0, 0), (9, .lcmp, 1, 0, 0, 0), (10, .ifCond .gt 7, 3, 0, 0, 0), (13, .iconst 1, 1, 0, 0, 0), (14, .goto 4, 3, 0, 0, 0)]
noncomputable def cL148_1 : List MI := [(17, .iconst 0, 1, 0, 0, 0), (18, .ireturn, 1, 0, 0, 0)]
noncomputable def cG148_0 : List MI := cL148_0 ++ ( cL148_1 ++ ([]))
noncomputable def cL148 : List MI := cG148_0 ++ ([])
/-- DoorPaintsModel.end(I)I -/
noncomputable def cL149_0 : List MI := [(0, .iload_n 1, 1, 0, 0, 0), (1, .i2l, 1, 0, 0, 0), (2, .lconst 0, 1, 0, 0, 0), (3, .aload_n 0, 1, 0, 0, 0), (4, .getfield 79, 3, 9, 13, 0), (7, .i2l, 1, 0, 0, 0), (8, .invokestatic 75, 3, 148, 3, 0), (11, .ifCond .ne 5, 3, 0, 0, 0), (14, .iconst (-1), 1, 0, 0, 0), (15, .ireturn, 1, 0, 0, 0)]
noncomputable def cL149_1 : List MI := [(16, .aload_n 0, 1, 0, 0, 0), (17, .getfield 79, 3, 9, 13, 0), (20, .istore_n 2, 1, 0, 0, 0), (21, .aload_n 0, 1, 0, 0, 0), (22, .iload_n 1, 1, 0, 0, 0), (23, .putfield 79, 3, 9, 13, 0), (26, .iload_n 2, 1, 0, 0, 0), (27, .ireturn, 1, 0, 0, 0)]
noncomputable def cG149_0 : List MI := cL149_0 ++ ( cL149_1 ++ ([]))
noncomputable def cL149 : List MI := cG149_0 ++ ([])
/-- DoorPaintsModel.text()I -/
noncomputable def cL150_0 : List MI := [(0, .iconst 0, 1, 0, 0, 0), (1, .istore_n 1, 1, 0, 0, 0), (2, .aload_n 0, 1, 0, 0, 0), (3, .iconst 0, 1, 0, 0, 0), (4, .putfield 82, 3, 9, 18, 0), (7, .aload_n 0, 1, 0, 0, 0), (8, .iconst 0, 1, 0, 0, 0), (9, .putfield 91, 3, 9, 14, 0), (12, .aload_n 0, 1, 0, 0, 0), (13, .invokevirtual 44, 3, 145, 1, 9)]
noncomputable def cL150_1 : List MI := [(16, .aload_n 0, 1, 0, 0, 0), (17, .invokevirtual 128, 3, 151, 1, 9), (20, .aload_n 0, 1, 0, 0, 0), (21, .getfield 82, 3, 9, 18, 0), (24, .ifCond .ne 20, 3, 0, 0, 0), (27, .aload_n 0, 1, 0, 0, 0), (28, .getfield 106, 3, 9, 16, 0), (31, .ifCond .eq 13, 3, 0, 0, 0)]
noncomputable def cL150_2 : List MI := [(34, .aload_n 0, 1, 0, 0, 0), (35, .invokevirtual 164, 3, 154, 1, 9), (38, .iinc 1 1, 3, 0, 0, 0), (41, .goto (-21), 3, 0, 0, 0), (44, .aload_n 0, 1, 0, 0, 0), (45, .getfield 82, 3, 9, 18, 0)]
noncomputable def cL150_3 : List MI := [(48, .ifCond .ne 36, 3, 0, 0, 0), (51, .aload_n 0, 1, 0, 0, 0), (52, .aload_n 0, 1, 0, 0, 0), (53, .getfield 61, 3, 9, 9, 0), (56, .aload_n 0, 1, 0, 0, 0), (57, .getfield 50, 3, 9, 6, 0), (60, .if_icmp .ge 18, 3, 0, 0, 0), (63, .aload_n 0, 1, 0, 0, 0)]
noncomputable def cL150_4 : List MI := [(64, .getfield 64, 3, 9, 10, 0), (67, .aload_n 0, 1, 0, 0, 0), (68, .getfield 54, 3, 9, 7, 0), (71, .if_icmp .ge 7, 3, 0, 0, 0), (74, .iconst 1, 1, 0, 0, 0), (75, .goto 4, 3, 0, 0, 0), (78, .iconst 0, 1, 0, 0, 0), (79, .bipush 6, 2, 0, 0, 0)]
noncomputable def cL150_5 : List MI := [(81, .invokevirtual 120, 3, 153, 3, 9), (84, .aload_n 0, 1, 0, 0, 0), (85, .iconst 0, 1, 0, 0, 0), (86, .putfield 79, 3, 9, 13, 0), (89, .aload_n 0, 1, 0, 0, 0), (90, .getfield 82, 3, 9, 18, 0), (93, .ifCond .le 11, 3, 0, 0, 0)]
noncomputable def cL150_6 : List MI := [(96, .bipush (-10), 2, 0, 0, 0), (98, .aload_n 0, 1, 0, 0, 0), (99, .getfield 88, 3, 9, 19, 0), (102, .isub, 1, 0, 0, 0), (103, .ireturn, 1, 0, 0, 0), (104, .aload_n 0, 1, 0, 0, 0), (105, .invokevirtual 47, 3, 146, 1, 9), (108, .iload_n 1, 1, 0, 0, 0), (109, .ireturn, 1, 0, 0, 0)]
noncomputable def cG150_0 : List MI := cL150_0 ++ ( cL150_1 ++ ( cL150_2 ++ ( cL150_3 ++ ( cL150_4 ++ ( cL150_5 ++ ( cL150_6 ++ ([])))))))
noncomputable def cL150 : List MI := cG150_0 ++ ([])
/-- DoorPaintsModel.next()V -/
noncomputable def cL151_0 : List MI := [(0, .aload_n 0, 1, 0, 0, 0), (1, .getfield 82, 3, 9, 18, 0), (4, .ifCond .le 4, 3, 0, 0, 0), (7, .return_, 1, 0, 0, 0), (8, .aload_n 0, 1, 0, 0, 0), (9, .aload_n 0, 1, 0, 0, 0), (10, .getfield 91, 3, 9, 14, 0), (13, .invokevirtual 94, 3, 152, 2, 9)]
noncomputable def cL151_1 : List MI := [(16, .bipush 32, 2, 0, 0, 0), (18, .if_icmp .ne 16, 3, 0, 0, 0), (21, .aload_n 0, 1, 0, 0, 0), (22, .dup, 1, 0, 0, 0), (23, .getfield 91, 3, 9, 14, 0), (26, .iconst 1, 1, 0, 0, 0), (27, .iadd, 1, 0, 0, 0), (28, .putfield 91, 3, 9, 14, 0), (31, .goto (-23), 3, 0, 0, 0)]
noncomputable def cL151_2 : List MI := [(34, .aload_n 0, 1, 0, 0, 0), (35, .aload_n 0, 1, 0, 0, 0), (36, .getfield 91, 3, 9, 14, 0), (39, .putfield 85, 3, 9, 15, 0), (42, .aload_n 0, 1, 0, 0, 0), (43, .aload_n 0, 1, 0, 0, 0), (44, .getfield 91, 3, 9, 14, 0), (47, .invokevirtual 94, 3, 152, 2, 9)]
noncomputable def cL151_3 : List MI := [(50, .istore_n 1, 1, 0, 0, 0), (51, .iload_n 1, 1, 0, 0, 0), (52, .ifCond .ge 11, 3, 0, 0, 0), (55, .aload_n 0, 1, 0, 0, 0), (56, .iconst 0, 1, 0, 0, 0), (57, .putfield 106, 3, 9, 16, 0), (60, .goto 214, 3, 0, 0, 0), (63, .iload_n 1, 1, 0, 0, 0)]
noncomputable def cL151_4 : List MI := [(64, .i2l, 1, 0, 0, 0), (65, .ldc2_w 109, 3, 0, 0, 97), (68, .ldc2_w 111, 3, 0, 0, 122), (71, .invokestatic 75, 3, 148, 3, 0), (74, .ifCond .eq 42, 3, 0, 0, 0), (77, .aload_n 0, 1, 0, 0, 0), (78, .iconst 1, 1, 0, 0, 0), (79, .putfield 106, 3, 9, 16, 0)]
noncomputable def cL151_5 : List MI := [(82, .aload_n 0, 1, 0, 0, 0), (83, .aload_n 0, 1, 0, 0, 0), (84, .getfield 91, 3, 9, 14, 0), (87, .invokevirtual 94, 3, 152, 2, 9), (90, .i2l, 1, 0, 0, 0), (91, .ldc2_w 109, 3, 0, 0, 97), (94, .ldc2_w 111, 3, 0, 0, 122)]
noncomputable def cL151_6 : List MI := [(97, .invokestatic 75, 3, 148, 3, 0), (100, .ifCond .eq 174, 3, 0, 0, 0), (103, .aload_n 0, 1, 0, 0, 0), (104, .dup, 1, 0, 0, 0), (105, .getfield 91, 3, 9, 14, 0), (108, .iconst 1, 1, 0, 0, 0), (109, .iadd, 1, 0, 0, 0), (110, .putfield 91, 3, 9, 14, 0)]
noncomputable def cL151_7 : List MI := [(113, .goto (-31), 3, 0, 0, 0), (116, .iload_n 1, 1, 0, 0, 0), (117, .i2l, 1, 0, 0, 0), (118, .ldc2_w 113, 3, 0, 0, 48), (121, .ldc2_w 115, 3, 0, 0, 57), (124, .invokestatic 75, 3, 148, 3, 0), (127, .ifCond .eq 116, 3, 0, 0, 0)]
noncomputable def cL151_8 : List MI := [(130, .aload_n 0, 1, 0, 0, 0), (131, .iconst 2, 1, 0, 0, 0), (132, .putfield 106, 3, 9, 16, 0), (135, .aload_n 0, 1, 0, 0, 0), (136, .iconst 0, 1, 0, 0, 0), (137, .putfield 117, 3, 9, 17, 0), (140, .aload_n 0, 1, 0, 0, 0), (141, .aload_n 0, 1, 0, 0, 0), (142, .getfield 91, 3, 9, 14, 0)]
noncomputable def cL151_9 : List MI := [(145, .invokevirtual 94, 3, 152, 2, 9), (148, .i2l, 1, 0, 0, 0), (149, .ldc2_w 113, 3, 0, 0, 48), (152, .ldc2_w 115, 3, 0, 0, 57), (155, .invokestatic 75, 3, 148, 3, 0), (158, .ifCond .eq 59, 3, 0, 0, 0)]
noncomputable def cL151_10 : List MI := [(161, .aload_n 0, 1, 0, 0, 0), (162, .aload_n 0, 1, 0, 0, 0), (163, .getfield 91, 3, 9, 14, 0), (166, .aload_n 0, 1, 0, 0, 0), (167, .getfield 85, 3, 9, 15, 0), (170, .isub, 1, 0, 0, 0), (171, .iconst 2, 1, 0, 0, 0), (172, .if_icmp .ge 25, 3, 0, 0, 0), (175, .bipush 10, 2, 0, 0, 0)]
noncomputable def cL151_11 : List MI := [(177, .aload_n 0, 1, 0, 0, 0), (178, .getfield 117, 3, 9, 17, 0), (181, .imul, 1, 0, 0, 0), (182, .aload_n 0, 1, 0, 0, 0), (183, .aload_n 0, 1, 0, 0, 0), (184, .getfield 91, 3, 9, 14, 0), (187, .invokevirtual 94, 3, 152, 2, 9), (190, .iadd, 1, 0, 0, 0), (191, .bipush 48, 2, 0, 0, 0)]
noncomputable def cL151_12 : List MI := [(193, .isub, 1, 0, 0, 0), (194, .goto 7, 3, 0, 0, 0), (197, .aload_n 0, 1, 0, 0, 0), (198, .getfield 117, 3, 9, 17, 0), (201, .putfield 117, 3, 9, 17, 0), (204, .aload_n 0, 1, 0, 0, 0), (205, .dup, 1, 0, 0, 0), (206, .getfield 91, 3, 9, 14, 0)]
noncomputable def cL151_13 : List MI := [(209, .iconst 1, 1, 0, 0, 0), (210, .iadd, 1, 0, 0, 0), (211, .putfield 91, 3, 9, 14, 0), (214, .goto (-74), 3, 0, 0, 0), (217, .aload_n 0, 1, 0, 0, 0), (218, .aload_n 0, 1, 0, 0, 0), (219, .getfield 91, 3, 9, 14, 0), (222, .aload_n 0, 1, 0, 0, 0), (223, .getfield 85, 3, 9, 15, 0)]
noncomputable def cL151_14 : List MI := [(226, .isub, 1, 0, 0, 0), (227, .iconst 2, 1, 0, 0, 0), (228, .if_icmp .gt 7, 3, 0, 0, 0), (231, .iconst 1, 1, 0, 0, 0), (232, .goto 4, 3, 0, 0, 0), (235, .iconst 0, 1, 0, 0, 0), (236, .iconst 1, 1, 0, 0, 0), (237, .invokevirtual 120, 3, 153, 3, 9)]
noncomputable def cL151_15 : List MI := [(240, .goto 34, 3, 0, 0, 0), (243, .aload_n 0, 1, 0, 0, 0), (244, .iconst 3, 1, 0, 0, 0), (245, .putfield 106, 3, 9, 16, 0), (248, .aload_n 0, 1, 0, 0, 0), (249, .iload_n 1, 1, 0, 0, 0), (250, .bipush 59, 2, 0, 0, 0), (252, .if_icmp .ne 7, 3, 0, 0, 0), (255, .iconst 1, 1, 0, 0, 0)]
noncomputable def cL151_16 : List MI := [(256, .goto 4, 3, 0, 0, 0), (259, .iconst 0, 1, 0, 0, 0), (260, .iconst 1, 1, 0, 0, 0), (261, .invokevirtual 120, 3, 153, 3, 9), (264, .aload_n 0, 1, 0, 0, 0), (265, .dup, 1, 0, 0, 0), (266, .getfield 91, 3, 9, 14, 0), (269, .iconst 1, 1, 0, 0, 0), (270, .iadd, 1, 0, 0, 0), (271, .putfield 91, 3, 9, 14, 0)]
noncomputable def cL151_17 : List MI := [(274, .return_, 1, 0, 0, 0)]
noncomputable def cG151_0 : List MI := cL151_0 ++ ( cL151_1 ++ ( cL151_2 ++ ( cL151_3 ++ ( cL151_4 ++ ( cL151_5 ++ ( cL151_6 ++ ( cL151_7 ++ ([]))))))))
noncomputable def cG151_1 : List MI := cL151_8 ++ ( cL151_9 ++ ( cL151_10 ++ ( cL151_11 ++ ( cL151_12 ++ ( cL151_13 ++ ( cL151_14 ++ ( cL151_15 ++ ([]))))))))
noncomputable def cG151_2 : List MI := cL151_16 ++ ( cL151_17 ++ ([]))
noncomputable def cL151 : List MI := cG151_0 ++ ( cG151_1 ++ ( cG151_2 ++ ([])))
/-- DoorPaintsModel.byteAt(I)I -/
noncomputable def cL152_0 : List MI := [(0, .iload_n 1, 1, 0, 0, 0), (1, .aload_n 0, 1, 0, 0, 0), (2, .getfield 79, 3, 9, 13, 0), (5, .if_icmp .ge 12, 3, 0, 0, 0), (8, .aload_n 0, 1, 0, 0, 0), (9, .getfield 26, 3, 9, 12, 0), (12, .iload_n 1, 1, 0, 0, 0), (13, .iaload, 1, 0, 0, 0), (14, .goto 4, 3, 0, 0, 0)]
noncomputable def cL152_1 : List MI := [(17, .iconst (-1), 1, 0, 0, 0), (18, .ireturn, 1, 0, 0, 0)]
noncomputable def cG152_0 : List MI := cL152_0 ++ ( cL152_1 ++ ([]))
noncomputable def cL152 : List MI := cG152_0 ++ ([])
/-- DoorPaintsModel.needs(ZI)V -/
noncomputable def cL153_0 : List MI := [(0, .iload_n 1, 1, 0, 0, 0), (1, .ifCond .ne 23, 3, 0, 0, 0), (4, .aload_n 0, 1, 0, 0, 0), (5, .getfield 82, 3, 9, 18, 0), (8, .ifCond .ne 16, 3, 0, 0, 0), (11, .aload_n 0, 1, 0, 0, 0), (12, .iload_n 2, 1, 0, 0, 0), (13, .putfield 82, 3, 9, 18, 0)]
noncomputable def cL153_1 : List MI := [(16, .aload_n 0, 1, 0, 0, 0), (17, .aload_n 0, 1, 0, 0, 0), (18, .getfield 85, 3, 9, 15, 0), (21, .putfield 88, 3, 9, 19, 0), (24, .return_, 1, 0, 0, 0)]
noncomputable def cG153_0 : List MI := cL153_0 ++ ( cL153_1 ++ ([]))
noncomputable def cL153 : List MI := cG153_0 ++ ([])
/-- DoorPaintsModel.readLine()V -/
noncomputable def cL154_0 : List MI := [(0, .aload_n 0, 1, 0, 0, 0), (1, .getfield 106, 3, 9, 16, 0), (4, .iconst 1, 1, 0, 0, 0), (5, .if_icmp .ne 10, 3, 0, 0, 0), (8, .aload_n 0, 1, 0, 0, 0), (9, .invokevirtual 157, 3, 155, 1, 9), (12, .goto 5, 3, 0, 0, 0), (15, .bipush (-4), 2, 0, 0, 0)]
noncomputable def cL154_1 : List MI := [(17, .istore_n 1, 1, 0, 0, 0), (18, .aload_n 0, 1, 0, 0, 0), (19, .iload_n 1, 1, 0, 0, 0), (20, .bipush (-4), 2, 0, 0, 0), (22, .if_icmp .eq 7, 3, 0, 0, 0), (25, .iconst 1, 1, 0, 0, 0), (26, .goto 4, 3, 0, 0, 0), (29, .iconst 0, 1, 0, 0, 0), (30, .iconst 2, 1, 0, 0, 0), (31, .invokevirtual 120, 3, 153, 3, 9)]
noncomputable def cL154_2 : List MI := [(34, .aload_n 0, 1, 0, 0, 0), (35, .iload_n 1, 1, 0, 0, 0), (36, .iconst 4, 1, 0, 0, 0), (37, .if_icmp .ne 19, 3, 0, 0, 0), (40, .aload_n 0, 1, 0, 0, 0), (41, .getfield 54, 3, 9, 7, 0), (44, .iconst 4, 1, 0, 0, 0), (45, .if_icmp .ge 7, 3, 0, 0, 0)]
noncomputable def cL154_3 : List MI := [(48, .iconst 1, 1, 0, 0, 0), (49, .goto 25, 3, 0, 0, 0), (52, .iconst 0, 1, 0, 0, 0), (53, .goto 21, 3, 0, 0, 0), (56, .iload_n 1, 1, 0, 0, 0), (57, .iconst 4, 1, 0, 0, 0), (58, .if_icmp .gt 11, 3, 0, 0, 0), (61, .aload_n 0, 1, 0, 0, 0), (62, .getfield 50, 3, 9, 6, 0)]
noncomputable def cL154_4 : List MI := [(65, .iconst 4, 1, 0, 0, 0), (66, .if_icmp .ge 7, 3, 0, 0, 0), (69, .iconst 1, 1, 0, 0, 0), (70, .goto 4, 3, 0, 0, 0), (73, .iconst 0, 1, 0, 0, 0), (74, .iconst 5, 1, 0, 0, 0), (75, .invokevirtual 120, 3, 153, 3, 9), (78, .aload_n 0, 1, 0, 0, 0), (79, .iload_n 1, 1, 0, 0, 0)]
noncomputable def cL154_5 : List MI := [(80, .bipush 6, 2, 0, 0, 0), (82, .if_icmp .ne 10, 3, 0, 0, 0), (85, .aload_n 0, 1, 0, 0, 0), (86, .getfield 57, 3, 9, 8, 0), (89, .ifCond .ne 7, 3, 0, 0, 0), (92, .iconst 1, 1, 0, 0, 0), (93, .goto 4, 3, 0, 0, 0)]
noncomputable def cL154_6 : List MI := [(96, .iconst 0, 1, 0, 0, 0), (97, .iconst 4, 1, 0, 0, 0), (98, .invokevirtual 120, 3, 153, 3, 9), (101, .aload_n 0, 1, 0, 0, 0), (102, .aload_n 0, 1, 0, 0, 0), (103, .getfield 57, 3, 9, 8, 0), (106, .ifCond .ne 9, 3, 0, 0, 0), (109, .iload_n 1, 1, 0, 0, 0), (110, .bipush 6, 2, 0, 0, 0)]
noncomputable def cL154_7 : List MI := [(112, .if_icmp .ne 7, 3, 0, 0, 0), (115, .iconst 1, 1, 0, 0, 0), (116, .goto 4, 3, 0, 0, 0), (119, .iconst 0, 1, 0, 0, 0), (120, .putfield 57, 3, 9, 8, 0), (123, .aload_n 0, 1, 0, 0, 0), (124, .invokevirtual 128, 3, 151, 1, 9), (127, .aload_n 0, 1, 0, 0, 0)]
noncomputable def cL154_8 : List MI := [(128, .getfield 82, 3, 9, 18, 0), (131, .ifCond .le 4, 3, 0, 0, 0), (134, .return_, 1, 0, 0, 0), (135, .aload_n 0, 1, 0, 0, 0), (136, .iload_n 1, 1, 0, 0, 0), (137, .invokevirtual 161, 3, 158, 2, 9), (140, .aload_n 0, 1, 0, 0, 0), (141, .getfield 82, 3, 9, 18, 0)]
noncomputable def cL154_9 : List MI := [(144, .ifCond .ne 21, 3, 0, 0, 0), (147, .aload_n 0, 1, 0, 0, 0), (148, .aload_n 0, 1, 0, 0, 0), (149, .getfield 106, 3, 9, 16, 0), (152, .iconst 3, 1, 0, 0, 0), (153, .if_icmp .ne 7, 3, 0, 0, 0), (156, .iconst 1, 1, 0, 0, 0), (157, .goto 4, 3, 0, 0, 0)]
noncomputable def cL154_10 : List MI := [(160, .iconst 0, 1, 0, 0, 0), (161, .iconst 2, 1, 0, 0, 0), (162, .invokevirtual 120, 3, 153, 3, 9), (165, .aload_n 0, 1, 0, 0, 0), (166, .invokevirtual 128, 3, 151, 1, 9), (169, .return_, 1, 0, 0, 0)]
noncomputable def cG154_0 : List MI := cL154_0 ++ ( cL154_1 ++ ( cL154_2 ++ ( cL154_3 ++ ( cL154_4 ++ ( cL154_5 ++ ( cL154_6 ++ ( cL154_7 ++ ([]))))))))
noncomputable def cG154_1 : List MI := cL154_8 ++ ( cL154_9 ++ ( cL154_10 ++ ([])))
noncomputable def cL154 : List MI := cG154_0 ++ ( cG154_1 ++ ([]))
/-- DoorPaintsModel.lineNow()I -/
noncomputable def cL155_0 : List MI := [(0, .aload_n 0, 1, 0, 0, 0), (1, .iconst 5, 1, 0, 0, 0), (2, .bipush 112, 2, 0, 0, 0), (4, .bipush 108, 2, 0, 0, 0), (6, .bipush 97, 2, 0, 0, 0), (8, .invokevirtual 98, 3, 156, 5, 9), (11, .ifCond .eq 17, 3, 0, 0, 0), (14, .aload_n 0, 1, 0, 0, 0), (15, .bipush 105, 2, 0, 0, 0)]
noncomputable def cL155_1 : List MI := [(17, .bipush 110, 2, 0, 0, 0), (19, .iconst 0, 1, 0, 0, 0), (20, .invokevirtual 102, 3, 157, 4, 9), (23, .ifCond .eq 5, 3, 0, 0, 0), (26, .iconst 0, 1, 0, 0, 0), (27, .ireturn, 1, 0, 0, 0), (28, .aload_n 0, 1, 0, 0, 0), (29, .bipush 6, 2, 0, 0, 0), (31, .bipush 112, 2, 0, 0, 0)]
noncomputable def cL155_2 : List MI := [(33, .bipush 114, 2, 0, 0, 0), (35, .bipush 105, 2, 0, 0, 0), (37, .invokevirtual 98, 3, 156, 5, 9), (40, .ifCond .eq 18, 3, 0, 0, 0), (43, .aload_n 0, 1, 0, 0, 0), (44, .bipush 101, 2, 0, 0, 0), (46, .bipush 115, 2, 0, 0, 0)]
noncomputable def cL155_3 : List MI := [(48, .bipush 116, 2, 0, 0, 0), (50, .invokevirtual 102, 3, 157, 4, 9), (53, .ifCond .eq 5, 3, 0, 0, 0), (56, .iconst 1, 1, 0, 0, 0), (57, .ireturn, 1, 0, 0, 0), (58, .aload_n 0, 1, 0, 0, 0), (59, .iconst 5, 1, 0, 0, 0), (60, .bipush 109, 2, 0, 0, 0), (62, .bipush 105, 2, 0, 0, 0)]
noncomputable def cL155_4 : List MI := [(64, .bipush 115, 2, 0, 0, 0), (66, .invokevirtual 98, 3, 156, 5, 9), (69, .ifCond .eq 17, 3, 0, 0, 0), (72, .aload_n 0, 1, 0, 0, 0), (73, .bipush 101, 2, 0, 0, 0), (75, .bipush 114, 2, 0, 0, 0), (77, .iconst 0, 1, 0, 0, 0), (78, .invokevirtual 102, 3, 157, 4, 9)]
noncomputable def cL155_5 : List MI := [(81, .ifCond .eq 5, 3, 0, 0, 0), (84, .iconst 2, 1, 0, 0, 0), (85, .ireturn, 1, 0, 0, 0), (86, .aload_n 0, 1, 0, 0, 0), (87, .iconst 3, 1, 0, 0, 0), (88, .bipush 115, 2, 0, 0, 0), (90, .bipush 112, 2, 0, 0, 0), (92, .bipush 121, 2, 0, 0, 0), (94, .invokevirtual 98, 3, 156, 5, 9)]
noncomputable def cL155_6 : List MI := [(97, .ifCond .eq 5, 3, 0, 0, 0), (100, .iconst 3, 1, 0, 0, 0), (101, .ireturn, 1, 0, 0, 0), (102, .aload_n 0, 1, 0, 0, 0), (103, .iconst 4, 1, 0, 0, 0), (104, .bipush 100, 2, 0, 0, 0), (106, .bipush 111, 2, 0, 0, 0), (108, .bipush 111, 2, 0, 0, 0), (110, .invokevirtual 98, 3, 156, 5, 9)]
noncomputable def cL155_7 : List MI := [(113, .ifCond .eq 16, 3, 0, 0, 0), (116, .aload_n 0, 1, 0, 0, 0), (117, .bipush 114, 2, 0, 0, 0), (119, .iconst 0, 1, 0, 0, 0), (120, .iconst 0, 1, 0, 0, 0), (121, .invokevirtual 102, 3, 157, 4, 9), (124, .ifCond .eq 5, 3, 0, 0, 0), (127, .iconst 4, 1, 0, 0, 0)]
noncomputable def cL155_8 : List MI := [(128, .ireturn, 1, 0, 0, 0), (129, .aload_n 0, 1, 0, 0, 0), (130, .iconst 3, 1, 0, 0, 0), (131, .bipush 110, 2, 0, 0, 0), (133, .bipush 111, 2, 0, 0, 0), (135, .bipush 116, 2, 0, 0, 0), (137, .invokevirtual 98, 3, 156, 5, 9), (140, .ifCond .eq 7, 3, 0, 0, 0), (143, .iconst 5, 1, 0, 0, 0)]
noncomputable def cL155_9 : List MI := [(144, .goto 35, 3, 0, 0, 0), (147, .aload_n 0, 1, 0, 0, 0), (148, .iconst 4, 1, 0, 0, 0), (149, .bipush 112, 2, 0, 0, 0), (151, .bipush 108, 2, 0, 0, 0), (153, .bipush 97, 2, 0, 0, 0), (155, .invokevirtual 98, 3, 156, 5, 9), (158, .ifCond .eq 19, 3, 0, 0, 0)]
noncomputable def cL155_10 : List MI := [(161, .aload_n 0, 1, 0, 0, 0), (162, .bipush 110, 2, 0, 0, 0), (164, .iconst 0, 1, 0, 0, 0), (165, .iconst 0, 1, 0, 0, 0), (166, .invokevirtual 102, 3, 157, 4, 9), (169, .ifCond .eq 8, 3, 0, 0, 0), (172, .bipush 6, 2, 0, 0, 0), (174, .goto 5, 3, 0, 0, 0)]
noncomputable def cL155_11 : List MI := [(177, .bipush (-4), 2, 0, 0, 0), (179, .ireturn, 1, 0, 0, 0)]
noncomputable def cG155_0 : List MI := cL155_0 ++ ( cL155_1 ++ ( cL155_2 ++ ( cL155_3 ++ ( cL155_4 ++ ( cL155_5 ++ ( cL155_6 ++ ( cL155_7 ++ ([]))))))))
noncomputable def cG155_1 : List MI := cL155_8 ++ ( cL155_9 ++ ( cL155_10 ++ ( cL155_11 ++ ([]))))
noncomputable def cL155 : List MI := cG155_0 ++ ( cG155_1 ++ ([]))
/-- DoorPaintsModel.is(IIII)Z -/
noncomputable def cL156_0 : List MI := [(0, .aload_n 0, 1, 0, 0, 0), (1, .getfield 91, 3, 9, 14, 0), (4, .aload_n 0, 1, 0, 0, 0), (5, .getfield 85, 3, 9, 15, 0), (8, .isub, 1, 0, 0, 0), (9, .iload_n 1, 1, 0, 0, 0), (10, .if_icmp .ne 48, 3, 0, 0, 0), (13, .aload_n 0, 1, 0, 0, 0), (14, .aload_n 0, 1, 0, 0, 0), (15, .getfield 85, 3, 9, 15, 0)]
noncomputable def cL156_1 : List MI := [(18, .invokevirtual 94, 3, 152, 2, 9), (21, .iload_n 2, 1, 0, 0, 0), (22, .if_icmp .ne 36, 3, 0, 0, 0), (25, .aload_n 0, 1, 0, 0, 0), (26, .aload_n 0, 1, 0, 0, 0), (27, .getfield 85, 3, 9, 15, 0), (30, .iconst 1, 1, 0, 0, 0), (31, .iadd, 1, 0, 0, 0)]
noncomputable def cL156_2 : List MI := [(32, .invokevirtual 94, 3, 152, 2, 9), (35, .iload_n 3, 1, 0, 0, 0), (36, .if_icmp .ne 22, 3, 0, 0, 0), (39, .aload_n 0, 1, 0, 0, 0), (40, .aload_n 0, 1, 0, 0, 0), (41, .getfield 85, 3, 9, 15, 0), (44, .iconst 2, 1, 0, 0, 0), (45, .iadd, 1, 0, 0, 0), (46, .invokevirtual 94, 3, 152, 2, 9)]
noncomputable def cL156_3 : List MI := [(49, .iload 4, 2, 0, 0, 0), (51, .if_icmp .ne 7, 3, 0, 0, 0), (54, .iconst 1, 1, 0, 0, 0), (55, .goto 4, 3, 0, 0, 0), (58, .iconst 0, 1, 0, 0, 0), (59, .ireturn, 1, 0, 0, 0)]
noncomputable def cG156_0 : List MI := cL156_0 ++ ( cL156_1 ++ ( cL156_2 ++ ( cL156_3 ++ ([]))))
noncomputable def cL156 : List MI := cG156_0 ++ ([])
/-- DoorPaintsModel.ends(III)Z -/
noncomputable def cL157_0 : List MI := [(0, .aload_n 0, 1, 0, 0, 0), (1, .aload_n 0, 1, 0, 0, 0), (2, .getfield 85, 3, 9, 15, 0), (5, .iconst 3, 1, 0, 0, 0), (6, .iadd, 1, 0, 0, 0), (7, .invokevirtual 94, 3, 152, 2, 9), (10, .iload_n 1, 1, 0, 0, 0), (11, .if_icmp .ne 43, 3, 0, 0, 0), (14, .iload_n 2, 1, 0, 0, 0), (15, .ifCond .eq 17, 3, 0, 0, 0)]
noncomputable def cL157_1 : List MI := [(18, .aload_n 0, 1, 0, 0, 0), (19, .aload_n 0, 1, 0, 0, 0), (20, .getfield 85, 3, 9, 15, 0), (23, .iconst 4, 1, 0, 0, 0), (24, .iadd, 1, 0, 0, 0), (25, .invokevirtual 94, 3, 152, 2, 9), (28, .iload_n 2, 1, 0, 0, 0), (29, .if_icmp .ne 25, 3, 0, 0, 0)]
noncomputable def cL157_2 : List MI := [(32, .iload_n 3, 1, 0, 0, 0), (33, .ifCond .eq 17, 3, 0, 0, 0), (36, .aload_n 0, 1, 0, 0, 0), (37, .aload_n 0, 1, 0, 0, 0), (38, .getfield 85, 3, 9, 15, 0), (41, .iconst 5, 1, 0, 0, 0), (42, .iadd, 1, 0, 0, 0), (43, .invokevirtual 94, 3, 152, 2, 9), (46, .iload_n 3, 1, 0, 0, 0), (47, .if_icmp .ne 7, 3, 0, 0, 0)]
noncomputable def cL157_3 : List MI := [(50, .iconst 1, 1, 0, 0, 0), (51, .goto 4, 3, 0, 0, 0), (54, .iconst 0, 1, 0, 0, 0), (55, .ireturn, 1, 0, 0, 0)]
noncomputable def cG157_0 : List MI := cL157_0 ++ ( cL157_1 ++ ( cL157_2 ++ ( cL157_3 ++ ([]))))
noncomputable def cL157 : List MI := cG157_0 ++ ([])
/-- DoorPaintsModel.readLineOf(I)V -/
noncomputable def cL158_0 : List MI := [(0, .iload_n 1, 1, 0, 0, 0), (1, .tableswitch 48 4 6 #[27, 34, 41], 27, 0, 0, 0)]
noncomputable def cL158_1 : List MI := [(28, .aload_n 0, 1, 0, 0, 0), (29, .invokevirtual 144, 3, 159, 1, 9)]
noncomputable def cL158_2 : List MI := [(32, .goto 22, 3, 0, 0, 0), (35, .aload_n 0, 1, 0, 0, 0), (36, .invokevirtual 147, 3, 162, 1, 9), (39, .goto 15, 3, 0, 0, 0), (42, .aload_n 0, 1, 0, 0, 0), (43, .invokevirtual 150, 3, 163, 1, 9), (46, .goto 8, 3, 0, 0, 0)]
noncomputable def cL158_3 : List MI := [(49, .aload_n 0, 1, 0, 0, 0), (50, .iload_n 1, 1, 0, 0, 0), (51, .invokevirtual 153, 3, 165, 2, 9), (54, .return_, 1, 0, 0, 0)]
noncomputable def cG158_0 : List MI := cL158_0 ++ ( cL158_1 ++ ( cL158_2 ++ ( cL158_3 ++ ([]))))
noncomputable def cL158 : List MI := cG158_0 ++ ([])
/-- DoorPaintsModel.readDoor()V -/
noncomputable def cL159_0 : List MI := [(0, .bipush 16, 2, 0, 0, 0), (2, .bipush 9, 2, 0, 0, 0), (4, .aload_n 0, 1, 0, 0, 0), (5, .getfield 54, 3, 9, 7, 0), (8, .imul, 1, 0, 0, 0), (9, .iadd, 1, 0, 0, 0), (10, .istore_n 1, 1, 0, 0, 0), (11, .aload_n 0, 1, 0, 0, 0), (12, .getfield 82, 3, 9, 18, 0), (15, .ifCond .ne 81, 3, 0, 0, 0)]
noncomputable def cL159_1 : List MI := [(18, .aload_n 0, 1, 0, 0, 0), (19, .getfield 106, 3, 9, 16, 0), (22, .iconst 2, 1, 0, 0, 0), (23, .if_icmp .ne 73, 3, 0, 0, 0), (26, .aload_n 0, 1, 0, 0, 0), (27, .aload_n 0, 1, 0, 0, 0), (28, .getfield 20, 3, 9, 5, 0), (31, .iload_n 1, 1, 0, 0, 0)]
noncomputable def cL159_2 : List MI := [(32, .iconst 0, 1, 0, 0, 0), (33, .iadd, 1, 0, 0, 0), (34, .iaload, 1, 0, 0, 0), (35, .bipush 6, 2, 0, 0, 0), (37, .if_icmp .ge 7, 3, 0, 0, 0), (40, .iconst 1, 1, 0, 0, 0), (41, .goto 4, 3, 0, 0, 0), (44, .iconst 0, 1, 0, 0, 0), (45, .iconst 5, 1, 0, 0, 0), (46, .invokevirtual 120, 3, 153, 3, 9)]
noncomputable def cL159_3 : List MI := [(49, .aload_n 0, 1, 0, 0, 0), (50, .iconst 0, 1, 0, 0, 0), (51, .iconst 5, 1, 0, 0, 0), (52, .invokevirtual 131, 3, 160, 3, 9), (55, .istore_n 2, 1, 0, 0, 0), (56, .aload_n 0, 1, 0, 0, 0), (57, .getfield 82, 3, 9, 18, 0), (60, .ifCond .ne 33, 3, 0, 0, 0), (63, .aload_n 0, 1, 0, 0, 0)]
noncomputable def cL159_4 : List MI := [(64, .getfield 20, 3, 9, 5, 0), (67, .iload_n 1, 1, 0, 0, 0), (68, .iconst 3, 1, 0, 0, 0), (69, .iadd, 1, 0, 0, 0), (70, .aload_n 0, 1, 0, 0, 0), (71, .getfield 20, 3, 9, 5, 0), (74, .iload_n 1, 1, 0, 0, 0), (75, .iconst 0, 1, 0, 0, 0), (76, .iadd, 1, 0, 0, 0), (77, .iaload, 1, 0, 0, 0), (78, .iadd, 1, 0, 0, 0), (79, .iload_n 2, 1, 0, 0, 0)]
noncomputable def cL159_5 : List MI := [(80, .iastore, 1, 0, 0, 0), (81, .aload_n 0, 1, 0, 0, 0), (82, .getfield 20, 3, 9, 5, 0), (85, .iload_n 1, 1, 0, 0, 0), (86, .iconst 0, 1, 0, 0, 0), (87, .iadd, 1, 0, 0, 0), (88, .dup2, 1, 0, 0, 0), (89, .iaload, 1, 0, 0, 0), (90, .iconst 1, 1, 0, 0, 0), (91, .iadd, 1, 0, 0, 0), (92, .iastore, 1, 0, 0, 0), (93, .goto (-82), 3, 0, 0, 0)]
noncomputable def cL159_6 : List MI := [(96, .aload_n 0, 1, 0, 0, 0), (97, .dup, 1, 0, 0, 0), (98, .getfield 54, 3, 9, 7, 0), (101, .iconst 1, 1, 0, 0, 0), (102, .iadd, 1, 0, 0, 0), (103, .putfield 54, 3, 9, 7, 0), (106, .return_, 1, 0, 0, 0)]
noncomputable def cG159_0 : List MI := cL159_0 ++ ( cL159_1 ++ ( cL159_2 ++ ( cL159_3 ++ ( cL159_4 ++ ( cL159_5 ++ ( cL159_6 ++ ([])))))))
noncomputable def cL159 : List MI := cG159_0 ++ ([])
/-- DoorPaintsModel.readNumber(II)I -/
noncomputable def cL160_0 : List MI := [(0, .aload_n 0, 1, 0, 0, 0), (1, .iload_n 1, 1, 0, 0, 0), (2, .iload_n 2, 1, 0, 0, 0), (3, .invokevirtual 124, 3, 161, 3, 9), (6, .istore_n 3, 1, 0, 0, 0), (7, .aload_n 0, 1, 0, 0, 0), (8, .invokevirtual 128, 3, 151, 1, 9), (11, .iload_n 3, 1, 0, 0, 0), (12, .ireturn, 1, 0, 0, 0)]
noncomputable def cG160_0 : List MI := cL160_0 ++ ([])
noncomputable def cL160 : List MI := cG160_0 ++ ([])
/-- DoorPaintsModel.looked(II)I -/
noncomputable def cL161_0 : List MI := [(0, .aload_n 0, 1, 0, 0, 0), (1, .getfield 82, 3, 9, 18, 0), (4, .ifCond .ne 21, 3, 0, 0, 0), (7, .aload_n 0, 1, 0, 0, 0), (8, .aload_n 0, 1, 0, 0, 0), (9, .getfield 106, 3, 9, 16, 0), (12, .iconst 2, 1, 0, 0, 0), (13, .if_icmp .ne 7, 3, 0, 0, 0)]
noncomputable def cL161_1 : List MI := [(16, .iconst 1, 1, 0, 0, 0), (17, .goto 4, 3, 0, 0, 0), (20, .iconst 0, 1, 0, 0, 0), (21, .iconst 2, 1, 0, 0, 0), (22, .invokevirtual 120, 3, 153, 3, 9), (25, .aload_n 0, 1, 0, 0, 0), (26, .getfield 82, 3, 9, 18, 0), (29, .ifCond .ne 20, 3, 0, 0, 0)]
noncomputable def cL161_2 : List MI := [(32, .aload_n 0, 1, 0, 0, 0), (33, .aload_n 0, 1, 0, 0, 0), (34, .getfield 117, 3, 9, 17, 0), (37, .i2l, 1, 0, 0, 0), (38, .iload_n 1, 1, 0, 0, 0), (39, .i2l, 1, 0, 0, 0), (40, .iload_n 2, 1, 0, 0, 0), (41, .i2l, 1, 0, 0, 0), (42, .invokestatic 75, 3, 148, 3, 0), (45, .iconst 3, 1, 0, 0, 0), (46, .invokevirtual 120, 3, 153, 3, 9)]
noncomputable def cL161_3 : List MI := [(49, .aload_n 0, 1, 0, 0, 0), (50, .getfield 82, 3, 9, 18, 0), (53, .ifCond .ne 10, 3, 0, 0, 0), (56, .aload_n 0, 1, 0, 0, 0), (57, .getfield 117, 3, 9, 17, 0), (60, .goto 4, 3, 0, 0, 0), (63, .iconst 0, 1, 0, 0, 0)]
noncomputable def cL161_4 : List MI := [(64, .ireturn, 1, 0, 0, 0)]
noncomputable def cG161_0 : List MI := cL161_0 ++ ( cL161_1 ++ ( cL161_2 ++ ( cL161_3 ++ ( cL161_4 ++ ([])))))
noncomputable def cL161 : List MI := cG161_0 ++ ([])
/-- DoorPaintsModel.readNot()V -/
noncomputable def cL162_0 : List MI := [(0, .aload_n 0, 1, 0, 0, 0), (1, .iconst 0, 1, 0, 0, 0), (2, .iconst 3, 1, 0, 0, 0), (3, .invokevirtual 131, 3, 160, 3, 9), (6, .istore_n 1, 1, 0, 0, 0), (7, .aload_n 0, 1, 0, 0, 0), (8, .aload_n 0, 1, 0, 0, 0), (9, .getfield 82, 3, 9, 18, 0), (12, .ifCond .ne 15, 3, 0, 0, 0), (15, .iload_n 1, 1, 0, 0, 0)]
noncomputable def cL162_1 : List MI := [(16, .aload_n 0, 1, 0, 0, 0), (17, .getfield 64, 3, 9, 10, 0), (20, .if_icmp .le 7, 3, 0, 0, 0), (23, .iload_n 1, 1, 0, 0, 0), (24, .goto 7, 3, 0, 0, 0), (27, .aload_n 0, 1, 0, 0, 0), (28, .getfield 64, 3, 9, 10, 0), (31, .putfield 64, 3, 9, 10, 0)]
noncomputable def cL162_2 : List MI := [(34, .aload_n 0, 1, 0, 0, 0), (35, .iconst 0, 1, 0, 0, 0), (36, .iconst 5, 1, 0, 0, 0), (37, .invokevirtual 124, 3, 161, 3, 9), (40, .istore_n 2, 1, 0, 0, 0), (41, .aload_n 0, 1, 0, 0, 0), (42, .getfield 82, 3, 9, 18, 0), (45, .ifCond .ne 38, 3, 0, 0, 0)]
noncomputable def cL162_3 : List MI := [(48, .aload_n 0, 1, 0, 0, 0), (49, .aload_n 0, 1, 0, 0, 0), (50, .getfield 23, 3, 9, 11, 0), (53, .iload_n 1, 1, 0, 0, 0), (54, .iaload, 1, 0, 0, 0), (55, .iload_n 2, 1, 0, 0, 0), (56, .ishr, 1, 0, 0, 0), (57, .iconst 1, 1, 0, 0, 0), (58, .iand, 1, 0, 0, 0), (59, .ifCond .ne 7, 3, 0, 0, 0), (62, .iconst 1, 1, 0, 0, 0), (63, .goto 4, 3, 0, 0, 0)]
noncomputable def cL162_4 : List MI := [(66, .iconst 0, 1, 0, 0, 0), (67, .iconst 4, 1, 0, 0, 0), (68, .invokevirtual 120, 3, 153, 3, 9), (71, .aload_n 0, 1, 0, 0, 0), (72, .getfield 23, 3, 9, 11, 0), (75, .iload_n 1, 1, 0, 0, 0), (76, .dup2, 1, 0, 0, 0), (77, .iaload, 1, 0, 0, 0), (78, .iconst 1, 1, 0, 0, 0), (79, .iload_n 2, 1, 0, 0, 0)]
noncomputable def cL162_5 : List MI := [(80, .ishl, 1, 0, 0, 0), (81, .ior, 1, 0, 0, 0), (82, .iastore, 1, 0, 0, 0), (83, .aload_n 0, 1, 0, 0, 0), (84, .invokevirtual 128, 3, 151, 1, 9), (87, .return_, 1, 0, 0, 0)]
noncomputable def cG162_0 : List MI := cL162_0 ++ ( cL162_1 ++ ( cL162_2 ++ ( cL162_3 ++ ( cL162_4 ++ ( cL162_5 ++ ([]))))))
noncomputable def cL162 : List MI := cG162_0 ++ ([])
/-- DoorPaintsModel.readPlan()V -/
noncomputable def cL163_0 : List MI := [(0, .aload_n 0, 1, 0, 0, 0), (1, .getfield 82, 3, 9, 18, 0), (4, .ifCond .ne 178, 3, 0, 0, 0), (7, .aload_n 0, 1, 0, 0, 0), (8, .getfield 106, 3, 9, 16, 0), (11, .iconst 2, 1, 0, 0, 0), (12, .if_icmp .ne 170, 3, 0, 0, 0), (15, .aload_n 0, 1, 0, 0, 0)]
noncomputable def cL163_1 : List MI := [(16, .aload_n 0, 1, 0, 0, 0), (17, .getfield 20, 3, 9, 5, 0), (20, .bipush 52, 2, 0, 0, 0), (22, .iaload, 1, 0, 0, 0), (23, .bipush 8, 2, 0, 0, 0), (25, .if_icmp .ge 7, 3, 0, 0, 0), (28, .iconst 1, 1, 0, 0, 0), (29, .goto 4, 3, 0, 0, 0)]
noncomputable def cL163_2 : List MI := [(32, .iconst 0, 1, 0, 0, 0), (33, .iconst 5, 1, 0, 0, 0), (34, .invokevirtual 120, 3, 153, 3, 9), (37, .aload_n 0, 1, 0, 0, 0), (38, .getfield 82, 3, 9, 18, 0), (41, .ifCond .ne 15, 3, 0, 0, 0), (44, .aload_n 0, 1, 0, 0, 0), (45, .aload_n 0, 1, 0, 0, 0), (46, .getfield 117, 3, 9, 17, 0)]
noncomputable def cL163_3 : List MI := [(49, .invokestatic 140, 3, 164, 1, 0), (52, .iconst 3, 1, 0, 0, 0), (53, .invokevirtual 120, 3, 153, 3, 9), (56, .aload_n 0, 1, 0, 0, 0), (57, .getfield 82, 3, 9, 18, 0), (60, .ifCond .ne 115, 3, 0, 0, 0), (63, .aload_n 0, 1, 0, 0, 0)]
noncomputable def cL163_4 : List MI := [(64, .getfield 20, 3, 9, 5, 0), (67, .bipush 53, 2, 0, 0, 0), (69, .aload_n 0, 1, 0, 0, 0), (70, .getfield 20, 3, 9, 5, 0), (73, .bipush 52, 2, 0, 0, 0), (75, .iaload, 1, 0, 0, 0), (76, .iadd, 1, 0, 0, 0), (77, .aload_n 0, 1, 0, 0, 0), (78, .getfield 117, 3, 9, 17, 0)]
noncomputable def cL163_5 : List MI := [(81, .iastore, 1, 0, 0, 0), (82, .aload_n 0, 1, 0, 0, 0), (83, .getfield 20, 3, 9, 5, 0), (86, .bipush 52, 2, 0, 0, 0), (88, .dup2, 1, 0, 0, 0), (89, .iaload, 1, 0, 0, 0), (90, .iconst 1, 1, 0, 0, 0), (91, .iadd, 1, 0, 0, 0), (92, .iastore, 1, 0, 0, 0), (93, .aload_n 0, 1, 0, 0, 0), (94, .aload_n 0, 1, 0, 0, 0), (95, .getfield 117, 3, 9, 17, 0)]
noncomputable def cL163_6 : List MI := [(98, .bipush 90, 2, 0, 0, 0), (100, .if_icmp .ge 27, 3, 0, 0, 0), (103, .aload_n 0, 1, 0, 0, 0), (104, .getfield 117, 3, 9, 17, 0), (107, .bipush 10, 2, 0, 0, 0), (109, .idiv, 1, 0, 0, 0), (110, .aload_n 0, 1, 0, 0, 0), (111, .getfield 61, 3, 9, 9, 0)]
noncomputable def cL163_7 : List MI := [(114, .if_icmp .le 13, 3, 0, 0, 0), (117, .aload_n 0, 1, 0, 0, 0), (118, .getfield 117, 3, 9, 17, 0), (121, .bipush 10, 2, 0, 0, 0), (123, .idiv, 1, 0, 0, 0), (124, .goto 7, 3, 0, 0, 0), (127, .aload_n 0, 1, 0, 0, 0)]
noncomputable def cL163_8 : List MI := [(128, .getfield 61, 3, 9, 9, 0), (131, .putfield 61, 3, 9, 9, 0), (134, .aload_n 0, 1, 0, 0, 0), (135, .aload_n 0, 1, 0, 0, 0), (136, .getfield 117, 3, 9, 17, 0), (139, .bipush 90, 2, 0, 0, 0), (141, .if_icmp .ge 27, 3, 0, 0, 0)]
noncomputable def cL163_9 : List MI := [(144, .aload_n 0, 1, 0, 0, 0), (145, .getfield 117, 3, 9, 17, 0), (148, .bipush 10, 2, 0, 0, 0), (150, .irem, 1, 0, 0, 0), (151, .aload_n 0, 1, 0, 0, 0), (152, .getfield 64, 3, 9, 10, 0), (155, .if_icmp .le 13, 3, 0, 0, 0), (158, .aload_n 0, 1, 0, 0, 0), (159, .getfield 117, 3, 9, 17, 0)]
noncomputable def cL163_10 : List MI := [(162, .bipush 10, 2, 0, 0, 0), (164, .irem, 1, 0, 0, 0), (165, .goto 7, 3, 0, 0, 0), (168, .aload_n 0, 1, 0, 0, 0), (169, .getfield 64, 3, 9, 10, 0), (172, .putfield 64, 3, 9, 10, 0), (175, .aload_n 0, 1, 0, 0, 0)]
noncomputable def cL163_11 : List MI := [(176, .invokevirtual 128, 3, 151, 1, 9), (179, .goto (-179), 3, 0, 0, 0), (182, .return_, 1, 0, 0, 0)]
noncomputable def cG163_0 : List MI := cL163_0 ++ ( cL163_1 ++ ( cL163_2 ++ ( cL163_3 ++ ( cL163_4 ++ ( cL163_5 ++ ( cL163_6 ++ ( cL163_7 ++ ([]))))))))
noncomputable def cG163_1 : List MI := cL163_8 ++ ( cL163_9 ++ ( cL163_10 ++ ( cL163_11 ++ ([]))))
noncomputable def cL163 : List MI := cG163_0 ++ ( cG163_1 ++ ([]))
/-- DoorPaintsModel.isActLike(I)Z -/
noncomputable def cL164_0 : List MI := [(0, .iload_n 0, 1, 0, 0, 0), (1, .i2l, 1, 0, 0, 0), (2, .ldc2_w 134, 3, 0, 0, 90), (5, .ldc2_w 136, 3, 0, 0, 92), (8, .invokestatic 75, 3, 148, 3, 0), (11, .ifCond .ne 26, 3, 0, 0, 0), (14, .iload_n 0, 1, 0, 0, 0), (15, .bipush 10, 2, 0, 0, 0)]
noncomputable def cL164_1 : List MI := [(17, .idiv, 1, 0, 0, 0), (18, .i2l, 1, 0, 0, 0), (19, .lconst 0, 1, 0, 0, 0), (20, .ldc2_w 138, 3, 0, 0, 3), (23, .invokestatic 75, 3, 148, 3, 0), (26, .ifCond .eq 15, 3, 0, 0, 0), (29, .iload_n 0, 1, 0, 0, 0), (30, .bipush 10, 2, 0, 0, 0)]
noncomputable def cL164_2 : List MI := [(32, .irem, 1, 0, 0, 0), (33, .iconst 4, 1, 0, 0, 0), (34, .if_icmp .ge 7, 3, 0, 0, 0), (37, .iconst 1, 1, 0, 0, 0), (38, .goto 4, 3, 0, 0, 0), (41, .iconst 0, 1, 0, 0, 0), (42, .ireturn, 1, 0, 0, 0)]
noncomputable def cG164_0 : List MI := cL164_0 ++ ( cL164_1 ++ ( cL164_2 ++ ([])))
noncomputable def cL164 : List MI := cG164_0 ++ ([])
/-- DoorPaintsModel.readVisitor(I)V -/
noncomputable def cL165_0 : List MI := [(0, .iconst 4, 1, 0, 0, 0), (1, .aload_n 0, 1, 0, 0, 0), (2, .getfield 50, 3, 9, 6, 0), (5, .imul, 1, 0, 0, 0), (6, .istore_n 2, 1, 0, 0, 0), (7, .aload_n 0, 1, 0, 0, 0), (8, .getfield 20, 3, 9, 5, 0), (11, .iload_n 2, 1, 0, 0, 0), (12, .iconst 0, 1, 0, 0, 0), (13, .iadd, 1, 0, 0, 0), (14, .iload_n 1, 1, 0, 0, 0), (15, .iastore, 1, 0, 0, 0)]
noncomputable def cL165_1 : List MI := [(16, .aload_n 0, 1, 0, 0, 0), (17, .getfield 20, 3, 9, 5, 0), (20, .iload_n 2, 1, 0, 0, 0), (21, .iconst 1, 1, 0, 0, 0), (22, .iadd, 1, 0, 0, 0), (23, .aload_n 0, 1, 0, 0, 0), (24, .iconst 0, 1, 0, 0, 0), (25, .iconst 5, 1, 0, 0, 0), (26, .invokevirtual 131, 3, 160, 3, 9), (29, .iastore, 1, 0, 0, 0), (30, .aload_n 0, 1, 0, 0, 0), (31, .getfield 20, 3, 9, 5, 0)]
noncomputable def cL165_2 : List MI := [(34, .iload_n 2, 1, 0, 0, 0), (35, .iconst 2, 1, 0, 0, 0), (36, .iadd, 1, 0, 0, 0), (37, .aload_n 0, 1, 0, 0, 0), (38, .iconst 0, 1, 0, 0, 0), (39, .bipush 99, 2, 0, 0, 0), (41, .invokevirtual 131, 3, 160, 3, 9), (44, .iastore, 1, 0, 0, 0), (45, .aload_n 0, 1, 0, 0, 0), (46, .dup, 1, 0, 0, 0), (47, .getfield 50, 3, 9, 6, 0)]
noncomputable def cL165_3 : List MI := [(50, .iconst 1, 1, 0, 0, 0), (51, .iadd, 1, 0, 0, 0), (52, .putfield 50, 3, 9, 6, 0), (55, .return_, 1, 0, 0, 0)]
noncomputable def cG165_0 : List MI := cL165_0 ++ ( cL165_1 ++ ( cL165_2 ++ ( cL165_3 ++ ([]))))
noncomputable def cL165 : List MI := cG165_0 ++ ([])
/-- DoorPaintsModel.fault()I -/
noncomputable def cL166_0 : List MI := [(0, .aload_n 0, 1, 0, 0, 0), (1, .getfield 82, 3, 9, 18, 0), (4, .ireturn, 1, 0, 0, 0)]
noncomputable def cG166_0 : List MI := cL166_0 ++ ([])
noncomputable def cL166 : List MI := cG166_0 ++ ([])
/-- DoorPaintsModel.rule(I)I -/
noncomputable def cL167_0 : List MI := [(0, .aload_n 0, 1, 0, 0, 0), (1, .invokevirtual 232, 3, 168, 1, 9), (4, .iconst 0, 1, 0, 0, 0), (5, .istore_n 2, 1, 0, 0, 0), (6, .iconst 0, 1, 0, 0, 0), (7, .istore_n 3, 1, 0, 0, 0), (8, .iconst 0, 1, 0, 0, 0), (9, .istore 4, 2, 0, 0, 0), (11, .iload 4, 2, 0, 0, 0), (13, .aload_n 0, 1, 0, 0, 0), (14, .getfield 70, 3, 9, 4, 0)]
noncomputable def cL167_1 : List MI := [(17, .if_icmp .ge 22, 3, 0, 0, 0), (20, .iload_n 2, 1, 0, 0, 0), (21, .aload_n 0, 1, 0, 0, 0), (22, .iload 4, 2, 0, 0, 0), (24, .iconst 1, 1, 0, 0, 0), (25, .invokevirtual 176, 3, 169, 3, 9), (28, .iload 4, 2, 0, 0, 0), (30, .ishl, 1, 0, 0, 0), (31, .ior, 1, 0, 0, 0)]
noncomputable def cL167_2 : List MI := [(32, .istore_n 2, 1, 0, 0, 0), (33, .iinc 4 1, 3, 0, 0, 0), (36, .goto (-25), 3, 0, 0, 0), (39, .iconst 0, 1, 0, 0, 0), (40, .istore 4, 2, 0, 0, 0), (42, .iload 4, 2, 0, 0, 0), (44, .aload_n 0, 1, 0, 0, 0), (45, .getfield 67, 3, 9, 3, 0)]
noncomputable def cL167_3 : List MI := [(48, .if_icmp .ge 19, 3, 0, 0, 0), (51, .iload_n 3, 1, 0, 0, 0), (52, .aload_n 0, 1, 0, 0, 0), (53, .iload 4, 2, 0, 0, 0), (55, .iconst 2, 1, 0, 0, 0), (56, .invokevirtual 182, 3, 170, 3, 9), (59, .iadd, 1, 0, 0, 0), (60, .istore_n 3, 1, 0, 0, 0), (61, .iinc 4 1, 3, 0, 0, 0)]
noncomputable def cL167_4 : List MI := [(64, .goto (-22), 3, 0, 0, 0), (67, .iload_n 1, 1, 0, 0, 0), (68, .tableswitch 67 0 5 #[40, 45, 50, 58, 60, 65], 40, 0, 0, 0)]
noncomputable def cL167_5 : List MI := []
noncomputable def cL167_6 : List MI := [(108, .aload_n 0, 1, 0, 0, 0), (109, .getfield 67, 3, 9, 3, 0)]
noncomputable def cL167_7 : List MI := [(112, .ireturn, 1, 0, 0, 0), (113, .aload_n 0, 1, 0, 0, 0), (114, .getfield 70, 3, 9, 4, 0), (117, .ireturn, 1, 0, 0, 0), (118, .aload_n 0, 1, 0, 0, 0), (119, .getfield 7, 3, 9, 0, 0), (122, .bipush 52, 2, 0, 0, 0), (124, .iaload, 1, 0, 0, 0), (125, .ireturn, 1, 0, 0, 0), (126, .iload_n 2, 1, 0, 0, 0), (127, .ireturn, 1, 0, 0, 0)]
noncomputable def cL167_8 : List MI := [(128, .aload_n 0, 1, 0, 0, 0), (129, .invokevirtual 235, 3, 171, 1, 9), (132, .ireturn, 1, 0, 0, 0), (133, .iload_n 3, 1, 0, 0, 0), (134, .ireturn, 1, 0, 0, 0), (135, .iconst (-1), 1, 0, 0, 0), (136, .ireturn, 1, 0, 0, 0)]
noncomputable def cG167_0 : List MI := cL167_0 ++ ( cL167_1 ++ ( cL167_2 ++ ( cL167_3 ++ ( cL167_4 ++ ( cL167_5 ++ ( cL167_6 ++ ( cL167_7 ++ ([]))))))))
noncomputable def cG167_1 : List MI := cL167_8 ++ ([])
noncomputable def cL167 : List MI := cG167_0 ++ ( cG167_1 ++ ([]))
/-- DoorPaintsModel.starts()V -/
noncomputable def cL168_0 : List MI := [(0, .iconst 0, 1, 0, 0, 0), (1, .istore_n 1, 1, 0, 0, 0), (2, .iload_n 1, 1, 0, 0, 0), (3, .bipush 80, 2, 0, 0, 0), (5, .if_icmp .ge 21, 3, 0, 0, 0), (8, .aload_n 0, 1, 0, 0, 0), (9, .getfield 13, 3, 9, 1, 0), (12, .iload_n 1, 1, 0, 0, 0), (13, .aload_n 0, 1, 0, 0, 0), (14, .getfield 7, 3, 9, 0, 0)]
noncomputable def cL168_1 : List MI := [(17, .iload_n 1, 1, 0, 0, 0), (18, .iaload, 1, 0, 0, 0), (19, .iastore, 1, 0, 0, 0), (20, .iinc 1 1, 3, 0, 0, 0), (23, .goto (-21), 3, 0, 0, 0), (26, .aload_n 0, 1, 0, 0, 0), (27, .bipush (-4), 2, 0, 0, 0), (29, .putfield 173, 3, 9, 20, 0)]
noncomputable def cL168_2 : List MI := [(32, .return_, 1, 0, 0, 0)]
noncomputable def cG168_0 : List MI := cL168_0 ++ ( cL168_1 ++ ( cL168_2 ++ ([])))
noncomputable def cL168 : List MI := cG168_0 ++ ([])
/-- DoorPaintsModel.ofDoor(II)I -/
noncomputable def cL169_0 : List MI := [(0, .aload_n 0, 1, 0, 0, 0), (1, .getfield 13, 3, 9, 1, 0), (4, .bipush 16, 2, 0, 0, 0), (6, .bipush 9, 2, 0, 0, 0), (8, .iload_n 1, 1, 0, 0, 0), (9, .imul, 1, 0, 0, 0), (10, .iadd, 1, 0, 0, 0), (11, .iload_n 2, 1, 0, 0, 0), (12, .iadd, 1, 0, 0, 0), (13, .iaload, 1, 0, 0, 0), (14, .ireturn, 1, 0, 0, 0)]
noncomputable def cG169_0 : List MI := cL169_0 ++ ([])
noncomputable def cL169 : List MI := cG169_0 ++ ([])
/-- DoorPaintsModel.of(II)I -/
noncomputable def cL170_0 : List MI := [(0, .aload_n 0, 1, 0, 0, 0), (1, .getfield 13, 3, 9, 1, 0), (4, .iconst 4, 1, 0, 0, 0), (5, .iload_n 1, 1, 0, 0, 0), (6, .imul, 1, 0, 0, 0), (7, .iload_n 2, 1, 0, 0, 0), (8, .iadd, 1, 0, 0, 0), (9, .iaload, 1, 0, 0, 0), (10, .ireturn, 1, 0, 0, 0)]
noncomputable def cG170_0 : List MI := cL170_0 ++ ([])
noncomputable def cL170 : List MI := cG170_0 ++ ([])
/-- DoorPaintsModel.wrong()I -/
noncomputable def cL171_0 : List MI := [(0, .iconst 0, 1, 0, 0, 0), (1, .istore_n 1, 1, 0, 0, 0), (2, .iconst 0, 1, 0, 0, 0), (3, .istore_n 2, 1, 0, 0, 0), (4, .iload_n 2, 1, 0, 0, 0), (5, .aload_n 0, 1, 0, 0, 0), (6, .getfield 70, 3, 9, 4, 0), (9, .if_icmp .ge 22, 3, 0, 0, 0), (12, .iload_n 1, 1, 0, 0, 0), (13, .aload_n 0, 1, 0, 0, 0), (14, .iload_n 2, 1, 0, 0, 0), (15, .invokevirtual 225, 3, 172, 2, 9)]
noncomputable def cL171_1 : List MI := [(18, .invokestatic 228, 3, 175, 1, 0), (21, .iload_n 2, 1, 0, 0, 0), (22, .ishl, 1, 0, 0, 0), (23, .ior, 1, 0, 0, 0), (24, .istore_n 1, 1, 0, 0, 0), (25, .iinc 2 1, 3, 0, 0, 0), (28, .goto (-24), 3, 0, 0, 0), (31, .iload_n 1, 1, 0, 0, 0)]
noncomputable def cL171_2 : List MI := [(32, .ireturn, 1, 0, 0, 0)]
noncomputable def cG171_0 : List MI := cL171_0 ++ ( cL171_1 ++ ( cL171_2 ++ ([])))
noncomputable def cL171 : List MI := cG171_0 ++ ([])
/-- DoorPaintsModel.isWrong(I)Z -/
noncomputable def cL172_0 : List MI := [(0, .aload_n 0, 1, 0, 0, 0), (1, .iload_n 1, 1, 0, 0, 0), (2, .invokevirtual 194, 3, 173, 2, 9), (5, .bipush (-4), 2, 0, 0, 0), (7, .if_icmp .eq 25, 3, 0, 0, 0), (10, .aload_n 0, 1, 0, 0, 0), (11, .iload_n 1, 1, 0, 0, 0), (12, .iconst 2, 1, 0, 0, 0), (13, .invokevirtual 176, 3, 169, 3, 9)]
noncomputable def cL172_1 : List MI := [(16, .aload_n 0, 1, 0, 0, 0), (17, .iload_n 1, 1, 0, 0, 0), (18, .invokevirtual 194, 3, 173, 2, 9), (21, .ishr, 1, 0, 0, 0), (22, .iconst 1, 1, 0, 0, 0), (23, .iand, 1, 0, 0, 0), (24, .iconst 1, 1, 0, 0, 0), (25, .if_icmp .ne 7, 3, 0, 0, 0), (28, .iconst 1, 1, 0, 0, 0), (29, .goto 4, 3, 0, 0, 0)]
noncomputable def cL172_2 : List MI := [(32, .iconst 0, 1, 0, 0, 0), (33, .ireturn, 1, 0, 0, 0)]
noncomputable def cG172_0 : List MI := cL172_0 ++ ( cL172_1 ++ ( cL172_2 ++ ([])))
noncomputable def cL172 : List MI := cG172_0 ++ ([])
/-- DoorPaintsModel.showsOf(I)I -/
noncomputable def cL173_0 : List MI := [(0, .aload_n 0, 1, 0, 0, 0), (1, .iload_n 1, 1, 0, 0, 0), (2, .iconst 0, 1, 0, 0, 0), (3, .invokevirtual 176, 3, 169, 3, 9), (6, .ifCond .ne 8, 3, 0, 0, 0), (9, .bipush (-4), 2, 0, 0, 0), (11, .goto 16, 3, 0, 0, 0), (14, .aload_n 0, 1, 0, 0, 0), (15, .iload_n 1, 1, 0, 0, 0)]
noncomputable def cL173_1 : List MI := [(16, .aload_n 0, 1, 0, 0, 0), (17, .iload_n 1, 1, 0, 0, 0), (18, .iconst 0, 1, 0, 0, 0), (19, .invokevirtual 176, 3, 169, 3, 9), (22, .iconst 1, 1, 0, 0, 0), (23, .isub, 1, 0, 0, 0), (24, .invokevirtual 179, 3, 174, 3, 9), (27, .ireturn, 1, 0, 0, 0)]
noncomputable def cG173_0 : List MI := cL173_0 ++ ( cL173_1 ++ ([]))
noncomputable def cL173 : List MI := cG173_0 ++ ([])
/-- DoorPaintsModel.layerOf(II)I -/
noncomputable def cL174_0 : List MI := [(0, .aload_n 0, 1, 0, 0, 0), (1, .iload_n 1, 1, 0, 0, 0), (2, .iconst 3, 1, 0, 0, 0), (3, .iload_n 2, 1, 0, 0, 0), (4, .iadd, 1, 0, 0, 0), (5, .invokevirtual 176, 3, 169, 3, 9), (8, .ireturn, 1, 0, 0, 0)]
noncomputable def cG174_0 : List MI := cL174_0 ++ ([])
noncomputable def cL174 : List MI := cG174_0 ++ ([])
/-- DoorPaintsModel.flag(Z)I -/
noncomputable def cL175_0 : List MI := [(0, .iload_n 0, 1, 0, 0, 0), (1, .ifCond .eq 7, 3, 0, 0, 0), (4, .iconst 1, 1, 0, 0, 0), (5, .goto 4, 3, 0, 0, 0), (8, .iconst 0, 1, 0, 0, 0), (9, .ireturn, 1, 0, 0, 0)]
noncomputable def cG175_0 : List MI := cL175_0 ++ ([])
noncomputable def cL175 : List MI := cG175_0 ++ ([])
/-- DoorPaintsModel.visitor(II)I -/
noncomputable def cL176_0 : List MI := [(0, .aload_n 0, 1, 0, 0, 0), (1, .iload_n 1, 1, 0, 0, 0), (2, .invokevirtual 167, 3, 177, 2, 9), (5, .ifCond .eq 15, 3, 0, 0, 0), (8, .iload_n 2, 1, 0, 0, 0), (9, .i2l, 1, 0, 0, 0), (10, .lconst 0, 1, 0, 0, 0), (11, .ldc2_w 238, 3, 0, 0, 4), (14, .invokestatic 75, 3, 148, 3, 0)]
noncomputable def cL176_1 : List MI := [(17, .ifCond .ne 5, 3, 0, 0, 0), (20, .iconst (-1), 1, 0, 0, 0), (21, .ireturn, 1, 0, 0, 0), (22, .aload_n 0, 1, 0, 0, 0), (23, .invokevirtual 232, 3, 168, 1, 9), (26, .iload_n 2, 1, 0, 0, 0), (27, .iconst 4, 1, 0, 0, 0), (28, .if_icmp .ge 12, 3, 0, 0, 0), (31, .aload_n 0, 1, 0, 0, 0)]
noncomputable def cL176_2 : List MI := [(32, .iload_n 1, 1, 0, 0, 0), (33, .iload_n 2, 1, 0, 0, 0), (34, .invokevirtual 182, 3, 170, 3, 9), (37, .goto 8, 3, 0, 0, 0), (40, .aload_n 0, 1, 0, 0, 0), (41, .iload_n 1, 1, 0, 0, 0), (42, .invokevirtual 197, 3, 178, 2, 9), (45, .ireturn, 1, 0, 0, 0)]
noncomputable def cG176_0 : List MI := cL176_0 ++ ( cL176_1 ++ ( cL176_2 ++ ([])))
noncomputable def cL176 : List MI := cG176_0 ++ ([])
/-- DoorPaintsModel.isVisitor(I)Z -/
noncomputable def cL177_0 : List MI := [(0, .iload_n 1, 1, 0, 0, 0), (1, .i2l, 1, 0, 0, 0), (2, .lconst 0, 1, 0, 0, 0), (3, .aload_n 0, 1, 0, 0, 0), (4, .getfield 67, 3, 9, 3, 0), (7, .iconst 1, 1, 0, 0, 0), (8, .isub, 1, 0, 0, 0), (9, .i2l, 1, 0, 0, 0), (10, .invokestatic 75, 3, 148, 3, 0), (13, .ireturn, 1, 0, 0, 0)]
noncomputable def cG177_0 : List MI := cL177_0 ++ ([])
noncomputable def cL177 : List MI := cG177_0 ++ ([])
/-- DoorPaintsModel.brushOf(I)I -/
noncomputable def cL178_0 : List MI := [(0, .iload_n 1, 1, 0, 0, 0), (1, .aload_n 0, 1, 0, 0, 0), (2, .getfield 173, 3, 9, 20, 0), (5, .if_icmp .ne 14, 3, 0, 0, 0), (8, .aload_n 0, 1, 0, 0, 0), (9, .aload_n 0, 1, 0, 0, 0), (10, .getfield 185, 3, 9, 21, 0), (13, .invokevirtual 188, 3, 179, 2, 9)]
noncomputable def cL178_1 : List MI := [(16, .goto 8, 3, 0, 0, 0), (19, .aload_n 0, 1, 0, 0, 0), (20, .iload_n 1, 1, 0, 0, 0), (21, .invokevirtual 188, 3, 179, 2, 9), (24, .ireturn, 1, 0, 0, 0)]
noncomputable def cG178_0 : List MI := cL178_0 ++ ( cL178_1 ++ ([]))
noncomputable def cL178 : List MI := cG178_0 ++ ([])
/-- DoorPaintsModel.ownBrush(I)I -/
noncomputable def cL179_0 : List MI := [(0, .aload_n 0, 1, 0, 0, 0), (1, .iload_n 1, 1, 0, 0, 0), (2, .iconst 0, 1, 0, 0, 0), (3, .invokevirtual 182, 3, 170, 3, 9), (6, .iconst 3, 1, 0, 0, 0), (7, .if_icmp .ne 12, 3, 0, 0, 0), (10, .aload_n 0, 1, 0, 0, 0), (11, .iconst 0, 1, 0, 0, 0), (12, .iconst 1, 1, 0, 0, 0), (13, .invokevirtual 182, 3, 170, 3, 9)]
noncomputable def cL179_1 : List MI := [(16, .goto 9, 3, 0, 0, 0), (19, .aload_n 0, 1, 0, 0, 0), (20, .iload_n 1, 1, 0, 0, 0), (21, .iconst 1, 1, 0, 0, 0), (22, .invokevirtual 182, 3, 170, 3, 9), (25, .ireturn, 1, 0, 0, 0)]
noncomputable def cG179_0 : List MI := cL179_0 ++ ( cL179_1 ++ ([]))
noncomputable def cL179 : List MI := cG179_0 ++ ([])
/-- DoorPaintsModel.door(II)I -/
noncomputable def cL180_0 : List MI := [(0, .aload_n 0, 1, 0, 0, 0), (1, .iload_n 1, 1, 0, 0, 0), (2, .invokevirtual 170, 3, 181, 2, 9), (5, .ifCond .ne 5, 3, 0, 0, 0), (8, .iconst (-1), 1, 0, 0, 0), (9, .ireturn, 1, 0, 0, 0), (10, .aload_n 0, 1, 0, 0, 0), (11, .invokevirtual 232, 3, 168, 1, 9), (14, .iload_n 2, 1, 0, 0, 0), (15, .tableswitch 56 0 3 #[29, 36, 42, 49], 29, 0, 0, 0)]
noncomputable def cL180_1 : List MI := []
noncomputable def cL180_2 : List MI := [(44, .aload_n 0, 1, 0, 0, 0), (45, .iload_n 1, 1, 0, 0, 0), (46, .iconst 0, 1, 0, 0, 0), (47, .invokevirtual 176, 3, 169, 3, 9)]
noncomputable def cL180_3 : List MI := [(50, .ireturn, 1, 0, 0, 0), (51, .aload_n 0, 1, 0, 0, 0), (52, .iload_n 1, 1, 0, 0, 0), (53, .invokevirtual 194, 3, 173, 2, 9), (56, .ireturn, 1, 0, 0, 0), (57, .aload_n 0, 1, 0, 0, 0), (58, .iload_n 1, 1, 0, 0, 0), (59, .iconst 2, 1, 0, 0, 0), (60, .invokevirtual 176, 3, 169, 3, 9), (63, .ireturn, 1, 0, 0, 0)]
noncomputable def cL180_4 : List MI := [(64, .aload_n 0, 1, 0, 0, 0), (65, .iload_n 1, 1, 0, 0, 0), (66, .iconst 1, 1, 0, 0, 0), (67, .invokevirtual 176, 3, 169, 3, 9), (70, .ireturn, 1, 0, 0, 0), (71, .iload_n 2, 1, 0, 0, 0), (72, .bipush 10, 2, 0, 0, 0), (74, .isub, 1, 0, 0, 0), (75, .i2l, 1, 0, 0, 0), (76, .lconst 0, 1, 0, 0, 0), (77, .ldc2_w 240, 3, 0, 0, 5)]
noncomputable def cL180_5 : List MI := [(80, .invokestatic 75, 3, 148, 3, 0), (83, .ifCond .ne 7, 3, 0, 0, 0), (86, .iconst (-1), 1, 0, 0, 0), (87, .goto 30, 3, 0, 0, 0), (90, .iload_n 2, 1, 0, 0, 0), (91, .bipush 10, 2, 0, 0, 0), (93, .isub, 1, 0, 0, 0), (94, .aload_n 0, 1, 0, 0, 0), (95, .iload_n 1, 1, 0, 0, 0)]
noncomputable def cL180_6 : List MI := [(96, .iconst 0, 1, 0, 0, 0), (97, .invokevirtual 176, 3, 169, 3, 9), (100, .if_icmp .ge 15, 3, 0, 0, 0), (103, .aload_n 0, 1, 0, 0, 0), (104, .iload_n 1, 1, 0, 0, 0), (105, .iload_n 2, 1, 0, 0, 0), (106, .bipush 10, 2, 0, 0, 0), (108, .isub, 1, 0, 0, 0), (109, .invokevirtual 179, 3, 174, 3, 9)]
noncomputable def cL180_7 : List MI := [(112, .goto 5, 3, 0, 0, 0), (115, .bipush (-4), 2, 0, 0, 0), (117, .ireturn, 1, 0, 0, 0)]
noncomputable def cG180_0 : List MI := cL180_0 ++ ( cL180_1 ++ ( cL180_2 ++ ( cL180_3 ++ ( cL180_4 ++ ( cL180_5 ++ ( cL180_6 ++ ( cL180_7 ++ ([]))))))))
noncomputable def cL180 : List MI := cG180_0 ++ ([])
/-- DoorPaintsModel.isDoor(I)Z -/
noncomputable def cL181_0 : List MI := [(0, .iload_n 1, 1, 0, 0, 0), (1, .i2l, 1, 0, 0, 0), (2, .lconst 0, 1, 0, 0, 0), (3, .aload_n 0, 1, 0, 0, 0), (4, .getfield 70, 3, 9, 4, 0), (7, .iconst 1, 1, 0, 0, 0), (8, .isub, 1, 0, 0, 0), (9, .i2l, 1, 0, 0, 0), (10, .invokestatic 75, 3, 148, 3, 0), (13, .ireturn, 1, 0, 0, 0)]
noncomputable def cG181_0 : List MI := cL181_0 ++ ([])
noncomputable def cL181 : List MI := cG181_0 ++ ([])
/-- DoorPaintsModel.plan(I)I -/
noncomputable def cL182_0 : List MI := [(0, .iload_n 1, 1, 0, 0, 0), (1, .i2l, 1, 0, 0, 0), (2, .lconst 0, 1, 0, 0, 0), (3, .aload_n 0, 1, 0, 0, 0), (4, .getfield 7, 3, 9, 0, 0), (7, .bipush 52, 2, 0, 0, 0), (9, .iaload, 1, 0, 0, 0), (10, .iconst 1, 1, 0, 0, 0), (11, .isub, 1, 0, 0, 0), (12, .i2l, 1, 0, 0, 0), (13, .invokestatic 75, 3, 148, 3, 0)]
noncomputable def cL182_1 : List MI := [(16, .ifCond .eq 15, 3, 0, 0, 0), (19, .aload_n 0, 1, 0, 0, 0), (20, .getfield 7, 3, 9, 0, 0), (23, .bipush 53, 2, 0, 0, 0), (25, .iload_n 1, 1, 0, 0, 0), (26, .iadd, 1, 0, 0, 0), (27, .iaload, 1, 0, 0, 0), (28, .goto 4, 3, 0, 0, 0), (31, .iconst (-1), 1, 0, 0, 0)]
noncomputable def cL182_2 : List MI := [(32, .ireturn, 1, 0, 0, 0)]
noncomputable def cG182_0 : List MI := cL182_0 ++ ( cL182_1 ++ ( cL182_2 ++ ([])))
noncomputable def cL182 : List MI := cG182_0 ++ ([])
/-- DoorPaintsModel.uses(II)I -/
noncomputable def cL183_0 : List MI := [(0, .aload_n 0, 1, 0, 0, 0), (1, .iload_n 1, 1, 0, 0, 0), (2, .invokevirtual 167, 3, 177, 2, 9), (5, .ifCond .eq 11, 3, 0, 0, 0), (8, .aload_n 0, 1, 0, 0, 0), (9, .iload_n 2, 1, 0, 0, 0), (10, .invokevirtual 170, 3, 181, 2, 9), (13, .ifCond .ne 5, 3, 0, 0, 0)]
noncomputable def cL183_1 : List MI := [(16, .iconst (-1), 1, 0, 0, 0), (17, .ireturn, 1, 0, 0, 0), (18, .aload_n 0, 1, 0, 0, 0), (19, .invokevirtual 232, 3, 168, 1, 9), (22, .aload_n 0, 1, 0, 0, 0), (23, .iload_n 1, 1, 0, 0, 0), (24, .iload_n 2, 1, 0, 0, 0), (25, .invokevirtual 191, 3, 184, 3, 9), (28, .ireturn, 1, 0, 0, 0)]
noncomputable def cG183_0 : List MI := cL183_0 ++ ( cL183_1 ++ ([]))
noncomputable def cL183 : List MI := cG183_0 ++ ([])
/-- DoorPaintsModel.usesOf(II)I -/
noncomputable def cL184_0 : List MI := [(0, .iconst 1, 1, 0, 0, 0), (1, .aload_n 0, 1, 0, 0, 0), (2, .iload_n 2, 1, 0, 0, 0), (3, .iconst 0, 1, 0, 0, 0), (4, .invokevirtual 176, 3, 169, 3, 9), (7, .iconst 3, 1, 0, 0, 0), (8, .idiv, 1, 0, 0, 0), (9, .iadd, 1, 0, 0, 0), (10, .istore_n 3, 1, 0, 0, 0), (11, .aload_n 0, 1, 0, 0, 0), (12, .iload_n 1, 1, 0, 0, 0), (13, .iconst 0, 1, 0, 0, 0), (14, .invokevirtual 182, 3, 170, 3, 9)]
noncomputable def cL184_1 : List MI := [(17, .istore 4, 2, 0, 0, 0), (19, .iload 4, 2, 0, 0, 0), (21, .iconst 2, 1, 0, 0, 0), (22, .if_icmp .ne 7, 3, 0, 0, 0), (25, .iconst 0, 1, 0, 0, 0), (26, .goto 16, 3, 0, 0, 0), (29, .iload 4, 2, 0, 0, 0), (31, .iconst 1, 1, 0, 0, 0)]
noncomputable def cL184_2 : List MI := [(32, .if_icmp .ne 9, 3, 0, 0, 0), (35, .iconst 2, 1, 0, 0, 0), (36, .iload_n 3, 1, 0, 0, 0), (37, .imul, 1, 0, 0, 0), (38, .goto 4, 3, 0, 0, 0), (41, .iload_n 3, 1, 0, 0, 0), (42, .ireturn, 1, 0, 0, 0)]
noncomputable def cG184_0 : List MI := cL184_0 ++ ( cL184_1 ++ ( cL184_2 ++ ([])))
noncomputable def cL184 : List MI := cG184_0 ++ ([])
/-- DoorPaintsModel.visit(II)I -/
noncomputable def cL185_0 : List MI := [(0, .aload_n 0, 1, 0, 0, 0), (1, .iload_n 1, 1, 0, 0, 0), (2, .invokevirtual 167, 3, 177, 2, 9), (5, .ifCond .eq 11, 3, 0, 0, 0), (8, .aload_n 0, 1, 0, 0, 0), (9, .iload_n 2, 1, 0, 0, 0), (10, .invokevirtual 170, 3, 181, 2, 9), (13, .ifCond .ne 5, 3, 0, 0, 0)]
noncomputable def cL185_1 : List MI := [(16, .iconst (-1), 1, 0, 0, 0), (17, .ireturn, 1, 0, 0, 0), (18, .aload_n 0, 1, 0, 0, 0), (19, .invokevirtual 232, 3, 168, 1, 9), (22, .aload_n 0, 1, 0, 0, 0), (23, .iload_n 1, 1, 0, 0, 0), (24, .iload_n 2, 1, 0, 0, 0), (25, .invokevirtual 213, 3, 186, 3, 9), (28, .istore_n 3, 1, 0, 0, 0), (29, .iload_n 3, 1, 0, 0, 0), (30, .ifCond .eq 5, 3, 0, 0, 0)]
noncomputable def cL185_2 : List MI := [(33, .iload_n 3, 1, 0, 0, 0), (34, .ireturn, 1, 0, 0, 0), (35, .aload_n 0, 1, 0, 0, 0), (36, .iload_n 1, 1, 0, 0, 0), (37, .iload_n 2, 1, 0, 0, 0), (38, .invokevirtual 219, 3, 187, 3, 9), (41, .pop, 1, 0, 0, 0), (42, .aload_n 0, 1, 0, 0, 0), (43, .invokevirtual 242, 3, 189, 1, 9), (46, .aload_n 0, 1, 0, 0, 0), (47, .iload_n 2, 1, 0, 0, 0)]
noncomputable def cL185_3 : List MI := [(48, .invokevirtual 194, 3, 173, 2, 9), (51, .ireturn, 1, 0, 0, 0)]
noncomputable def cG185_0 : List MI := cL185_0 ++ ( cL185_1 ++ ( cL185_2 ++ ( cL185_3 ++ ([]))))
noncomputable def cL185 : List MI := cG185_0 ++ ([])
end
