section
/-! TABLES: the methods' listings (written by a program) -/
/-- DoorPaintsModel.keepsOut(II)I -/
def cL186_0 : List MI := [(0, .aload_n 0, 1, 0, 0, 0), (1, .iload_n 1, 1, 0, 0, 0), (2, .iconst 0, 1, 0, 0, 0), (3, .invokevirtual 182, 3, 170, 3, 9), (6, .iconst 2, 1, 0, 0, 0), (7, .if_icmp .eq 27, 3, 0, 0, 0), (10, .aload_n 0, 1, 0, 0, 0), (11, .iload_n 2, 1, 0, 0, 0), (12, .iconst 0, 1, 0, 0, 0), (13, .invokevirtual 176, 3, 169, 3, 9)]
def cL186_1 : List MI := [(16, .bipush 6, 2, 0, 0, 0), (18, .if_icmp .ne 16, 3, 0, 0, 0), (21, .aload_n 0, 1, 0, 0, 0), (22, .iload_n 2, 1, 0, 0, 0), (23, .iconst 1, 1, 0, 0, 0), (24, .invokevirtual 176, 3, 169, 3, 9), (27, .ifCond .ne 7, 3, 0, 0, 0), (30, .iconst 1, 1, 0, 0, 0), (31, .goto 4, 3, 0, 0, 0)]
def cL186_2 : List MI := [(34, .iconst 0, 1, 0, 0, 0), (35, .istore_n 3, 1, 0, 0, 0), (36, .aload_n 0, 1, 0, 0, 0), (37, .iload_n 1, 1, 0, 0, 0), (38, .iconst 2, 1, 0, 0, 0), (39, .invokevirtual 182, 3, 170, 3, 9), (42, .aload_n 0, 1, 0, 0, 0), (43, .iload_n 1, 1, 0, 0, 0), (44, .iload_n 2, 1, 0, 0, 0), (45, .invokevirtual 191, 3, 184, 3, 9)]
def cL186_3 : List MI := [(48, .if_icmp .ge 8, 3, 0, 0, 0), (51, .bipush (-2), 2, 0, 0, 0), (53, .goto 13, 3, 0, 0, 0), (56, .iload_n 3, 1, 0, 0, 0), (57, .ifCond .eq 8, 3, 0, 0, 0), (60, .bipush (-3), 2, 0, 0, 0), (62, .goto 4, 3, 0, 0, 0)]
def cL186_4 : List MI := [(65, .iconst 0, 1, 0, 0, 0), (66, .ireturn, 1, 0, 0, 0)]
def cL186 : List MI := cL186_0 ++ ( cL186_1 ++ ( cL186_2 ++ ( cL186_3 ++ ( cL186_4 ++ ([])))))
/-- DoorPaintsModel.visits(II)I -/
def cL187_0 : List MI := [(0, .aload_n 0, 1, 0, 0, 0), (1, .iload_n 1, 1, 0, 0, 0), (2, .iload_n 2, 1, 0, 0, 0), (3, .invokevirtual 191, 3, 184, 3, 9), (6, .istore_n 3, 1, 0, 0, 0), (7, .aload_n 0, 1, 0, 0, 0), (8, .iload_n 2, 1, 0, 0, 0), (9, .invokevirtual 194, 3, 173, 2, 9), (12, .istore 4, 2, 0, 0, 0), (14, .aload_n 0, 1, 0, 0, 0), (15, .iload_n 2, 1, 0, 0, 0)]
def cL187_1 : List MI := [(16, .iconst 1, 1, 0, 0, 0), (17, .invokevirtual 176, 3, 169, 3, 9), (20, .iconst 1, 1, 0, 0, 0), (21, .if_icmp .ne 14, 3, 0, 0, 0), (24, .iload 4, 2, 0, 0, 0), (26, .bipush (-4), 2, 0, 0, 0), (28, .if_icmp .eq 7, 3, 0, 0, 0), (31, .iconst 1, 1, 0, 0, 0)]
def cL187_2 : List MI := [(32, .goto 4, 3, 0, 0, 0), (35, .iconst 0, 1, 0, 0, 0), (36, .istore 5, 2, 0, 0, 0), (38, .aload_n 0, 1, 0, 0, 0), (39, .getfield 13, 3, 9, 1, 0), (42, .iconst 4, 1, 0, 0, 0), (43, .iload_n 1, 1, 0, 0, 0), (44, .imul, 1, 0, 0, 0), (45, .iconst 2, 1, 0, 0, 0), (46, .iadd, 1, 0, 0, 0), (47, .dup2, 1, 0, 0, 0)]
def cL187_3 : List MI := [(48, .iaload, 1, 0, 0, 0), (49, .iload_n 3, 1, 0, 0, 0), (50, .isub, 1, 0, 0, 0), (51, .iastore, 1, 0, 0, 0), (52, .iload 5, 2, 0, 0, 0), (54, .ifCond .eq 20, 3, 0, 0, 0), (57, .aload_n 0, 1, 0, 0, 0), (58, .getfield 13, 3, 9, 1, 0), (61, .iconst 4, 1, 0, 0, 0), (62, .iload_n 1, 1, 0, 0, 0), (63, .imul, 1, 0, 0, 0)]
def cL187_4 : List MI := [(64, .iconst 3, 1, 0, 0, 0), (65, .iadd, 1, 0, 0, 0), (66, .dup2, 1, 0, 0, 0), (67, .iaload, 1, 0, 0, 0), (68, .iconst 1, 1, 0, 0, 0), (69, .iload 4, 2, 0, 0, 0), (71, .ishl, 1, 0, 0, 0), (72, .ior, 1, 0, 0, 0), (73, .iastore, 1, 0, 0, 0), (74, .aload_n 0, 1, 0, 0, 0), (75, .iload_n 1, 1, 0, 0, 0), (76, .iconst 0, 1, 0, 0, 0), (77, .invokevirtual 182, 3, 170, 3, 9)]
def cL187_5 : List MI := [(80, .iconst 2, 1, 0, 0, 0), (81, .if_icmp .eq 83, 3, 0, 0, 0), (84, .aload_n 0, 1, 0, 0, 0), (85, .iload_n 2, 1, 0, 0, 0), (86, .iconst 0, 1, 0, 0, 0), (87, .invokevirtual 176, 3, 169, 3, 9), (90, .istore 6, 2, 0, 0, 0), (92, .aload_n 0, 1, 0, 0, 0), (93, .iload_n 2, 1, 0, 0, 0), (94, .iconst 3, 1, 0, 0, 0), (95, .iload 5, 2, 0, 0, 0)]
def cL187_6 : List MI := [(97, .ifCond .eq 10, 3, 0, 0, 0), (100, .iload 6, 2, 0, 0, 0), (102, .iconst 1, 1, 0, 0, 0), (103, .isub, 1, 0, 0, 0), (104, .goto 5, 3, 0, 0, 0), (107, .iload 6, 2, 0, 0, 0), (109, .iadd, 1, 0, 0, 0), (110, .iload 5, 2, 0, 0, 0)]
def cL187_7 : List MI := [(112, .ifCond .eq 17, 3, 0, 0, 0), (115, .iload 4, 2, 0, 0, 0), (117, .aload_n 0, 1, 0, 0, 0), (118, .iload_n 1, 1, 0, 0, 0), (119, .invokevirtual 197, 3, 178, 2, 9), (122, .iadd, 1, 0, 0, 0), (123, .bipush 6, 2, 0, 0, 0), (125, .irem, 1, 0, 0, 0), (126, .goto 8, 3, 0, 0, 0)]
def cL187_8 : List MI := [(129, .aload_n 0, 1, 0, 0, 0), (130, .iload_n 1, 1, 0, 0, 0), (131, .invokevirtual 197, 3, 178, 2, 9), (134, .invokevirtual 200, 3, 188, 4, 9), (137, .aload_n 0, 1, 0, 0, 0), (138, .iload_n 2, 1, 0, 0, 0), (139, .iconst 0, 1, 0, 0, 0), (140, .iload 5, 2, 0, 0, 0), (142, .ifCond .eq 8, 3, 0, 0, 0)]
def cL187_9 : List MI := [(145, .iload 6, 2, 0, 0, 0), (147, .goto 7, 3, 0, 0, 0), (150, .iload 6, 2, 0, 0, 0), (152, .iconst 1, 1, 0, 0, 0), (153, .iadd, 1, 0, 0, 0), (154, .invokevirtual 200, 3, 188, 4, 9), (157, .aload_n 0, 1, 0, 0, 0), (158, .iload_n 2, 1, 0, 0, 0), (159, .iconst 1, 1, 0, 0, 0)]
def cL187_10 : List MI := [(160, .iconst 1, 1, 0, 0, 0), (161, .invokevirtual 200, 3, 188, 4, 9), (164, .iload_n 3, 1, 0, 0, 0), (165, .ireturn, 1, 0, 0, 0)]
def cL187 : List MI := cL187_0 ++ ( cL187_1 ++ ( cL187_2 ++ ( cL187_3 ++ ( cL187_4 ++ ( cL187_5 ++ ( cL187_6 ++ ( cL187_7 ++ ( cL187_8 ++ ( cL187_9 ++ ( cL187_10 ++ ([])))))))))))
/-- DoorPaintsModel.becomesDoor(III)V -/
def cL188_0 : List MI := [(0, .aload_n 0, 1, 0, 0, 0), (1, .getfield 13, 3, 9, 1, 0), (4, .bipush 16, 2, 0, 0, 0), (6, .bipush 9, 2, 0, 0, 0), (8, .iload_n 1, 1, 0, 0, 0), (9, .imul, 1, 0, 0, 0), (10, .iadd, 1, 0, 0, 0), (11, .iload_n 2, 1, 0, 0, 0), (12, .iadd, 1, 0, 0, 0), (13, .iload_n 3, 1, 0, 0, 0), (14, .iastore, 1, 0, 0, 0), (15, .return_, 1, 0, 0, 0)]
def cL188 : List MI := cL188_0 ++ ([])
/-- DoorPaintsModel.settles()V -/
def cL189_0 : List MI := [(0, .iconst 0, 1, 0, 0, 0), (1, .istore_n 1, 1, 0, 0, 0), (2, .iload_n 1, 1, 0, 0, 0), (3, .bipush 80, 2, 0, 0, 0), (5, .if_icmp .ge 21, 3, 0, 0, 0), (8, .aload_n 0, 1, 0, 0, 0), (9, .getfield 7, 3, 9, 0, 0), (12, .iload_n 1, 1, 0, 0, 0), (13, .aload_n 0, 1, 0, 0, 0), (14, .getfield 13, 3, 9, 1, 0)]
def cL189_1 : List MI := [(17, .iload_n 1, 1, 0, 0, 0), (18, .iaload, 1, 0, 0, 0), (19, .iastore, 1, 0, 0, 0), (20, .iinc 1 1, 3, 0, 0, 0), (23, .goto (-21), 3, 0, 0, 0), (26, .return_, 1, 0, 0, 0)]
def cL189 : List MI := cL189_0 ++ ( cL189_1 ++ ([]))
/-- DoorPaintsModel.sky(I)I -/
def cL190_0 : List MI := [(0, .iload_n 1, 1, 0, 0, 0), (1, .i2l, 1, 0, 0, 0), (2, .lconst 0, 1, 0, 0, 0), (3, .ldc2_w 245, 3, 0, 0, 2), (6, .invokestatic 75, 3, 148, 3, 0), (9, .ifCond .ne 5, 3, 0, 0, 0), (12, .iconst (-1), 1, 0, 0, 0), (13, .ireturn, 1, 0, 0, 0), (14, .aload_n 0, 1, 0, 0, 0), (15, .invokevirtual 232, 3, 168, 1, 9)]
def cL190_1 : List MI := [(18, .aload_n 0, 1, 0, 0, 0), (19, .bipush 90, 2, 0, 0, 0), (21, .iload_n 1, 1, 0, 0, 0), (22, .iadd, 1, 0, 0, 0), (23, .invokevirtual 210, 3, 191, 2, 9), (26, .aload_n 0, 1, 0, 0, 0), (27, .invokevirtual 242, 3, 189, 1, 9), (30, .aload_n 0, 1, 0, 0, 0), (31, .invokevirtual 247, 3, 193, 1, 9)]
def cL190_2 : List MI := [(34, .ireturn, 1, 0, 0, 0)]
def cL190 : List MI := cL190_0 ++ ( cL190_1 ++ ( cL190_2 ++ ([])))
/-- DoorPaintsModel.goesBy(I)V -/
def cL191_0 : List MI := [(0, .iconst 0, 1, 0, 0, 0), (1, .istore_n 2, 1, 0, 0, 0), (2, .iload_n 2, 1, 0, 0, 0), (3, .aload_n 0, 1, 0, 0, 0), (4, .getfield 70, 3, 9, 4, 0), (7, .if_icmp .ge 61, 3, 0, 0, 0), (10, .iload_n 1, 1, 0, 0, 0), (11, .bipush 91, 2, 0, 0, 0), (13, .if_icmp .ne 11, 3, 0, 0, 0)]
def cL191_1 : List MI := [(16, .aload_n 0, 1, 0, 0, 0), (17, .iload_n 2, 1, 0, 0, 0), (18, .invokevirtual 204, 3, 192, 2, 9), (21, .goto 10, 3, 0, 0, 0), (24, .aload_n 0, 1, 0, 0, 0), (25, .iload_n 2, 1, 0, 0, 0), (26, .iconst 1, 1, 0, 0, 0), (27, .iconst 0, 1, 0, 0, 0), (28, .invokevirtual 200, 3, 188, 4, 9), (31, .iload_n 1, 1, 0, 0, 0)]
def cL191_2 : List MI := [(32, .bipush 92, 2, 0, 0, 0), (34, .if_icmp .ne 28, 3, 0, 0, 0), (37, .aload_n 0, 1, 0, 0, 0), (38, .iload_n 2, 1, 0, 0, 0), (39, .invokevirtual 194, 3, 173, 2, 9), (42, .ifCond .ne 20, 3, 0, 0, 0), (45, .aload_n 0, 1, 0, 0, 0), (46, .iload_n 2, 1, 0, 0, 0), (47, .iconst 0, 1, 0, 0, 0)]
def cL191_3 : List MI := [(48, .aload_n 0, 1, 0, 0, 0), (49, .iload_n 2, 1, 0, 0, 0), (50, .iconst 0, 1, 0, 0, 0), (51, .invokevirtual 176, 3, 169, 3, 9), (54, .iconst 1, 1, 0, 0, 0), (55, .isub, 1, 0, 0, 0), (56, .invokevirtual 200, 3, 188, 4, 9), (59, .goto (-28), 3, 0, 0, 0), (62, .iinc 2 1, 3, 0, 0, 0)]
def cL191_4 : List MI := [(65, .goto (-63), 3, 0, 0, 0), (68, .return_, 1, 0, 0, 0)]
def cL191 : List MI := cL191_0 ++ ( cL191_1 ++ ( cL191_2 ++ ( cL191_3 ++ ( cL191_4 ++ ([])))))
/-- DoorPaintsModel.rains(I)V -/
def cL192_0 : List MI := [(0, .aload_n 0, 1, 0, 0, 0), (1, .iload_n 1, 1, 0, 0, 0), (2, .iconst 0, 1, 0, 0, 0), (3, .invokevirtual 176, 3, 169, 3, 9), (6, .istore_n 2, 1, 0, 0, 0), (7, .iload_n 2, 1, 0, 0, 0), (8, .ifCond .le 75, 3, 0, 0, 0), (11, .iload_n 2, 1, 0, 0, 0), (12, .iconst 3, 1, 0, 0, 0), (13, .if_icmp .le 9, 3, 0, 0, 0)]
def cL192_1 : List MI := [(16, .iload_n 2, 1, 0, 0, 0), (17, .iconst 3, 1, 0, 0, 0), (18, .isub, 1, 0, 0, 0), (19, .goto 4, 3, 0, 0, 0), (22, .iconst 0, 1, 0, 0, 0), (23, .istore_n 3, 1, 0, 0, 0), (24, .iconst 0, 1, 0, 0, 0), (25, .istore 4, 2, 0, 0, 0), (27, .iload_n 3, 1, 0, 0, 0), (28, .istore 5, 2, 0, 0, 0), (30, .iload 5, 2, 0, 0, 0)]
def cL192_2 : List MI := [(32, .iload_n 2, 1, 0, 0, 0), (33, .if_icmp .ge 21, 3, 0, 0, 0), (36, .iload 4, 2, 0, 0, 0), (38, .aload_n 0, 1, 0, 0, 0), (39, .iload_n 1, 1, 0, 0, 0), (40, .iload 5, 2, 0, 0, 0), (42, .invokevirtual 179, 3, 174, 3, 9), (45, .iadd, 1, 0, 0, 0), (46, .istore 4, 2, 0, 0, 0)]
def cL192_3 : List MI := [(48, .iinc 5 1, 3, 0, 0, 0), (51, .goto (-21), 3, 0, 0, 0), (54, .aload_n 0, 1, 0, 0, 0), (55, .iload_n 1, 1, 0, 0, 0), (56, .iconst 3, 1, 0, 0, 0), (57, .iload_n 3, 1, 0, 0, 0), (58, .iadd, 1, 0, 0, 0), (59, .iload 4, 2, 0, 0, 0), (61, .bipush 6, 2, 0, 0, 0), (63, .irem, 1, 0, 0, 0)]
def cL192_4 : List MI := [(64, .invokevirtual 200, 3, 188, 4, 9), (67, .aload_n 0, 1, 0, 0, 0), (68, .iload_n 1, 1, 0, 0, 0), (69, .iconst 0, 1, 0, 0, 0), (70, .iload_n 3, 1, 0, 0, 0), (71, .iconst 1, 1, 0, 0, 0), (72, .iadd, 1, 0, 0, 0), (73, .invokevirtual 200, 3, 188, 4, 9), (76, .aload_n 0, 1, 0, 0, 0), (77, .iload_n 1, 1, 0, 0, 0), (78, .iconst 1, 1, 0, 0, 0), (79, .iconst 1, 1, 0, 0, 0)]
def cL192_5 : List MI := [(80, .invokevirtual 200, 3, 188, 4, 9), (83, .return_, 1, 0, 0, 0)]
def cL192 : List MI := cL192_0 ++ ( cL192_1 ++ ( cL192_2 ++ ( cL192_3 ++ ( cL192_4 ++ ( cL192_5 ++ ([]))))))
/-- DoorPaintsModel.layers()I -/
def cL193_0 : List MI := [(0, .iconst 0, 1, 0, 0, 0), (1, .istore_n 1, 1, 0, 0, 0), (2, .iconst 0, 1, 0, 0, 0), (3, .istore_n 2, 1, 0, 0, 0), (4, .iload_n 2, 1, 0, 0, 0), (5, .aload_n 0, 1, 0, 0, 0), (6, .getfield 70, 3, 9, 4, 0), (9, .if_icmp .ge 18, 3, 0, 0, 0), (12, .iload_n 1, 1, 0, 0, 0), (13, .aload_n 0, 1, 0, 0, 0), (14, .iload_n 2, 1, 0, 0, 0), (15, .iconst 0, 1, 0, 0, 0)]
def cL193_1 : List MI := [(16, .invokevirtual 176, 3, 169, 3, 9), (19, .iadd, 1, 0, 0, 0), (20, .istore_n 1, 1, 0, 0, 0), (21, .iinc 2 1, 3, 0, 0, 0), (24, .goto (-20), 3, 0, 0, 0), (27, .iload_n 1, 1, 0, 0, 0), (28, .ireturn, 1, 0, 0, 0)]
def cL193 : List MI := cL193_0 ++ ( cL193_1 ++ ([]))
/-- DoorPaintsModel.scrape(I)I -/
def cL194_0 : List MI := [(0, .aload_n 0, 1, 0, 0, 0), (1, .iload_n 1, 1, 0, 0, 0), (2, .invokevirtual 170, 3, 181, 2, 9), (5, .ifCond .ne 5, 3, 0, 0, 0), (8, .iconst (-1), 1, 0, 0, 0), (9, .ireturn, 1, 0, 0, 0), (10, .aload_n 0, 1, 0, 0, 0), (11, .invokevirtual 232, 3, 168, 1, 9), (14, .aload_n 0, 1, 0, 0, 0), (15, .iload_n 1, 1, 0, 0, 0)]
def cL194_1 : List MI := [(16, .invokevirtual 194, 3, 173, 2, 9), (19, .bipush (-4), 2, 0, 0, 0), (21, .if_icmp .ne 6, 3, 0, 0, 0), (24, .bipush (-2), 2, 0, 0, 0), (26, .ireturn, 1, 0, 0, 0), (27, .aload_n 0, 1, 0, 0, 0), (28, .iload_n 1, 1, 0, 0, 0), (29, .iconst 0, 1, 0, 0, 0), (30, .aload_n 0, 1, 0, 0, 0), (31, .iload_n 1, 1, 0, 0, 0)]
def cL194_2 : List MI := [(32, .iconst 0, 1, 0, 0, 0), (33, .invokevirtual 176, 3, 169, 3, 9), (36, .iconst 1, 1, 0, 0, 0), (37, .isub, 1, 0, 0, 0), (38, .invokevirtual 200, 3, 188, 4, 9), (41, .aload_n 0, 1, 0, 0, 0), (42, .iload_n 1, 1, 0, 0, 0), (43, .iconst 1, 1, 0, 0, 0), (44, .iconst 0, 1, 0, 0, 0), (45, .invokevirtual 200, 3, 188, 4, 9)]
def cL194_3 : List MI := [(48, .aload_n 0, 1, 0, 0, 0), (49, .invokevirtual 242, 3, 189, 1, 9), (52, .aload_n 0, 1, 0, 0, 0), (53, .iload_n 1, 1, 0, 0, 0), (54, .invokevirtual 194, 3, 173, 2, 9), (57, .ireturn, 1, 0, 0, 0)]
def cL194 : List MI := cL194_0 ++ ( cL194_1 ++ ( cL194_2 ++ ( cL194_3 ++ ([]))))
/-- DoorPaintsModel.alter(III)I -/
def cL195_0 : List MI := [(0, .aload_n 0, 1, 0, 0, 0), (1, .iload_n 1, 1, 0, 0, 0), (2, .invokevirtual 167, 3, 177, 2, 9), (5, .ifCond .eq 42, 3, 0, 0, 0), (8, .iload_n 2, 1, 0, 0, 0), (9, .i2l, 1, 0, 0, 0), (10, .lconst 0, 1, 0, 0, 0), (11, .ldc2_w 138, 3, 0, 0, 3), (14, .invokestatic 75, 3, 148, 3, 0)]
def cL195_1 : List MI := [(17, .ifCond .eq 30, 3, 0, 0, 0), (20, .iload_n 3, 1, 0, 0, 0), (21, .i2l, 1, 0, 0, 0), (22, .lconst 0, 1, 0, 0, 0), (23, .iload_n 2, 1, 0, 0, 0), (24, .invokestatic 250, 3, 196, 1, 0), (27, .i2l, 1, 0, 0, 0), (28, .invokestatic 75, 3, 148, 3, 0), (31, .ifCond .eq 16, 3, 0, 0, 0)]
def cL195_2 : List MI := [(34, .aload_n 0, 1, 0, 0, 0), (35, .iconst 4, 1, 0, 0, 0), (36, .iload_n 1, 1, 0, 0, 0), (37, .imul, 1, 0, 0, 0), (38, .iload_n 2, 1, 0, 0, 0), (39, .iadd, 1, 0, 0, 0), (40, .iload_n 3, 1, 0, 0, 0), (41, .invokevirtual 253, 3, 197, 3, 9), (44, .goto 4, 3, 0, 0, 0), (47, .iconst (-1), 1, 0, 0, 0)]
def cL195_3 : List MI := [(48, .ireturn, 1, 0, 0, 0)]
def cL195 : List MI := cL195_0 ++ ( cL195_1 ++ ( cL195_2 ++ ( cL195_3 ++ ([]))))
/-- DoorPaintsModel.mostOf(I)I -/
def cL196_0 : List MI := [(0, .iload_n 0, 1, 0, 0, 0), (1, .ifCond .ne 7, 3, 0, 0, 0), (4, .iconst 3, 1, 0, 0, 0), (5, .goto 23, 3, 0, 0, 0), (8, .iload_n 0, 1, 0, 0, 0), (9, .iconst 1, 1, 0, 0, 0), (10, .if_icmp .ne 7, 3, 0, 0, 0), (13, .iconst 5, 1, 0, 0, 0), (14, .goto 14, 3, 0, 0, 0)]
def cL196_1 : List MI := [(17, .iload_n 0, 1, 0, 0, 0), (18, .iconst 2, 1, 0, 0, 0), (19, .if_icmp .ne 8, 3, 0, 0, 0), (22, .bipush 99, 2, 0, 0, 0), (24, .goto 4, 3, 0, 0, 0), (27, .iconst 0, 1, 0, 0, 0), (28, .ireturn, 1, 0, 0, 0)]
def cL196 : List MI := cL196_0 ++ ( cL196_1 ++ ([]))
/-- DoorPaintsModel.becomes(II)I -/
def cL197_0 : List MI := [(0, .aload_n 0, 1, 0, 0, 0), (1, .getfield 7, 3, 9, 0, 0), (4, .iload_n 1, 1, 0, 0, 0), (5, .iaload, 1, 0, 0, 0), (6, .istore_n 3, 1, 0, 0, 0), (7, .aload_n 0, 1, 0, 0, 0), (8, .getfield 7, 3, 9, 0, 0), (11, .iload_n 1, 1, 0, 0, 0), (12, .iload_n 2, 1, 0, 0, 0), (13, .iastore, 1, 0, 0, 0), (14, .iload_n 3, 1, 0, 0, 0), (15, .ireturn, 1, 0, 0, 0)]
def cL197 : List MI := cL197_0 ++ ([])
/-- DoorPaintsModel.ought(IIZ)I -/
def cL198_0 : List MI := [(0, .aload_n 0, 1, 0, 0, 0), (1, .iload_n 1, 1, 0, 0, 0), (2, .invokevirtual 170, 3, 181, 2, 9), (5, .ifCond .eq 15, 3, 0, 0, 0), (8, .iload_n 2, 1, 0, 0, 0), (9, .i2l, 1, 0, 0, 0), (10, .lconst 0, 1, 0, 0, 0), (11, .ldc2_w 240, 3, 0, 0, 5), (14, .invokestatic 75, 3, 148, 3, 0)]
def cL198_1 : List MI := [(17, .ifCond .ne 5, 3, 0, 0, 0), (20, .iconst (-1), 1, 0, 0, 0), (21, .ireturn, 1, 0, 0, 0), (22, .bipush 16, 2, 0, 0, 0), (24, .bipush 9, 2, 0, 0, 0), (26, .iload_n 1, 1, 0, 0, 0), (27, .imul, 1, 0, 0, 0), (28, .iadd, 1, 0, 0, 0), (29, .iconst 2, 1, 0, 0, 0), (30, .iadd, 1, 0, 0, 0), (31, .istore 4, 2, 0, 0, 0)]
def cL198_2 : List MI := [(33, .aload_n 0, 1, 0, 0, 0), (34, .getfield 7, 3, 9, 0, 0), (37, .iload 4, 2, 0, 0, 0), (39, .iaload, 1, 0, 0, 0), (40, .istore 5, 2, 0, 0, 0), (42, .aload_n 0, 1, 0, 0, 0), (43, .getfield 7, 3, 9, 0, 0), (46, .iload 4, 2, 0, 0, 0)]
def cL198_3 : List MI := [(48, .iload_n 3, 1, 0, 0, 0), (49, .ifCond .eq 12, 3, 0, 0, 0), (52, .iload 5, 2, 0, 0, 0), (54, .iconst 1, 1, 0, 0, 0), (55, .iload_n 2, 1, 0, 0, 0), (56, .ishl, 1, 0, 0, 0), (57, .ior, 1, 0, 0, 0), (58, .goto 11, 3, 0, 0, 0), (61, .iload 5, 2, 0, 0, 0), (63, .iconst 1, 1, 0, 0, 0)]
def cL198_4 : List MI := [(64, .iload_n 2, 1, 0, 0, 0), (65, .ishl, 1, 0, 0, 0), (66, .iconst (-1), 1, 0, 0, 0), (67, .ixor, 1, 0, 0, 0), (68, .iand, 1, 0, 0, 0), (69, .iastore, 1, 0, 0, 0), (70, .iload 5, 2, 0, 0, 0), (72, .iload_n 2, 1, 0, 0, 0), (73, .ishr, 1, 0, 0, 0), (74, .iconst 1, 1, 0, 0, 0), (75, .iand, 1, 0, 0, 0), (76, .ireturn, 1, 0, 0, 0)]
def cL198 : List MI := cL198_0 ++ ( cL198_1 ++ ( cL198_2 ++ ( cL198_3 ++ ( cL198_4 ++ ([])))))
/-- DoorPaintsModel.plans(I)I -/
def cL199_0 : List MI := [(0, .aload_n 0, 1, 0, 0, 0), (1, .iload_n 1, 1, 0, 0, 0), (2, .invokevirtual 256, 3, 200, 2, 9), (5, .ifCond .ne 5, 3, 0, 0, 0), (8, .iconst (-1), 1, 0, 0, 0), (9, .ireturn, 1, 0, 0, 0), (10, .aload_n 0, 1, 0, 0, 0), (11, .getfield 7, 3, 9, 0, 0), (14, .bipush 52, 2, 0, 0, 0)]
def cL199_1 : List MI := [(16, .iaload, 1, 0, 0, 0), (17, .bipush 8, 2, 0, 0, 0), (19, .if_icmp .ne 6, 3, 0, 0, 0), (22, .bipush (-3), 2, 0, 0, 0), (24, .ireturn, 1, 0, 0, 0), (25, .aload_n 0, 1, 0, 0, 0), (26, .getfield 7, 3, 9, 0, 0), (29, .bipush 53, 2, 0, 0, 0), (31, .aload_n 0, 1, 0, 0, 0)]
def cL199_2 : List MI := [(32, .getfield 7, 3, 9, 0, 0), (35, .bipush 52, 2, 0, 0, 0), (37, .iaload, 1, 0, 0, 0), (38, .iadd, 1, 0, 0, 0), (39, .iload_n 1, 1, 0, 0, 0), (40, .iastore, 1, 0, 0, 0), (41, .aload_n 0, 1, 0, 0, 0), (42, .getfield 7, 3, 9, 0, 0), (45, .bipush 52, 2, 0, 0, 0), (47, .dup2, 1, 0, 0, 0)]
def cL199_3 : List MI := [(48, .iaload, 1, 0, 0, 0), (49, .iconst 1, 1, 0, 0, 0), (50, .iadd, 1, 0, 0, 0), (51, .iastore, 1, 0, 0, 0), (52, .aload_n 0, 1, 0, 0, 0), (53, .getfield 7, 3, 9, 0, 0), (56, .bipush 52, 2, 0, 0, 0), (58, .iaload, 1, 0, 0, 0), (59, .ireturn, 1, 0, 0, 0)]
def cL199 : List MI := cL199_0 ++ ( cL199_1 ++ ( cL199_2 ++ ( cL199_3 ++ ([]))))
/-- DoorPaintsModel.isAct(I)Z -/
def cL200_0 : List MI := [(0, .iload_n 1, 1, 0, 0, 0), (1, .i2l, 1, 0, 0, 0), (2, .ldc2_w 134, 3, 0, 0, 90), (5, .ldc2_w 136, 3, 0, 0, 92), (8, .invokestatic 75, 3, 148, 3, 0), (11, .ifCond .ne 29, 3, 0, 0, 0), (14, .iload_n 1, 1, 0, 0, 0), (15, .ifCond .lt 29, 3, 0, 0, 0)]
def cL200_1 : List MI := [(18, .aload_n 0, 1, 0, 0, 0), (19, .iload_n 1, 1, 0, 0, 0), (20, .bipush 10, 2, 0, 0, 0), (22, .idiv, 1, 0, 0, 0), (23, .invokevirtual 167, 3, 177, 2, 9), (26, .ifCond .eq 18, 3, 0, 0, 0), (29, .aload_n 0, 1, 0, 0, 0), (30, .iload_n 1, 1, 0, 0, 0), (31, .bipush 10, 2, 0, 0, 0)]
def cL200_2 : List MI := [(33, .irem, 1, 0, 0, 0), (34, .invokevirtual 170, 3, 181, 2, 9), (37, .ifCond .eq 7, 3, 0, 0, 0), (40, .iconst 1, 1, 0, 0, 0), (41, .goto 4, 3, 0, 0, 0), (44, .iconst 0, 1, 0, 0, 0), (45, .ireturn, 1, 0, 0, 0)]
def cL200 : List MI := cL200_0 ++ ( cL200_1 ++ ( cL200_2 ++ ([])))
/-- DoorPaintsModel.cut(I)I -/
def cL201_0 : List MI := [(0, .iload_n 1, 1, 0, 0, 0), (1, .i2l, 1, 0, 0, 0), (2, .lconst 0, 1, 0, 0, 0), (3, .aload_n 0, 1, 0, 0, 0), (4, .getfield 7, 3, 9, 0, 0), (7, .bipush 52, 2, 0, 0, 0), (9, .iaload, 1, 0, 0, 0), (10, .i2l, 1, 0, 0, 0), (11, .invokestatic 75, 3, 148, 3, 0), (14, .ifCond .eq 13, 3, 0, 0, 0)]
def cL201_1 : List MI := [(17, .aload_n 0, 1, 0, 0, 0), (18, .bipush 52, 2, 0, 0, 0), (20, .iload_n 1, 1, 0, 0, 0), (21, .invokevirtual 253, 3, 197, 3, 9), (24, .goto 4, 3, 0, 0, 0), (27, .iconst (-1), 1, 0, 0, 0), (28, .ireturn, 1, 0, 0, 0)]
def cL201 : List MI := cL201_0 ++ ( cL201_1 ++ ([]))
/-- DoorPaintsModel.runs(I)I -/
def cL202_0 : List MI := [(0, .iload_n 1, 1, 0, 0, 0), (1, .i2l, 1, 0, 0, 0), (2, .lconst 0, 1, 0, 0, 0), (3, .ldc2_w 238, 3, 0, 0, 4), (6, .invokestatic 75, 3, 148, 3, 0), (9, .ifCond .ne 5, 3, 0, 0, 0), (12, .iconst (-1), 1, 0, 0, 0), (13, .ireturn, 1, 0, 0, 0), (14, .aload_n 0, 1, 0, 0, 0), (15, .invokevirtual 232, 3, 168, 1, 9)]
def cL202_1 : List MI := [(18, .aload_n 0, 1, 0, 0, 0), (19, .iconst 0, 1, 0, 0, 0), (20, .putfield 216, 3, 9, 22, 0), (23, .bipush (-4), 2, 0, 0, 0), (25, .istore_n 2, 1, 0, 0, 0), (26, .iconst 0, 1, 0, 0, 0), (27, .istore_n 3, 1, 0, 0, 0), (28, .iload_n 3, 1, 0, 0, 0), (29, .aload_n 0, 1, 0, 0, 0), (30, .getfield 7, 3, 9, 0, 0)]
def cL202_2 : List MI := [(33, .bipush 52, 2, 0, 0, 0), (35, .iaload, 1, 0, 0, 0), (36, .if_icmp .ge 41, 3, 0, 0, 0), (39, .aload_n 0, 1, 0, 0, 0), (40, .aload_n 0, 1, 0, 0, 0), (41, .getfield 7, 3, 9, 0, 0), (44, .bipush 53, 2, 0, 0, 0), (46, .iload_n 3, 1, 0, 0, 0), (47, .iadd, 1, 0, 0, 0)]
def cL202_3 : List MI := [(48, .iaload, 1, 0, 0, 0), (49, .invokevirtual 222, 3, 203, 2, 9), (52, .aload_n 0, 1, 0, 0, 0), (53, .getfield 207, 3, 9, 23, 0), (56, .ifCond .ne 13, 3, 0, 0, 0), (59, .iload_n 2, 1, 0, 0, 0), (60, .bipush (-4), 2, 0, 0, 0), (62, .if_icmp .ne 7, 3, 0, 0, 0)]
def cL202_4 : List MI := [(65, .iload_n 3, 1, 0, 0, 0), (66, .goto 4, 3, 0, 0, 0), (69, .iload_n 2, 1, 0, 0, 0), (70, .istore_n 2, 1, 0, 0, 0), (71, .iinc 3 1, 3, 0, 0, 0), (74, .goto (-46), 3, 0, 0, 0), (77, .iconst 0, 1, 0, 0, 0), (78, .istore_n 3, 1, 0, 0, 0), (79, .iconst 0, 1, 0, 0, 0)]
def cL202_5 : List MI := [(80, .istore 4, 2, 0, 0, 0), (82, .iload 4, 2, 0, 0, 0), (84, .aload_n 0, 1, 0, 0, 0), (85, .getfield 67, 3, 9, 3, 0), (88, .if_icmp .ge 33, 3, 0, 0, 0), (91, .iload_n 3, 1, 0, 0, 0), (92, .aload_n 0, 1, 0, 0, 0), (93, .iload 4, 2, 0, 0, 0), (95, .iconst 3, 1, 0, 0, 0)]
def cL202_6 : List MI := [(96, .invokevirtual 182, 3, 170, 3, 9), (99, .ifCond .eq 7, 3, 0, 0, 0), (102, .iconst 1, 1, 0, 0, 0), (103, .goto 4, 3, 0, 0, 0), (106, .iconst 0, 1, 0, 0, 0), (107, .invokestatic 228, 3, 175, 1, 0), (110, .iload 4, 2, 0, 0, 0)]
def cL202_7 : List MI := [(112, .ishl, 1, 0, 0, 0), (113, .ior, 1, 0, 0, 0), (114, .istore_n 3, 1, 0, 0, 0), (115, .iinc 4 1, 3, 0, 0, 0), (118, .goto (-36), 3, 0, 0, 0), (121, .iload_n 1, 1, 0, 0, 0), (122, .ifCond .ne 10, 3, 0, 0, 0), (125, .aload_n 0, 1, 0, 0, 0), (126, .getfield 216, 3, 9, 22, 0)]
def cL202_8 : List MI := [(129, .goto 37, 3, 0, 0, 0), (132, .iload_n 1, 1, 0, 0, 0), (133, .iconst 1, 1, 0, 0, 0), (134, .if_icmp .ne 10, 3, 0, 0, 0), (137, .aload_n 0, 1, 0, 0, 0), (138, .invokevirtual 235, 3, 171, 1, 9), (141, .goto 25, 3, 0, 0, 0)]
def cL202_9 : List MI := [(144, .iload_n 1, 1, 0, 0, 0), (145, .iconst 2, 1, 0, 0, 0), (146, .if_icmp .ne 7, 3, 0, 0, 0), (149, .iload_n 2, 1, 0, 0, 0), (150, .goto 16, 3, 0, 0, 0), (153, .iload_n 1, 1, 0, 0, 0), (154, .iconst 3, 1, 0, 0, 0), (155, .if_icmp .ne 10, 3, 0, 0, 0), (158, .aload_n 0, 1, 0, 0, 0), (159, .invokevirtual 247, 3, 193, 1, 9)]
def cL202_10 : List MI := [(162, .goto 4, 3, 0, 0, 0), (165, .iload_n 3, 1, 0, 0, 0), (166, .ireturn, 1, 0, 0, 0)]
def cL202 : List MI := cL202_0 ++ ( cL202_1 ++ ( cL202_2 ++ ( cL202_3 ++ ( cL202_4 ++ ( cL202_5 ++ ( cL202_6 ++ ( cL202_7 ++ ( cL202_8 ++ ( cL202_9 ++ ( cL202_10 ++ ([])))))))))))
/-- DoorPaintsModel.acts(I)V -/
def cL203_0 : List MI := [(0, .aload_n 0, 1, 0, 0, 0), (1, .iconst 1, 1, 0, 0, 0), (2, .putfield 207, 3, 9, 23, 0), (5, .iload_n 1, 1, 0, 0, 0), (6, .bipush 90, 2, 0, 0, 0), (8, .if_icmp .lt 11, 3, 0, 0, 0), (11, .aload_n 0, 1, 0, 0, 0), (12, .iload_n 1, 1, 0, 0, 0), (13, .invokevirtual 210, 3, 191, 2, 9)]
def cL203_1 : List MI := [(16, .goto 47, 3, 0, 0, 0), (19, .aload_n 0, 1, 0, 0, 0), (20, .iload_n 1, 1, 0, 0, 0), (21, .bipush 10, 2, 0, 0, 0), (23, .idiv, 1, 0, 0, 0), (24, .iload_n 1, 1, 0, 0, 0), (25, .bipush 10, 2, 0, 0, 0), (27, .irem, 1, 0, 0, 0), (28, .invokevirtual 213, 3, 186, 3, 9), (31, .ifCond .ne 27, 3, 0, 0, 0)]
def cL203_2 : List MI := [(34, .aload_n 0, 1, 0, 0, 0), (35, .dup, 1, 0, 0, 0), (36, .getfield 216, 3, 9, 22, 0), (39, .aload_n 0, 1, 0, 0, 0), (40, .iload_n 1, 1, 0, 0, 0), (41, .bipush 10, 2, 0, 0, 0), (43, .idiv, 1, 0, 0, 0), (44, .iload_n 1, 1, 0, 0, 0), (45, .bipush 10, 2, 0, 0, 0), (47, .irem, 1, 0, 0, 0)]
def cL203_3 : List MI := [(48, .invokevirtual 219, 3, 187, 3, 9), (51, .iadd, 1, 0, 0, 0), (52, .putfield 216, 3, 9, 22, 0), (55, .goto 8, 3, 0, 0, 0), (58, .aload_n 0, 1, 0, 0, 0), (59, .iconst 0, 1, 0, 0, 0), (60, .putfield 207, 3, 9, 23, 0), (63, .return_, 1, 0, 0, 0)]
def cL203 : List MI := cL203_0 ++ ( cL203_1 ++ ( cL203_2 ++ ( cL203_3 ++ ([]))))
/-- DoorPaintsModel.ahead(I)I -/
def cL204_0 : List MI := [(0, .aload_n 0, 1, 0, 0, 0), (1, .iload_n 1, 1, 0, 0, 0), (2, .invokevirtual 170, 3, 181, 2, 9), (5, .ifCond .ne 5, 3, 0, 0, 0), (8, .iconst (-1), 1, 0, 0, 0), (9, .ireturn, 1, 0, 0, 0), (10, .aload_n 0, 1, 0, 0, 0), (11, .invokevirtual 232, 3, 168, 1, 9), (14, .aload_n 0, 1, 0, 0, 0), (15, .invokevirtual 259, 3, 205, 1, 9)]
def cL204_1 : List MI := [(18, .aload_n 0, 1, 0, 0, 0), (19, .iload_n 1, 1, 0, 0, 0), (20, .invokevirtual 194, 3, 173, 2, 9), (23, .ireturn, 1, 0, 0, 0)]
def cL204 : List MI := cL204_0 ++ ( cL204_1 ++ ([]))
/-- DoorPaintsModel.plansGo()V -/
def cL205_0 : List MI := [(0, .aload_n 0, 1, 0, 0, 0), (1, .iconst 0, 1, 0, 0, 0), (2, .putfield 216, 3, 9, 22, 0), (5, .iconst 0, 1, 0, 0, 0), (6, .istore_n 1, 1, 0, 0, 0), (7, .iload_n 1, 1, 0, 0, 0), (8, .aload_n 0, 1, 0, 0, 0), (9, .getfield 7, 3, 9, 0, 0), (12, .bipush 52, 2, 0, 0, 0), (14, .iaload, 1, 0, 0, 0), (15, .if_icmp .ge 22, 3, 0, 0, 0)]
def cL205_1 : List MI := [(18, .aload_n 0, 1, 0, 0, 0), (19, .aload_n 0, 1, 0, 0, 0), (20, .getfield 7, 3, 9, 0, 0), (23, .bipush 53, 2, 0, 0, 0), (25, .iload_n 1, 1, 0, 0, 0), (26, .iadd, 1, 0, 0, 0), (27, .iaload, 1, 0, 0, 0), (28, .invokevirtual 222, 3, 203, 2, 9), (31, .iinc 1 1, 3, 0, 0, 0)]
def cL205_2 : List MI := [(34, .goto (-27), 3, 0, 0, 0), (37, .return_, 1, 0, 0, 0)]
def cL205 : List MI := cL205_0 ++ ( cL205_1 ++ ( cL205_2 ++ ([])))
/-- DoorPaintsModel.clears(I)I -/
def cL206_0 : List MI := [(0, .aload_n 0, 1, 0, 0, 0), (1, .iload_n 1, 1, 0, 0, 0), (2, .invokevirtual 170, 3, 181, 2, 9), (5, .ifCond .ne 5, 3, 0, 0, 0), (8, .iconst (-1), 1, 0, 0, 0), (9, .ireturn, 1, 0, 0, 0), (10, .iconst 0, 1, 0, 0, 0), (11, .istore_n 2, 1, 0, 0, 0), (12, .iconst 0, 1, 0, 0, 0), (13, .istore_n 3, 1, 0, 0, 0), (14, .iload_n 3, 1, 0, 0, 0), (15, .aload_n 0, 1, 0, 0, 0)]
def cL206_1 : List MI := [(16, .getfield 67, 3, 9, 3, 0), (19, .if_icmp .ge 50, 3, 0, 0, 0), (22, .aload_n 0, 1, 0, 0, 0), (23, .invokevirtual 232, 3, 168, 1, 9), (26, .aload_n 0, 1, 0, 0, 0), (27, .iload_n 3, 1, 0, 0, 0), (28, .iload_n 1, 1, 0, 0, 0), (29, .invokevirtual 213, 3, 186, 3, 9)]
def cL206_2 : List MI := [(32, .ifCond .ne 31, 3, 0, 0, 0), (35, .aload_n 0, 1, 0, 0, 0), (36, .iload_n 3, 1, 0, 0, 0), (37, .iload_n 1, 1, 0, 0, 0), (38, .invokevirtual 219, 3, 187, 3, 9), (41, .pop, 1, 0, 0, 0), (42, .iload_n 2, 1, 0, 0, 0), (43, .aload_n 0, 1, 0, 0, 0), (44, .iload_n 1, 1, 0, 0, 0), (45, .invokevirtual 225, 3, 172, 2, 9)]
def cL206_3 : List MI := [(48, .ifCond .ne 7, 3, 0, 0, 0), (51, .iconst 1, 1, 0, 0, 0), (52, .goto 4, 3, 0, 0, 0), (55, .iconst 0, 1, 0, 0, 0), (56, .invokestatic 228, 3, 175, 1, 0), (59, .iload_n 3, 1, 0, 0, 0), (60, .ishl, 1, 0, 0, 0), (61, .ior, 1, 0, 0, 0), (62, .istore_n 2, 1, 0, 0, 0), (63, .iinc 3 1, 3, 0, 0, 0)]
def cL206_4 : List MI := [(66, .goto (-52), 3, 0, 0, 0), (69, .iload_n 2, 1, 0, 0, 0), (70, .ireturn, 1, 0, 0, 0)]
def cL206 : List MI := cL206_0 ++ ( cL206_1 ++ ( cL206_2 ++ ( cL206_3 ++ ( cL206_4 ++ ([])))))
/-- DoorPaintsModel.best(II)I -/
def cL207_0 : List MI := [(0, .iload_n 1, 1, 0, 0, 0), (1, .i2l, 1, 0, 0, 0), (2, .lconst 0, 1, 0, 0, 0), (3, .ldc2_w 138, 3, 0, 0, 3), (6, .invokestatic 75, 3, 148, 3, 0), (9, .ifCond .eq 25, 3, 0, 0, 0), (12, .iload_n 2, 1, 0, 0, 0), (13, .invokestatic 271, 3, 208, 1, 0)]
def cL207_1 : List MI := [(16, .ifCond .ne 20, 3, 0, 0, 0), (19, .iload_n 2, 1, 0, 0, 0), (20, .bipush 10, 2, 0, 0, 0), (22, .isub, 1, 0, 0, 0), (23, .i2l, 1, 0, 0, 0), (24, .lconst 0, 1, 0, 0, 0), (25, .ldc2_w 245, 3, 0, 0, 2), (28, .invokestatic 75, 3, 148, 3, 0), (31, .ifCond .ne 5, 3, 0, 0, 0)]
def cL207_2 : List MI := [(34, .iconst (-1), 1, 0, 0, 0), (35, .ireturn, 1, 0, 0, 0), (36, .aload_n 0, 1, 0, 0, 0), (37, .invokevirtual 262, 3, 209, 1, 9), (40, .ifCond .ne 7, 3, 0, 0, 0), (43, .iconst 0, 1, 0, 0, 0), (44, .goto 4, 3, 0, 0, 0), (47, .iload_n 1, 1, 0, 0, 0)]
def cL207_3 : List MI := [(48, .istore_n 3, 1, 0, 0, 0), (49, .ldc_w 274, 3, 0, 0, 1000000), (52, .istore 4, 2, 0, 0, 0), (54, .iconst 0, 1, 0, 0, 0), (55, .istore 5, 2, 0, 0, 0), (57, .iconst 0, 1, 0, 0, 0), (58, .istore 6, 2, 0, 0, 0), (60, .iconst 0, 1, 0, 0, 0), (61, .istore 7, 2, 0, 0, 0), (63, .iload 7, 2, 0, 0, 0)]
def cL207_4 : List MI := [(65, .aload_n 0, 1, 0, 0, 0), (66, .iload_n 3, 1, 0, 0, 0), (67, .invokevirtual 265, 3, 210, 2, 9), (70, .if_icmp .ge 99, 3, 0, 0, 0), (73, .aload_n 0, 1, 0, 0, 0), (74, .iload 7, 2, 0, 0, 0), (76, .iload_n 3, 1, 0, 0, 0), (77, .invokevirtual 275, 3, 211, 3, 9)]
def cL207_5 : List MI := [(80, .aload_n 0, 1, 0, 0, 0), (81, .invokevirtual 235, 3, 171, 1, 9), (84, .invokestatic 279, 3, 213, 1, 0), (87, .istore 8, 2, 0, 0, 0), (89, .iload 8, 2, 0, 0, 0), (91, .iload 4, 2, 0, 0, 0), (93, .if_icmp .lt 19, 3, 0, 0, 0)]
def cL207_6 : List MI := [(96, .iload 8, 2, 0, 0, 0), (98, .iload 4, 2, 0, 0, 0), (100, .if_icmp .ne 16, 3, 0, 0, 0), (103, .aload_n 0, 1, 0, 0, 0), (104, .getfield 216, 3, 9, 22, 0), (107, .iload 5, 2, 0, 0, 0), (109, .if_icmp .ge 7, 3, 0, 0, 0)]
def cL207_7 : List MI := [(112, .iconst 1, 1, 0, 0, 0), (113, .goto 4, 3, 0, 0, 0), (116, .iconst 0, 1, 0, 0, 0), (117, .istore 9, 2, 0, 0, 0), (119, .iload 9, 2, 0, 0, 0), (121, .ifCond .eq 8, 3, 0, 0, 0), (124, .iload 7, 2, 0, 0, 0), (126, .goto 5, 3, 0, 0, 0)]
def cL207_8 : List MI := [(129, .iload 6, 2, 0, 0, 0), (131, .istore 6, 2, 0, 0, 0), (133, .iload 9, 2, 0, 0, 0), (135, .ifCond .eq 10, 3, 0, 0, 0), (138, .aload_n 0, 1, 0, 0, 0), (139, .getfield 216, 3, 9, 22, 0), (142, .goto 5, 3, 0, 0, 0)]
def cL207_9 : List MI := [(145, .iload 5, 2, 0, 0, 0), (147, .istore 5, 2, 0, 0, 0), (149, .iload 9, 2, 0, 0, 0), (151, .ifCond .eq 8, 3, 0, 0, 0), (154, .iload 8, 2, 0, 0, 0), (156, .goto 5, 3, 0, 0, 0), (159, .iload 4, 2, 0, 0, 0)]
def cL207_10 : List MI := [(161, .istore 4, 2, 0, 0, 0), (163, .iinc 7 1, 3, 0, 0, 0), (166, .goto (-103), 3, 0, 0, 0), (169, .iload_n 2, 1, 0, 0, 0), (170, .invokestatic 271, 3, 208, 1, 0), (173, .ifCond .eq 15, 3, 0, 0, 0)]
def cL207_11 : List MI := [(176, .iload_n 2, 1, 0, 0, 0), (177, .ifCond .ne 8, 3, 0, 0, 0), (180, .iload 4, 2, 0, 0, 0), (182, .goto 5, 3, 0, 0, 0), (185, .iload 5, 2, 0, 0, 0), (187, .ireturn, 1, 0, 0, 0), (188, .iload_n 2, 1, 0, 0, 0), (189, .bipush 10, 2, 0, 0, 0), (191, .isub, 1, 0, 0, 0)]
def cL207_12 : List MI := [(192, .iload_n 3, 1, 0, 0, 0), (193, .if_icmp .ge 17, 3, 0, 0, 0), (196, .aload_n 0, 1, 0, 0, 0), (197, .iload 6, 2, 0, 0, 0), (199, .iload_n 3, 1, 0, 0, 0), (200, .iload_n 2, 1, 0, 0, 0), (201, .bipush 10, 2, 0, 0, 0), (203, .isub, 1, 0, 0, 0), (204, .invokevirtual 282, 3, 214, 4, 9), (207, .goto 5, 3, 0, 0, 0)]
def cL207_13 : List MI := [(210, .bipush (-4), 2, 0, 0, 0), (212, .ireturn, 1, 0, 0, 0)]
def cL207 : List MI := cL207_0 ++ ( cL207_1 ++ ( cL207_2 ++ ( cL207_3 ++ ( cL207_4 ++ ( cL207_5 ++ ( cL207_6 ++ ( cL207_7 ++ ( cL207_8 ++ ( cL207_9 ++ ( cL207_10 ++ ( cL207_11 ++ ( cL207_12 ++ ( cL207_13 ++ ([]))))))))))))))
/-- DoorPaintsModel.isPart(I)Z -/
def cL208_0 : List MI := [(0, .iload_n 0, 1, 0, 0, 0), (1, .i2l, 1, 0, 0, 0), (2, .lconst 0, 1, 0, 0, 0), (3, .lconst 1, 1, 0, 0, 0), (4, .invokestatic 75, 3, 148, 3, 0), (7, .ireturn, 1, 0, 0, 0)]
def cL208 : List MI := cL208_0 ++ ([])
/-- DoorPaintsModel.kindsOfVisit()I -/
def cL209_0 : List MI := [(0, .aload_n 0, 1, 0, 0, 0), (1, .getfield 67, 3, 9, 3, 0), (4, .aload_n 0, 1, 0, 0, 0), (5, .getfield 70, 3, 9, 4, 0), (8, .imul, 1, 0, 0, 0), (9, .ireturn, 1, 0, 0, 0)]
def cL209 : List MI := cL209_0 ++ ([])
/-- DoorPaintsModel.rowsOf(I)I -/
def cL210_0 : List MI := [(0, .iconst 1, 1, 0, 0, 0), (1, .istore_n 2, 1, 0, 0, 0), (2, .iconst 0, 1, 0, 0, 0), (3, .istore_n 3, 1, 0, 0, 0), (4, .iload_n 3, 1, 0, 0, 0), (5, .iload_n 1, 1, 0, 0, 0), (6, .if_icmp .ge 16, 3, 0, 0, 0), (9, .iload_n 2, 1, 0, 0, 0), (10, .aload_n 0, 1, 0, 0, 0), (11, .invokevirtual 262, 3, 209, 1, 9), (14, .imul, 1, 0, 0, 0), (15, .istore_n 2, 1, 0, 0, 0)]
def cL210_1 : List MI := [(16, .iinc 3 1, 3, 0, 0, 0), (19, .goto (-15), 3, 0, 0, 0), (22, .iload_n 2, 1, 0, 0, 0), (23, .ireturn, 1, 0, 0, 0)]
def cL210 : List MI := cL210_0 ++ ( cL210_1 ++ ([]))
/-- DoorPaintsModel.goesRow(II)V -/
def cL211_0 : List MI := [(0, .aload_n 0, 1, 0, 0, 0), (1, .iload_n 2, 1, 0, 0, 0), (2, .invokevirtual 265, 3, 210, 2, 9), (5, .istore_n 3, 1, 0, 0, 0), (6, .aload_n 0, 1, 0, 0, 0), (7, .invokevirtual 232, 3, 168, 1, 9), (10, .aload_n 0, 1, 0, 0, 0), (11, .iconst 0, 1, 0, 0, 0), (12, .putfield 216, 3, 9, 22, 0), (15, .iconst 0, 1, 0, 0, 0)]
def cL211_1 : List MI := [(16, .istore 4, 2, 0, 0, 0), (18, .iload 4, 2, 0, 0, 0), (20, .iload_n 2, 1, 0, 0, 0), (21, .if_icmp .ge 32, 3, 0, 0, 0), (24, .iload_n 3, 1, 0, 0, 0), (25, .aload_n 0, 1, 0, 0, 0), (26, .invokevirtual 262, 3, 209, 1, 9), (29, .idiv, 1, 0, 0, 0), (30, .istore_n 3, 1, 0, 0, 0), (31, .aload_n 0, 1, 0, 0, 0)]
def cL211_2 : List MI := [(32, .aload_n 0, 1, 0, 0, 0), (33, .iload_n 1, 1, 0, 0, 0), (34, .iload_n 3, 1, 0, 0, 0), (35, .idiv, 1, 0, 0, 0), (36, .aload_n 0, 1, 0, 0, 0), (37, .invokevirtual 262, 3, 209, 1, 9), (40, .irem, 1, 0, 0, 0), (41, .invokevirtual 268, 3, 212, 2, 9), (44, .invokevirtual 222, 3, 203, 2, 9), (47, .iinc 4 1, 3, 0, 0, 0)]
def cL211_3 : List MI := [(50, .goto (-32), 3, 0, 0, 0), (53, .return_, 1, 0, 0, 0)]
def cL211 : List MI := cL211_0 ++ ( cL211_1 ++ ( cL211_2 ++ ( cL211_3 ++ ([]))))
/-- DoorPaintsModel.actAt(I)I -/
def cL212_0 : List MI := [(0, .bipush 10, 2, 0, 0, 0), (2, .iload_n 1, 1, 0, 0, 0), (3, .aload_n 0, 1, 0, 0, 0), (4, .getfield 70, 3, 9, 4, 0), (7, .idiv, 1, 0, 0, 0), (8, .imul, 1, 0, 0, 0), (9, .iload_n 1, 1, 0, 0, 0), (10, .aload_n 0, 1, 0, 0, 0), (11, .getfield 70, 3, 9, 4, 0), (14, .irem, 1, 0, 0, 0), (15, .iadd, 1, 0, 0, 0)]
def cL212_1 : List MI := [(16, .ireturn, 1, 0, 0, 0)]
def cL212 : List MI := cL212_0 ++ ( cL212_1 ++ ([]))
/-- DoorPaintsModel.bitsOf(I)I -/
def cL213_0 : List MI := [(0, .iconst 0, 1, 0, 0, 0), (1, .istore_n 1, 1, 0, 0, 0), (2, .iconst 0, 1, 0, 0, 0), (3, .istore_n 2, 1, 0, 0, 0), (4, .iload_n 2, 1, 0, 0, 0), (5, .bipush 8, 2, 0, 0, 0), (7, .if_icmp .ge 17, 3, 0, 0, 0), (10, .iload_n 1, 1, 0, 0, 0), (11, .iload_n 0, 1, 0, 0, 0), (12, .iload_n 2, 1, 0, 0, 0), (13, .ishr, 1, 0, 0, 0), (14, .iconst 1, 1, 0, 0, 0), (15, .iand, 1, 0, 0, 0)]
def cL213_1 : List MI := [(16, .iadd, 1, 0, 0, 0), (17, .istore_n 1, 1, 0, 0, 0), (18, .iinc 2 1, 3, 0, 0, 0), (21, .goto (-17), 3, 0, 0, 0), (24, .iload_n 1, 1, 0, 0, 0), (25, .ireturn, 1, 0, 0, 0)]
def cL213 : List MI := cL213_0 ++ ( cL213_1 ++ ([]))
/-- DoorPaintsModel.visitIn(III)I -/
def cL214_0 : List MI := [(0, .aload_n 0, 1, 0, 0, 0), (1, .iload_n 1, 1, 0, 0, 0), (2, .aload_n 0, 1, 0, 0, 0), (3, .iload_n 2, 1, 0, 0, 0), (4, .iconst 1, 1, 0, 0, 0), (5, .isub, 1, 0, 0, 0), (6, .iload_n 3, 1, 0, 0, 0), (7, .isub, 1, 0, 0, 0), (8, .invokevirtual 265, 3, 210, 2, 9), (11, .idiv, 1, 0, 0, 0), (12, .aload_n 0, 1, 0, 0, 0), (13, .invokevirtual 262, 3, 209, 1, 9)]
def cL214_1 : List MI := [(16, .irem, 1, 0, 0, 0), (17, .invokevirtual 268, 3, 212, 2, 9), (20, .ireturn, 1, 0, 0, 0)]
def cL214 : List MI := cL214_0 ++ ( cL214_1 ++ ([]))
/-- DoorPaintsModel.few(I)I -/
def cL215_0 : List MI := [(0, .iload_n 1, 1, 0, 0, 0), (1, .ifCond .eq 20, 3, 0, 0, 0), (4, .iload_n 1, 1, 0, 0, 0), (5, .bipush 10, 2, 0, 0, 0), (7, .isub, 1, 0, 0, 0), (8, .i2l, 1, 0, 0, 0), (9, .lconst 0, 1, 0, 0, 0), (10, .ldc2_w 245, 3, 0, 0, 2), (13, .invokestatic 75, 3, 148, 3, 0)]
def cL215_1 : List MI := [(16, .ifCond .ne 5, 3, 0, 0, 0), (19, .iconst (-1), 1, 0, 0, 0), (20, .ireturn, 1, 0, 0, 0), (21, .iconst 0, 1, 0, 0, 0), (22, .istore_n 2, 1, 0, 0, 0), (23, .iload_n 2, 1, 0, 0, 0), (24, .aload_n 0, 1, 0, 0, 0), (25, .invokevirtual 262, 3, 209, 1, 9), (28, .ifCond .ne 7, 3, 0, 0, 0), (31, .iconst 0, 1, 0, 0, 0)]
def cL215_2 : List MI := [(32, .goto 4, 3, 0, 0, 0), (35, .iconst 3, 1, 0, 0, 0), (36, .if_icmp .gt 71, 3, 0, 0, 0), (39, .iconst 0, 1, 0, 0, 0), (40, .istore_n 3, 1, 0, 0, 0), (41, .iload_n 3, 1, 0, 0, 0), (42, .aload_n 0, 1, 0, 0, 0), (43, .iload_n 2, 1, 0, 0, 0), (44, .invokevirtual 265, 3, 210, 2, 9), (47, .if_icmp .ge 54, 3, 0, 0, 0)]
def cL215_3 : List MI := [(50, .aload_n 0, 1, 0, 0, 0), (51, .iload_n 3, 1, 0, 0, 0), (52, .iload_n 2, 1, 0, 0, 0), (53, .invokevirtual 275, 3, 211, 3, 9), (56, .aload_n 0, 1, 0, 0, 0), (57, .invokevirtual 235, 3, 171, 1, 9), (60, .ifCond .ne 35, 3, 0, 0, 0), (63, .iload_n 1, 1, 0, 0, 0)]
def cL215_4 : List MI := [(64, .ifCond .ne 7, 3, 0, 0, 0), (67, .iload_n 2, 1, 0, 0, 0), (68, .goto 26, 3, 0, 0, 0), (71, .iload_n 1, 1, 0, 0, 0), (72, .bipush 10, 2, 0, 0, 0), (74, .isub, 1, 0, 0, 0), (75, .iload_n 2, 1, 0, 0, 0), (76, .if_icmp .ge 16, 3, 0, 0, 0), (79, .aload_n 0, 1, 0, 0, 0)]
def cL215_5 : List MI := [(80, .iload_n 3, 1, 0, 0, 0), (81, .iload_n 2, 1, 0, 0, 0), (82, .iload_n 1, 1, 0, 0, 0), (83, .bipush 10, 2, 0, 0, 0), (85, .isub, 1, 0, 0, 0), (86, .invokevirtual 282, 3, 214, 4, 9), (89, .goto 5, 3, 0, 0, 0), (92, .bipush (-4), 2, 0, 0, 0), (94, .ireturn, 1, 0, 0, 0), (95, .iinc 3 1, 3, 0, 0, 0)]
def cL215_6 : List MI := [(98, .goto (-57), 3, 0, 0, 0), (101, .iinc 2 1, 3, 0, 0, 0), (104, .goto (-81), 3, 0, 0, 0), (107, .bipush (-4), 2, 0, 0, 0), (109, .ireturn, 1, 0, 0, 0)]
def cL215 : List MI := cL215_0 ++ ( cL215_1 ++ ( cL215_2 ++ ( cL215_3 ++ ( cL215_4 ++ ( cL215_5 ++ ( cL215_6 ++ ([])))))))
/-- DoorPaintsModel.reads(I)I -/
def cL216_0 : List MI := [(0, .aload_n 0, 1, 0, 0, 0), (1, .iload_n 1, 1, 0, 0, 0), (2, .invokevirtual 167, 3, 177, 2, 9), (5, .ifCond .ne 5, 3, 0, 0, 0), (8, .iconst (-1), 1, 0, 0, 0), (9, .ireturn, 1, 0, 0, 0), (10, .aload_n 0, 1, 0, 0, 0), (11, .invokevirtual 232, 3, 168, 1, 9), (14, .iconst 0, 1, 0, 0, 0), (15, .istore_n 2, 1, 0, 0, 0)]
def cL216_1 : List MI := [(16, .iconst 0, 1, 0, 0, 0), (17, .istore_n 3, 1, 0, 0, 0), (18, .iload_n 3, 1, 0, 0, 0), (19, .aload_n 0, 1, 0, 0, 0), (20, .getfield 70, 3, 9, 4, 0), (23, .if_icmp .ge 69, 3, 0, 0, 0), (26, .iconst 0, 1, 0, 0, 0), (27, .istore 4, 2, 0, 0, 0), (29, .iconst 0, 1, 0, 0, 0), (30, .istore 5, 2, 0, 0, 0)]
def cL216_2 : List MI := [(32, .iload 5, 2, 0, 0, 0), (34, .aload_n 0, 1, 0, 0, 0), (35, .iload_n 3, 1, 0, 0, 0), (36, .iconst 0, 1, 0, 0, 0), (37, .invokevirtual 176, 3, 169, 3, 9), (40, .if_icmp .ge 36, 3, 0, 0, 0), (43, .iload 4, 2, 0, 0, 0), (45, .ifCond .ne 18, 3, 0, 0, 0)]
def cL216_3 : List MI := [(48, .aload_n 0, 1, 0, 0, 0), (49, .iload_n 3, 1, 0, 0, 0), (50, .iload 5, 2, 0, 0, 0), (52, .invokevirtual 179, 3, 174, 3, 9), (55, .aload_n 0, 1, 0, 0, 0), (56, .iload_n 1, 1, 0, 0, 0), (57, .invokevirtual 197, 3, 178, 2, 9), (60, .if_icmp .ne 7, 3, 0, 0, 0), (63, .iconst 1, 1, 0, 0, 0)]
def cL216_4 : List MI := [(64, .goto 4, 3, 0, 0, 0), (67, .iconst 0, 1, 0, 0, 0), (68, .istore 4, 2, 0, 0, 0), (70, .iinc 5 1, 3, 0, 0, 0), (73, .goto (-41), 3, 0, 0, 0), (76, .iload_n 2, 1, 0, 0, 0), (77, .iload 4, 2, 0, 0, 0), (79, .invokestatic 228, 3, 175, 1, 0)]
def cL216_5 : List MI := [(82, .iload_n 3, 1, 0, 0, 0), (83, .ishl, 1, 0, 0, 0), (84, .ior, 1, 0, 0, 0), (85, .istore_n 2, 1, 0, 0, 0), (86, .iinc 3 1, 3, 0, 0, 0), (89, .goto (-71), 3, 0, 0, 0), (92, .iload_n 2, 1, 0, 0, 0), (93, .ireturn, 1, 0, 0, 0)]
def cL216 : List MI := cL216_0 ++ ( cL216_1 ++ ( cL216_2 ++ ( cL216_3 ++ ( cL216_4 ++ ( cL216_5 ++ ([]))))))
/-- DoorPaintsModel.see(III)I -/
def cL217_0 : List MI := [(0, .aload_n 0, 1, 0, 0, 0), (1, .iload_n 1, 1, 0, 0, 0), (2, .invokevirtual 170, 3, 181, 2, 9), (5, .ifCond .eq 33, 3, 0, 0, 0), (8, .iload_n 2, 1, 0, 0, 0), (9, .i2l, 1, 0, 0, 0), (10, .lconst 0, 1, 0, 0, 0), (11, .ldc2_w 240, 3, 0, 0, 5), (14, .invokestatic 75, 3, 148, 3, 0)]
def cL217_1 : List MI := [(17, .ifCond .eq 21, 3, 0, 0, 0), (20, .iload_n 3, 1, 0, 0, 0), (21, .bipush (-4), 2, 0, 0, 0), (23, .if_icmp .eq 17, 3, 0, 0, 0), (26, .iload_n 3, 1, 0, 0, 0), (27, .i2l, 1, 0, 0, 0), (28, .lconst 0, 1, 0, 0, 0), (29, .ldc2_w 240, 3, 0, 0, 5)]
def cL217_2 : List MI := [(32, .invokestatic 75, 3, 148, 3, 0), (35, .ifCond .ne 5, 3, 0, 0, 0), (38, .iconst (-1), 1, 0, 0, 0), (39, .ireturn, 1, 0, 0, 0), (40, .aload_n 0, 1, 0, 0, 0), (41, .getfield 7, 3, 9, 0, 0), (44, .bipush 61, 2, 0, 0, 0), (46, .iaload, 1, 0, 0, 0), (47, .bipush 6, 2, 0, 0, 0)]
def cL217_3 : List MI := [(49, .if_icmp .ne 6, 3, 0, 0, 0), (52, .bipush (-3), 2, 0, 0, 0), (54, .ireturn, 1, 0, 0, 0), (55, .bipush 62, 2, 0, 0, 0), (57, .iconst 3, 1, 0, 0, 0), (58, .aload_n 0, 1, 0, 0, 0), (59, .getfield 7, 3, 9, 0, 0), (62, .bipush 61, 2, 0, 0, 0)]
def cL217_4 : List MI := [(64, .iaload, 1, 0, 0, 0), (65, .imul, 1, 0, 0, 0), (66, .iadd, 1, 0, 0, 0), (67, .istore 4, 2, 0, 0, 0), (69, .aload_n 0, 1, 0, 0, 0), (70, .getfield 7, 3, 9, 0, 0), (73, .iload 4, 2, 0, 0, 0), (75, .iload_n 1, 1, 0, 0, 0), (76, .iastore, 1, 0, 0, 0), (77, .aload_n 0, 1, 0, 0, 0), (78, .getfield 7, 3, 9, 0, 0)]
def cL217_5 : List MI := [(81, .iload 4, 2, 0, 0, 0), (83, .iconst 1, 1, 0, 0, 0), (84, .iadd, 1, 0, 0, 0), (85, .iload_n 2, 1, 0, 0, 0), (86, .iastore, 1, 0, 0, 0), (87, .aload_n 0, 1, 0, 0, 0), (88, .getfield 7, 3, 9, 0, 0), (91, .iload 4, 2, 0, 0, 0), (93, .iconst 2, 1, 0, 0, 0), (94, .iadd, 1, 0, 0, 0), (95, .iload_n 3, 1, 0, 0, 0)]
def cL217_6 : List MI := [(96, .iastore, 1, 0, 0, 0), (97, .aload_n 0, 1, 0, 0, 0), (98, .getfield 7, 3, 9, 0, 0), (101, .bipush 61, 2, 0, 0, 0), (103, .dup2, 1, 0, 0, 0), (104, .iaload, 1, 0, 0, 0), (105, .iconst 1, 1, 0, 0, 0), (106, .iadd, 1, 0, 0, 0), (107, .iastore, 1, 0, 0, 0), (108, .aload_n 0, 1, 0, 0, 0), (109, .getfield 7, 3, 9, 0, 0)]
def cL217_7 : List MI := [(112, .bipush 61, 2, 0, 0, 0), (114, .iaload, 1, 0, 0, 0), (115, .ireturn, 1, 0, 0, 0)]
def cL217 : List MI := cL217_0 ++ ( cL217_1 ++ ( cL217_2 ++ ( cL217_3 ++ ( cL217_4 ++ ( cL217_5 ++ ( cL217_6 ++ ( cL217_7 ++ ([]))))))))
/-- DoorPaintsModel.forget(I)I -/
def cL218_0 : List MI := [(0, .iload_n 1, 1, 0, 0, 0), (1, .i2l, 1, 0, 0, 0), (2, .lconst 0, 1, 0, 0, 0), (3, .aload_n 0, 1, 0, 0, 0), (4, .getfield 7, 3, 9, 0, 0), (7, .bipush 61, 2, 0, 0, 0), (9, .iaload, 1, 0, 0, 0), (10, .i2l, 1, 0, 0, 0), (11, .invokestatic 75, 3, 148, 3, 0), (14, .ifCond .eq 13, 3, 0, 0, 0)]
def cL218_1 : List MI := [(17, .aload_n 0, 1, 0, 0, 0), (18, .bipush 61, 2, 0, 0, 0), (20, .iload_n 1, 1, 0, 0, 0), (21, .invokevirtual 253, 3, 197, 3, 9), (24, .goto 4, 3, 0, 0, 0), (27, .iconst (-1), 1, 0, 0, 0), (28, .ireturn, 1, 0, 0, 0)]
def cL218 : List MI := cL218_0 ++ ( cL218_1 ++ ([]))
/-- DoorPaintsModel.pots(I)I -/
def cL219_0 : List MI := [(0, .aload_n 0, 1, 0, 0, 0), (1, .iload_n 1, 1, 0, 0, 0), (2, .invokevirtual 167, 3, 177, 2, 9), (5, .ifCond .ne 5, 3, 0, 0, 0), (8, .iconst (-1), 1, 0, 0, 0), (9, .ireturn, 1, 0, 0, 0), (10, .iconst 0, 1, 0, 0, 0), (11, .istore_n 2, 1, 0, 0, 0), (12, .iconst 0, 1, 0, 0, 0), (13, .istore_n 3, 1, 0, 0, 0), (14, .iload_n 3, 1, 0, 0, 0), (15, .aload_n 0, 1, 0, 0, 0)]
def cL219_1 : List MI := [(16, .getfield 67, 3, 9, 3, 0), (19, .if_icmp .ge 39, 3, 0, 0, 0), (22, .aload_n 0, 1, 0, 0, 0), (23, .invokevirtual 232, 3, 168, 1, 9), (26, .aload_n 0, 1, 0, 0, 0), (27, .iload_n 1, 1, 0, 0, 0), (28, .putfield 173, 3, 9, 20, 0), (31, .aload_n 0, 1, 0, 0, 0)]
def cL219_2 : List MI := [(32, .iload_n 3, 1, 0, 0, 0), (33, .putfield 185, 3, 9, 21, 0), (36, .aload_n 0, 1, 0, 0, 0), (37, .invokevirtual 259, 3, 205, 1, 9), (40, .iload_n 2, 1, 0, 0, 0), (41, .aload_n 0, 1, 0, 0, 0), (42, .invokevirtual 286, 3, 220, 1, 9), (45, .invokestatic 228, 3, 175, 1, 0)]
def cL219_3 : List MI := [(48, .iload_n 3, 1, 0, 0, 0), (49, .ishl, 1, 0, 0, 0), (50, .ior, 1, 0, 0, 0), (51, .istore_n 2, 1, 0, 0, 0), (52, .iinc 3 1, 3, 0, 0, 0), (55, .goto (-41), 3, 0, 0, 0), (58, .aload_n 0, 1, 0, 0, 0), (59, .bipush (-4), 2, 0, 0, 0), (61, .putfield 173, 3, 9, 20, 0)]
def cL219_4 : List MI := [(64, .iload_n 2, 1, 0, 0, 0), (65, .ireturn, 1, 0, 0, 0)]
def cL219 : List MI := cL219_0 ++ ( cL219_1 ++ ( cL219_2 ++ ( cL219_3 ++ ( cL219_4 ++ ([])))))
/-- DoorPaintsModel.isSo()Z -/
def cL220_0 : List MI := [(0, .iconst 1, 1, 0, 0, 0), (1, .istore_n 1, 1, 0, 0, 0), (2, .iconst 0, 1, 0, 0, 0), (3, .istore_n 2, 1, 0, 0, 0), (4, .iload_n 2, 1, 0, 0, 0), (5, .aload_n 0, 1, 0, 0, 0), (6, .getfield 7, 3, 9, 0, 0), (9, .bipush 61, 2, 0, 0, 0), (11, .iaload, 1, 0, 0, 0), (12, .if_icmp .ge 89, 3, 0, 0, 0), (15, .aload_n 0, 1, 0, 0, 0)]
def cL220_1 : List MI := [(16, .getfield 7, 3, 9, 0, 0), (19, .bipush 62, 2, 0, 0, 0), (21, .iconst 3, 1, 0, 0, 0), (22, .iload_n 2, 1, 0, 0, 0), (23, .imul, 1, 0, 0, 0), (24, .iadd, 1, 0, 0, 0), (25, .iaload, 1, 0, 0, 0), (26, .istore_n 3, 1, 0, 0, 0), (27, .aload_n 0, 1, 0, 0, 0), (28, .getfield 7, 3, 9, 0, 0), (31, .bipush 62, 2, 0, 0, 0)]
def cL220_2 : List MI := [(33, .iconst 3, 1, 0, 0, 0), (34, .iload_n 2, 1, 0, 0, 0), (35, .imul, 1, 0, 0, 0), (36, .iadd, 1, 0, 0, 0), (37, .iconst 1, 1, 0, 0, 0), (38, .iadd, 1, 0, 0, 0), (39, .iaload, 1, 0, 0, 0), (40, .istore 4, 2, 0, 0, 0), (42, .iload 4, 2, 0, 0, 0), (44, .aload_n 0, 1, 0, 0, 0), (45, .iload_n 3, 1, 0, 0, 0), (46, .iconst 0, 1, 0, 0, 0), (47, .invokevirtual 176, 3, 169, 3, 9)]
def cL220_3 : List MI := [(50, .if_icmp .ge 13, 3, 0, 0, 0), (53, .aload_n 0, 1, 0, 0, 0), (54, .iload_n 3, 1, 0, 0, 0), (55, .iload 4, 2, 0, 0, 0), (57, .invokevirtual 179, 3, 174, 3, 9), (60, .goto 5, 3, 0, 0, 0), (63, .bipush (-4), 2, 0, 0, 0)]
def cL220_4 : List MI := [(65, .istore 5, 2, 0, 0, 0), (67, .iload_n 1, 1, 0, 0, 0), (68, .ifCond .eq 25, 3, 0, 0, 0), (71, .iload 5, 2, 0, 0, 0), (73, .aload_n 0, 1, 0, 0, 0), (74, .getfield 7, 3, 9, 0, 0), (77, .bipush 62, 2, 0, 0, 0), (79, .iconst 3, 1, 0, 0, 0)]
def cL220_5 : List MI := [(80, .iload_n 2, 1, 0, 0, 0), (81, .imul, 1, 0, 0, 0), (82, .iadd, 1, 0, 0, 0), (83, .iconst 2, 1, 0, 0, 0), (84, .iadd, 1, 0, 0, 0), (85, .iaload, 1, 0, 0, 0), (86, .if_icmp .ne 7, 3, 0, 0, 0), (89, .iconst 1, 1, 0, 0, 0), (90, .goto 4, 3, 0, 0, 0), (93, .iconst 0, 1, 0, 0, 0), (94, .istore_n 1, 1, 0, 0, 0), (95, .iinc 2 1, 3, 0, 0, 0)]
def cL220_6 : List MI := [(98, .goto (-94), 3, 0, 0, 0), (101, .iload_n 1, 1, 0, 0, 0), (102, .ireturn, 1, 0, 0, 0)]
def cL220 : List MI := cL220_0 ++ ( cL220_1 ++ ( cL220_2 ++ ( cL220_3 ++ ( cL220_4 ++ ( cL220_5 ++ ( cL220_6 ++ ([])))))))
/-- DoorPaintsModel.rained()I -/
def cL221_0 : List MI := [(0, .iconst 0, 1, 0, 0, 0), (1, .istore_n 1, 1, 0, 0, 0), (2, .iconst 0, 1, 0, 0, 0), (3, .istore_n 2, 1, 0, 0, 0), (4, .iload_n 2, 1, 0, 0, 0), (5, .aload_n 0, 1, 0, 0, 0), (6, .getfield 7, 3, 9, 0, 0), (9, .bipush 52, 2, 0, 0, 0), (11, .iaload, 1, 0, 0, 0), (12, .if_icmp .gt 79, 3, 0, 0, 0), (15, .aload_n 0, 1, 0, 0, 0)]
def cL221_1 : List MI := [(16, .invokevirtual 232, 3, 168, 1, 9), (19, .iconst 0, 1, 0, 0, 0), (20, .istore_n 3, 1, 0, 0, 0), (21, .iload_n 3, 1, 0, 0, 0), (22, .aload_n 0, 1, 0, 0, 0), (23, .getfield 7, 3, 9, 0, 0), (26, .bipush 52, 2, 0, 0, 0), (28, .iaload, 1, 0, 0, 0), (29, .if_icmp .gt 44, 3, 0, 0, 0)]
def cL221_2 : List MI := [(32, .iload_n 3, 1, 0, 0, 0), (33, .iload_n 2, 1, 0, 0, 0), (34, .if_icmp .ne 9, 3, 0, 0, 0), (37, .aload_n 0, 1, 0, 0, 0), (38, .bipush 91, 2, 0, 0, 0), (40, .invokevirtual 222, 3, 203, 2, 9), (43, .iload_n 3, 1, 0, 0, 0), (44, .aload_n 0, 1, 0, 0, 0), (45, .getfield 7, 3, 9, 0, 0)]
def cL221_3 : List MI := [(48, .bipush 52, 2, 0, 0, 0), (50, .iaload, 1, 0, 0, 0), (51, .if_icmp .ge 16, 3, 0, 0, 0), (54, .aload_n 0, 1, 0, 0, 0), (55, .aload_n 0, 1, 0, 0, 0), (56, .getfield 7, 3, 9, 0, 0), (59, .bipush 53, 2, 0, 0, 0), (61, .iload_n 3, 1, 0, 0, 0), (62, .iadd, 1, 0, 0, 0), (63, .iaload, 1, 0, 0, 0)]
def cL221_4 : List MI := [(64, .invokevirtual 222, 3, 203, 2, 9), (67, .iinc 3 1, 3, 0, 0, 0), (70, .goto (-49), 3, 0, 0, 0), (73, .iload_n 1, 1, 0, 0, 0), (74, .aload_n 0, 1, 0, 0, 0), (75, .invokevirtual 286, 3, 220, 1, 9), (78, .invokestatic 228, 3, 175, 1, 0)]
def cL221_5 : List MI := [(81, .iload_n 2, 1, 0, 0, 0), (82, .ishl, 1, 0, 0, 0), (83, .ior, 1, 0, 0, 0), (84, .istore_n 1, 1, 0, 0, 0), (85, .iinc 2 1, 3, 0, 0, 0), (88, .goto (-84), 3, 0, 0, 0), (91, .iload_n 1, 1, 0, 0, 0), (92, .ireturn, 1, 0, 0, 0)]
def cL221 : List MI := cL221_0 ++ ( cL221_1 ++ ( cL221_2 ++ ( cL221_3 ++ ( cL221_4 ++ ( cL221_5 ++ ([]))))))
/-- DoorPaintsModel.orders(I)I -/
def cL222_0 : List MI := [(0, .iload_n 1, 1, 0, 0, 0), (1, .invokestatic 271, 3, 208, 1, 0), (4, .ifCond .ne 5, 3, 0, 0, 0), (7, .iconst (-1), 1, 0, 0, 0), (8, .ireturn, 1, 0, 0, 0), (9, .aload_n 0, 1, 0, 0, 0), (10, .getfield 7, 3, 9, 0, 0), (13, .bipush 52, 2, 0, 0, 0), (15, .iaload, 1, 0, 0, 0)]
def cL222_1 : List MI := [(16, .istore_n 2, 1, 0, 0, 0), (17, .iload_n 2, 1, 0, 0, 0), (18, .iconst 5, 1, 0, 0, 0), (19, .if_icmp .le 6, 3, 0, 0, 0), (22, .bipush (-2), 2, 0, 0, 0), (24, .ireturn, 1, 0, 0, 0), (25, .iconst 1, 1, 0, 0, 0), (26, .istore_n 3, 1, 0, 0, 0), (27, .iconst 0, 1, 0, 0, 0), (28, .istore 4, 2, 0, 0, 0), (30, .iload 4, 2, 0, 0, 0)]
def cL222_2 : List MI := [(32, .iload_n 2, 1, 0, 0, 0), (33, .if_icmp .ge 13, 3, 0, 0, 0), (36, .iload_n 3, 1, 0, 0, 0), (37, .iload_n 2, 1, 0, 0, 0), (38, .imul, 1, 0, 0, 0), (39, .istore_n 3, 1, 0, 0, 0), (40, .iinc 4 1, 3, 0, 0, 0), (43, .goto (-13), 3, 0, 0, 0), (46, .iconst 0, 1, 0, 0, 0), (47, .istore 4, 2, 0, 0, 0)]
def cL222_3 : List MI := [(49, .iconst 0, 1, 0, 0, 0), (50, .istore 5, 2, 0, 0, 0), (52, .iconst 0, 1, 0, 0, 0), (53, .istore 6, 2, 0, 0, 0), (55, .iload 6, 2, 0, 0, 0), (57, .iload_n 3, 1, 0, 0, 0), (58, .if_icmp .ge 100, 3, 0, 0, 0), (61, .aload_n 0, 1, 0, 0, 0), (62, .iload 6, 2, 0, 0, 0)]
def cL222_4 : List MI := [(64, .invokevirtual 290, 3, 223, 2, 9), (67, .ifCond .eq 85, 3, 0, 0, 0), (70, .aload_n 0, 1, 0, 0, 0), (71, .invokevirtual 232, 3, 168, 1, 9), (74, .iconst 0, 1, 0, 0, 0), (75, .istore 7, 2, 0, 0, 0), (77, .iload 7, 2, 0, 0, 0), (79, .iload_n 2, 1, 0, 0, 0)]
def cL222_5 : List MI := [(80, .if_icmp .ge 28, 3, 0, 0, 0), (83, .aload_n 0, 1, 0, 0, 0), (84, .aload_n 0, 1, 0, 0, 0), (85, .getfield 7, 3, 9, 0, 0), (88, .bipush 53, 2, 0, 0, 0), (90, .aload_n 0, 1, 0, 0, 0), (91, .getfield 29, 3, 9, 24, 0), (94, .iload 7, 2, 0, 0, 0)]
def cL222_6 : List MI := [(96, .iaload, 1, 0, 0, 0), (97, .iadd, 1, 0, 0, 0), (98, .iaload, 1, 0, 0, 0), (99, .invokevirtual 222, 3, 203, 2, 9), (102, .iinc 7 1, 3, 0, 0, 0), (105, .goto (-28), 3, 0, 0, 0), (108, .aload_n 0, 1, 0, 0, 0), (109, .invokevirtual 286, 3, 220, 1, 9)]
def cL222_7 : List MI := [(112, .istore 7, 2, 0, 0, 0), (114, .iload 4, 2, 0, 0, 0), (116, .iload 7, 2, 0, 0, 0), (118, .invokestatic 228, 3, 175, 1, 0), (121, .iadd, 1, 0, 0, 0), (122, .istore 4, 2, 0, 0, 0), (124, .iload 5, 2, 0, 0, 0), (126, .iload 7, 2, 0, 0, 0)]
def cL222_8 : List MI := [(128, .ifCond .eq 20, 3, 0, 0, 0), (131, .iload_n 2, 1, 0, 0, 0), (132, .ifCond .le 16, 3, 0, 0, 0), (135, .iconst 1, 1, 0, 0, 0), (136, .aload_n 0, 1, 0, 0, 0), (137, .getfield 29, 3, 9, 24, 0), (140, .iload_n 2, 1, 0, 0, 0), (141, .iconst 1, 1, 0, 0, 0), (142, .isub, 1, 0, 0, 0), (143, .iaload, 1, 0, 0, 0)]
def cL222_9 : List MI := [(144, .ishl, 1, 0, 0, 0), (145, .goto 4, 3, 0, 0, 0), (148, .iconst 0, 1, 0, 0, 0), (149, .ior, 1, 0, 0, 0), (150, .istore 5, 2, 0, 0, 0), (152, .iinc 6 1, 3, 0, 0, 0), (155, .goto (-100), 3, 0, 0, 0), (158, .iload_n 1, 1, 0, 0, 0), (159, .ifCond .ne 8, 3, 0, 0, 0)]
def cL222_10 : List MI := [(162, .iload 4, 2, 0, 0, 0), (164, .goto 5, 3, 0, 0, 0), (167, .iload 5, 2, 0, 0, 0), (169, .ireturn, 1, 0, 0, 0)]
def cL222 : List MI := cL222_0 ++ ( cL222_1 ++ ( cL222_2 ++ ( cL222_3 ++ ( cL222_4 ++ ( cL222_5 ++ ( cL222_6 ++ ( cL222_7 ++ ( cL222_8 ++ ( cL222_9 ++ ( cL222_10 ++ ([])))))))))))
/-- DoorPaintsModel.isOrder(I)Z -/
def cL223_0 : List MI := [(0, .aload_n 0, 1, 0, 0, 0), (1, .getfield 7, 3, 9, 0, 0), (4, .bipush 52, 2, 0, 0, 0), (6, .iaload, 1, 0, 0, 0), (7, .istore_n 2, 1, 0, 0, 0), (8, .iload_n 1, 1, 0, 0, 0), (9, .istore_n 3, 1, 0, 0, 0), (10, .iconst 0, 1, 0, 0, 0), (11, .istore 4, 2, 0, 0, 0), (13, .iload_n 2, 1, 0, 0, 0), (14, .iconst 1, 1, 0, 0, 0), (15, .isub, 1, 0, 0, 0)]
def cL223_1 : List MI := [(16, .istore 5, 2, 0, 0, 0), (18, .iload 5, 2, 0, 0, 0), (20, .ifCond .lt 37, 3, 0, 0, 0), (23, .aload_n 0, 1, 0, 0, 0), (24, .getfield 29, 3, 9, 24, 0), (27, .iload 5, 2, 0, 0, 0), (29, .iload_n 3, 1, 0, 0, 0), (30, .iload_n 2, 1, 0, 0, 0), (31, .irem, 1, 0, 0, 0)]
def cL223_2 : List MI := [(32, .iastore, 1, 0, 0, 0), (33, .iload_n 3, 1, 0, 0, 0), (34, .iload_n 2, 1, 0, 0, 0), (35, .idiv, 1, 0, 0, 0), (36, .istore_n 3, 1, 0, 0, 0), (37, .iload 4, 2, 0, 0, 0), (39, .iconst 1, 1, 0, 0, 0), (40, .aload_n 0, 1, 0, 0, 0), (41, .getfield 29, 3, 9, 24, 0), (44, .iload 5, 2, 0, 0, 0), (46, .iaload, 1, 0, 0, 0), (47, .ishl, 1, 0, 0, 0)]
def cL223_3 : List MI := [(48, .ior, 1, 0, 0, 0), (49, .istore 4, 2, 0, 0, 0), (51, .iinc 5 (-1), 3, 0, 0, 0), (54, .goto (-36), 3, 0, 0, 0), (57, .iload 4, 2, 0, 0, 0), (59, .iconst 1, 1, 0, 0, 0), (60, .iload_n 2, 1, 0, 0, 0), (61, .ishl, 1, 0, 0, 0), (62, .iconst 1, 1, 0, 0, 0), (63, .isub, 1, 0, 0, 0)]
def cL223_4 : List MI := [(64, .if_icmp .ne 7, 3, 0, 0, 0), (67, .iconst 1, 1, 0, 0, 0), (68, .goto 4, 3, 0, 0, 0), (71, .iconst 0, 1, 0, 0, 0), (72, .ireturn, 1, 0, 0, 0)]
def cL223 : List MI := cL223_0 ++ ( cL223_1 ++ ( cL223_2 ++ ( cL223_3 ++ ( cL223_4 ++ ([])))))
/-- DoorPaintsModel.luck(III)J -/
def cL224_0 : List MI := [(0, .iload_n 1, 1, 0, 0, 0), (1, .i2l, 1, 0, 0, 0), (2, .lconst 0, 1, 0, 0, 0), (3, .ldc2_w 307, 3, 0, 0, 10), (6, .invokestatic 75, 3, 148, 3, 0), (9, .ifCond .eq 18, 3, 0, 0, 0), (12, .aload_n 0, 1, 0, 0, 0), (13, .iload_n 2, 1, 0, 0, 0), (14, .invokevirtual 170, 3, 181, 2, 9)]
def cL224_1 : List MI := [(17, .ifCond .eq 10, 3, 0, 0, 0), (20, .iload_n 3, 1, 0, 0, 0), (21, .invokestatic 271, 3, 208, 1, 0), (24, .ifCond .ne 7, 3, 0, 0, 0), (27, .ldc2_w 309, 3, 0, 0, (-1)), (30, .lreturn, 1, 0, 0, 0), (31, .aload_n 0, 1, 0, 0, 0)]
def cL224_2 : List MI := [(32, .iload_n 1, 1, 0, 0, 0), (33, .iload_n 2, 1, 0, 0, 0), (34, .invokevirtual 311, 3, 225, 3, 9), (37, .aload_n 0, 1, 0, 0, 0), (38, .getfield 297, 3, 9, 25, 0), (41, .aload_n 0, 1, 0, 0, 0), (42, .getfield 304, 3, 9, 27, 0), (45, .iload_n 3, 1, 0, 0, 0), (46, .invokestatic 314, 3, 226, 3, 0)]
def cL224_3 : List MI := [(49, .lreturn, 1, 0, 0, 0)]
def cL224 : List MI := cL224_0 ++ ( cL224_1 ++ ( cL224_2 ++ ( cL224_3 ++ ([]))))
/-- DoorPaintsModel.findOdds(II)V -/
def cL225_0 : List MI := [(0, .aload_n 0, 1, 0, 0, 0), (1, .getfield 7, 3, 9, 0, 0), (4, .bipush 52, 2, 0, 0, 0), (6, .iaload, 1, 0, 0, 0), (7, .istore_n 3, 1, 0, 0, 0), (8, .aload_n 0, 1, 0, 0, 0), (9, .lconst 0, 1, 0, 0, 0), (10, .putfield 297, 3, 9, 25, 0), (13, .aload_n 0, 1, 0, 0, 0), (14, .lconst 0, 1, 0, 0, 0), (15, .putfield 301, 3, 9, 26, 0)]
def cL225_1 : List MI := [(18, .aload_n 0, 1, 0, 0, 0), (19, .lconst 1, 1, 0, 0, 0), (20, .putfield 304, 3, 9, 27, 0), (23, .iconst 0, 1, 0, 0, 0), (24, .istore 4, 2, 0, 0, 0), (26, .iconst 0, 1, 0, 0, 0), (27, .istore 5, 2, 0, 0, 0), (29, .iload 5, 2, 0, 0, 0), (31, .iload_n 3, 1, 0, 0, 0)]
def cL225_2 : List MI := [(32, .if_icmp .ge 65, 3, 0, 0, 0), (35, .aload_n 0, 1, 0, 0, 0), (36, .getfield 7, 3, 9, 0, 0), (39, .bipush 53, 2, 0, 0, 0), (41, .iload 5, 2, 0, 0, 0), (43, .iadd, 1, 0, 0, 0), (44, .iaload, 1, 0, 0, 0), (45, .bipush 90, 2, 0, 0, 0), (47, .if_icmp .lt 7, 3, 0, 0, 0)]
def cL225_3 : List MI := [(50, .iconst 1, 1, 0, 0, 0), (51, .goto 4, 3, 0, 0, 0), (54, .iconst 0, 1, 0, 0, 0), (55, .istore 6, 2, 0, 0, 0), (57, .iload 4, 2, 0, 0, 0), (59, .iload 6, 2, 0, 0, 0), (61, .invokestatic 228, 3, 175, 1, 0)]
def cL225_4 : List MI := [(64, .iload 5, 2, 0, 0, 0), (66, .ishl, 1, 0, 0, 0), (67, .ior, 1, 0, 0, 0), (68, .istore 4, 2, 0, 0, 0), (70, .aload_n 0, 1, 0, 0, 0), (71, .dup, 1, 0, 0, 0), (72, .getfield 304, 3, 9, 27, 0), (75, .iload 6, 2, 0, 0, 0), (77, .ifCond .eq 7, 3, 0, 0, 0)]
def cL225_5 : List MI := [(80, .lconst 1, 1, 0, 0, 0), (81, .goto 6, 3, 0, 0, 0), (84, .ldc2_w 307, 3, 0, 0, 10), (87, .lmul, 1, 0, 0, 0), (88, .putfield 304, 3, 9, 27, 0), (91, .iinc 5 1, 3, 0, 0, 0), (94, .goto (-65), 3, 0, 0, 0)]
def cL225_6 : List MI := [(97, .iconst 0, 1, 0, 0, 0), (98, .istore 5, 2, 0, 0, 0), (100, .iload 5, 2, 0, 0, 0), (102, .iconst 1, 1, 0, 0, 0), (103, .iload_n 3, 1, 0, 0, 0), (104, .ishl, 1, 0, 0, 0), (105, .if_icmp .ge 158, 3, 0, 0, 0), (108, .iload 5, 2, 0, 0, 0), (110, .iload 4, 2, 0, 0, 0)]
def cL225_7 : List MI := [(112, .iand, 1, 0, 0, 0), (113, .iload 4, 2, 0, 0, 0), (115, .if_icmp .ne 142, 3, 0, 0, 0), (118, .lconst 1, 1, 0, 0, 0), (119, .lstore 6, 2, 0, 0, 0), (121, .aload_n 0, 1, 0, 0, 0), (122, .invokevirtual 232, 3, 168, 1, 9), (125, .aload_n 0, 1, 0, 0, 0), (126, .iconst 0, 1, 0, 0, 0), (127, .putfield 216, 3, 9, 22, 0)]
def cL225_8 : List MI := [(130, .iconst 0, 1, 0, 0, 0), (131, .istore 8, 2, 0, 0, 0), (133, .iload 8, 2, 0, 0, 0), (135, .iload_n 3, 1, 0, 0, 0), (136, .if_icmp .ge 81, 3, 0, 0, 0), (139, .iload 5, 2, 0, 0, 0), (141, .iload 8, 2, 0, 0, 0), (143, .ishr, 1, 0, 0, 0)]
def cL225_9 : List MI := [(144, .iconst 1, 1, 0, 0, 0), (145, .iand, 1, 0, 0, 0), (146, .iconst 1, 1, 0, 0, 0), (147, .if_icmp .ne 7, 3, 0, 0, 0), (150, .iconst 1, 1, 0, 0, 0), (151, .goto 4, 3, 0, 0, 0), (154, .iconst 0, 1, 0, 0, 0), (155, .istore 9, 2, 0, 0, 0), (157, .lload 6, 2, 0, 0, 0), (159, .iload 4, 2, 0, 0, 0)]
def cL225_10 : List MI := [(161, .iload 8, 2, 0, 0, 0), (163, .ishr, 1, 0, 0, 0), (164, .iconst 1, 1, 0, 0, 0), (165, .iand, 1, 0, 0, 0), (166, .iconst 1, 1, 0, 0, 0), (167, .if_icmp .ne 7, 3, 0, 0, 0), (170, .lconst 1, 1, 0, 0, 0), (171, .goto 18, 3, 0, 0, 0), (174, .iload 9, 2, 0, 0, 0)]
def cL225_11 : List MI := [(176, .ifCond .eq 8, 3, 0, 0, 0), (179, .iload_n 1, 1, 0, 0, 0), (180, .i2l, 1, 0, 0, 0), (181, .goto 8, 3, 0, 0, 0), (184, .bipush 10, 2, 0, 0, 0), (186, .iload_n 1, 1, 0, 0, 0), (187, .isub, 1, 0, 0, 0), (188, .i2l, 1, 0, 0, 0), (189, .lmul, 1, 0, 0, 0), (190, .lstore 6, 2, 0, 0, 0)]
def cL225_12 : List MI := [(192, .iload 9, 2, 0, 0, 0), (194, .ifCond .eq 17, 3, 0, 0, 0), (197, .aload_n 0, 1, 0, 0, 0), (198, .aload_n 0, 1, 0, 0, 0), (199, .getfield 7, 3, 9, 0, 0), (202, .bipush 53, 2, 0, 0, 0), (204, .iload 8, 2, 0, 0, 0), (206, .iadd, 1, 0, 0, 0), (207, .iaload, 1, 0, 0, 0)]
def cL225_13 : List MI := [(208, .invokevirtual 222, 3, 203, 2, 9), (211, .iinc 8 1, 3, 0, 0, 0), (214, .goto (-81), 3, 0, 0, 0), (217, .aload_n 0, 1, 0, 0, 0), (218, .dup, 1, 0, 0, 0), (219, .getfield 297, 3, 9, 25, 0), (222, .aload_n 0, 1, 0, 0, 0), (223, .iload_n 2, 1, 0, 0, 0)]
def cL225_14 : List MI := [(224, .invokevirtual 225, 3, 172, 2, 9), (227, .ifCond .eq 8, 3, 0, 0, 0), (230, .lload 6, 2, 0, 0, 0), (232, .goto 4, 3, 0, 0, 0), (235, .lconst 0, 1, 0, 0, 0), (236, .ladd, 1, 0, 0, 0), (237, .putfield 297, 3, 9, 25, 0)]
def cL225_15 : List MI := [(240, .aload_n 0, 1, 0, 0, 0), (241, .dup, 1, 0, 0, 0), (242, .getfield 301, 3, 9, 26, 0), (245, .lload 6, 2, 0, 0, 0), (247, .aload_n 0, 1, 0, 0, 0), (248, .getfield 216, 3, 9, 22, 0), (251, .i2l, 1, 0, 0, 0), (252, .lmul, 1, 0, 0, 0), (253, .ladd, 1, 0, 0, 0), (254, .putfield 301, 3, 9, 26, 0)]
def cL225_16 : List MI := [(257, .iinc 5 1, 3, 0, 0, 0), (260, .goto (-160), 3, 0, 0, 0), (263, .return_, 1, 0, 0, 0)]
def cL225 : List MI := cL225_0 ++ ( cL225_1 ++ ( cL225_2 ++ ( cL225_3 ++ ( cL225_4 ++ ( cL225_5 ++ ( cL225_6 ++ ( cL225_7 ++ ( cL225_8 ++ ( cL225_9 ++ ( cL225_10 ++ ( cL225_11 ++ ( cL225_12 ++ ( cL225_13 ++ ( cL225_14 ++ ( cL225_15 ++ ( cL225_16 ++ ([])))))))))))))))))
end
section
/-! TABLES: the methods' listings (written by a program) -/
/-- DoorPaintsModel.told(JJI)J -/
def cL226_0 : List MI := [(0, .lload_n 2, 1, 0, 0, 0), (1, .lload_n 0, 1, 0, 0, 0), (2, .invokestatic 293, 3, 227, 2, 0), (5, .lstore 5, 2, 0, 0, 0), (7, .iload 4, 2, 0, 0, 0), (9, .ifCond .ne 10, 3, 0, 0, 0), (12, .lload_n 0, 1, 0, 0, 0), (13, .lload 5, 2, 0, 0, 0), (15, .ldiv, 1, 0, 0, 0)]
def cL226_1 : List MI := [(16, .goto 7, 3, 0, 0, 0), (19, .lload_n 2, 1, 0, 0, 0), (20, .lload 5, 2, 0, 0, 0), (22, .ldiv, 1, 0, 0, 0), (23, .lreturn, 1, 0, 0, 0)]
def cL226 : List MI := cL226_0 ++ ( cL226_1 ++ ([]))
/-- DoorPaintsModel.common(JJ)J -/
def cL227_0 : List MI := [(0, .lload_n 0, 1, 0, 0, 0), (1, .lstore 4, 2, 0, 0, 0), (3, .lload_n 2, 1, 0, 0, 0), (4, .lstore 6, 2, 0, 0, 0), (6, .lload 6, 2, 0, 0, 0), (8, .lconst 0, 1, 0, 0, 0), (9, .lcmp, 1, 0, 0, 0), (10, .ifCond .eq 21, 3, 0, 0, 0), (13, .lload 4, 2, 0, 0, 0), (15, .lload 6, 2, 0, 0, 0)]
def cL227_1 : List MI := [(17, .lrem, 1, 0, 0, 0), (18, .lstore 8, 2, 0, 0, 0), (20, .lload 6, 2, 0, 0, 0), (22, .lstore 4, 2, 0, 0, 0), (24, .lload 8, 2, 0, 0, 0), (26, .lstore 6, 2, 0, 0, 0), (28, .goto (-22), 3, 0, 0, 0), (31, .lload 4, 2, 0, 0, 0)]
def cL227_2 : List MI := [(33, .lreturn, 1, 0, 0, 0)]
def cL227 : List MI := cL227_0 ++ ( cL227_1 ++ ( cL227_2 ++ ([])))
/-- DoorPaintsModel.mean(II)J -/
def cL228_0 : List MI := [(0, .iload_n 1, 1, 0, 0, 0), (1, .i2l, 1, 0, 0, 0), (2, .lconst 0, 1, 0, 0, 0), (3, .ldc2_w 307, 3, 0, 0, 10), (6, .invokestatic 75, 3, 148, 3, 0), (9, .ifCond .eq 10, 3, 0, 0, 0), (12, .iload_n 2, 1, 0, 0, 0), (13, .invokestatic 271, 3, 208, 1, 0)]
def cL228_1 : List MI := [(16, .ifCond .ne 7, 3, 0, 0, 0), (19, .ldc2_w 309, 3, 0, 0, (-1)), (22, .lreturn, 1, 0, 0, 0), (23, .aload_n 0, 1, 0, 0, 0), (24, .iload_n 1, 1, 0, 0, 0), (25, .iconst 0, 1, 0, 0, 0), (26, .invokevirtual 311, 3, 225, 3, 9), (29, .aload_n 0, 1, 0, 0, 0), (30, .getfield 301, 3, 9, 26, 0)]
def cL228_2 : List MI := [(33, .aload_n 0, 1, 0, 0, 0), (34, .getfield 304, 3, 9, 27, 0), (37, .iload_n 2, 1, 0, 0, 0), (38, .invokestatic 314, 3, 226, 3, 0), (41, .lreturn, 1, 0, 0, 0)]
def cL228 : List MI := cL228_0 ++ ( cL228_1 ++ ( cL228_2 ++ ([])))
/-- DoorPaintsModel.drift(III)I -/
def cL229_0 : List MI := [(0, .iload_n 2, 1, 0, 0, 0), (1, .i2l, 1, 0, 0, 0), (2, .lconst 1, 1, 0, 0, 0), (3, .ldc2_w 318, 3, 0, 0, 60), (6, .invokestatic 75, 3, 148, 3, 0), (9, .ifCond .eq 10, 3, 0, 0, 0), (12, .iload_n 3, 1, 0, 0, 0), (13, .invokestatic 271, 3, 208, 1, 0)]
def cL229_1 : List MI := [(16, .ifCond .ne 5, 3, 0, 0, 0), (19, .iconst (-1), 1, 0, 0, 0), (20, .ireturn, 1, 0, 0, 0), (21, .aload_n 0, 1, 0, 0, 0), (22, .getfield 67, 3, 9, 3, 0), (25, .ifCond .eq 10, 3, 0, 0, 0), (28, .aload_n 0, 1, 0, 0, 0), (29, .getfield 70, 3, 9, 4, 0)]
def cL229_2 : List MI := [(32, .ifCond .ne 6, 3, 0, 0, 0), (35, .bipush (-2), 2, 0, 0, 0), (37, .ireturn, 1, 0, 0, 0), (38, .iload_n 1, 1, 0, 0, 0), (39, .istore 4, 2, 0, 0, 0), (41, .aload_n 0, 1, 0, 0, 0), (42, .invokevirtual 232, 3, 168, 1, 9), (45, .iconst 0, 1, 0, 0, 0), (46, .istore 5, 2, 0, 0, 0)]
def cL229_3 : List MI := [(48, .iload 5, 2, 0, 0, 0), (50, .iload_n 2, 1, 0, 0, 0), (51, .if_icmp .ge 83, 3, 0, 0, 0), (54, .iload 4, 2, 0, 0, 0), (56, .ldc_w 320, 3, 0, 0, 1103515245), (59, .imul, 1, 0, 0, 0), (60, .sipush 12345, 3, 0, 0, 0), (63, .iadd, 1, 0, 0, 0)]
def cL229_4 : List MI := [(64, .istore 4, 2, 0, 0, 0), (66, .iload 4, 2, 0, 0, 0), (68, .bipush 16, 2, 0, 0, 0), (70, .ishr, 1, 0, 0, 0), (71, .sipush 32767, 3, 0, 0, 0), (74, .iand, 1, 0, 0, 0), (75, .istore 6, 2, 0, 0, 0), (77, .iload 6, 2, 0, 0, 0), (79, .bipush 8, 2, 0, 0, 0)]
def cL229_5 : List MI := [(81, .irem, 1, 0, 0, 0), (82, .istore 7, 2, 0, 0, 0), (84, .aload_n 0, 1, 0, 0, 0), (85, .iload 7, 2, 0, 0, 0), (87, .iconst 5, 1, 0, 0, 0), (88, .if_icmp .ge 30, 3, 0, 0, 0), (91, .bipush 10, 2, 0, 0, 0), (93, .iload 6, 2, 0, 0, 0), (95, .bipush 8, 2, 0, 0, 0)]
def cL229_6 : List MI := [(97, .idiv, 1, 0, 0, 0), (98, .aload_n 0, 1, 0, 0, 0), (99, .getfield 67, 3, 9, 3, 0), (102, .irem, 1, 0, 0, 0), (103, .imul, 1, 0, 0, 0), (104, .iload 6, 2, 0, 0, 0), (106, .bipush 32, 2, 0, 0, 0), (108, .idiv, 1, 0, 0, 0), (109, .aload_n 0, 1, 0, 0, 0), (110, .getfield 70, 3, 9, 4, 0)]
def cL229_7 : List MI := [(113, .irem, 1, 0, 0, 0), (114, .iadd, 1, 0, 0, 0), (115, .goto 10, 3, 0, 0, 0), (118, .bipush 90, 2, 0, 0, 0), (120, .iload 7, 2, 0, 0, 0), (122, .iadd, 1, 0, 0, 0), (123, .iconst 5, 1, 0, 0, 0), (124, .isub, 1, 0, 0, 0), (125, .invokevirtual 222, 3, 203, 2, 9)]
def cL229_8 : List MI := [(128, .iinc 5 1, 3, 0, 0, 0), (131, .goto (-83), 3, 0, 0, 0), (134, .iload_n 3, 1, 0, 0, 0), (135, .ifCond .ne 10, 3, 0, 0, 0), (138, .aload_n 0, 1, 0, 0, 0), (139, .invokevirtual 247, 3, 193, 1, 9), (142, .goto 7, 3, 0, 0, 0)]
def cL229_9 : List MI := [(145, .aload_n 0, 1, 0, 0, 0), (146, .invokevirtual 235, 3, 171, 1, 9), (149, .ireturn, 1, 0, 0, 0)]
def cL229 : List MI := cL229_0 ++ ( cL229_1 ++ ( cL229_2 ++ ( cL229_3 ++ ( cL229_4 ++ ( cL229_5 ++ ( cL229_6 ++ ( cL229_7 ++ ( cL229_8 ++ ( cL229_9 ++ ([]))))))))))
/-- DoorPaintsModel.keep(I)I -/
def cL230_0 : List MI := [(0, .iload_n 1, 1, 0, 0, 0), (1, .i2l, 1, 0, 0, 0), (2, .lconst 0, 1, 0, 0, 0), (3, .lconst 1, 1, 0, 0, 0), (4, .invokestatic 75, 3, 148, 3, 0), (7, .ifCond .ne 5, 3, 0, 0, 0), (10, .iconst (-1), 1, 0, 0, 0), (11, .ireturn, 1, 0, 0, 0), (12, .aload_n 0, 1, 0, 0, 0), (13, .getfield 16, 3, 9, 2, 0)]
def cL230_1 : List MI := [(16, .iload_n 1, 1, 0, 0, 0), (17, .baload, 1, 0, 0, 0), (18, .invokestatic 228, 3, 175, 1, 0), (21, .istore_n 2, 1, 0, 0, 0), (22, .aload_n 0, 1, 0, 0, 0), (23, .getfield 16, 3, 9, 2, 0), (26, .iload_n 1, 1, 0, 0, 0), (27, .iconst 1, 1, 0, 0, 0), (28, .bastore, 1, 0, 0, 0), (29, .aload_n 0, 1, 0, 0, 0), (30, .bipush 80, 2, 0, 0, 0)]
def cL230_2 : List MI := [(32, .iload_n 1, 1, 0, 0, 0), (33, .iconst 1, 1, 0, 0, 0), (34, .iadd, 1, 0, 0, 0), (35, .imul, 1, 0, 0, 0), (36, .iconst 0, 1, 0, 0, 0), (37, .invokevirtual 321, 3, 231, 3, 9), (40, .iload_n 2, 1, 0, 0, 0), (41, .ireturn, 1, 0, 0, 0)]
def cL230 : List MI := cL230_0 ++ ( cL230_1 ++ ( cL230_2 ++ ([])))
/-- DoorPaintsModel.copies(II)V -/
def cL231_0 : List MI := [(0, .iconst 0, 1, 0, 0, 0), (1, .istore_n 3, 1, 0, 0, 0), (2, .iload_n 3, 1, 0, 0, 0), (3, .bipush 80, 2, 0, 0, 0), (5, .if_icmp .ge 25, 3, 0, 0, 0), (8, .aload_n 0, 1, 0, 0, 0), (9, .getfield 7, 3, 9, 0, 0), (12, .iload_n 1, 1, 0, 0, 0), (13, .iload_n 3, 1, 0, 0, 0), (14, .iadd, 1, 0, 0, 0), (15, .aload_n 0, 1, 0, 0, 0)]
def cL231_1 : List MI := [(16, .getfield 7, 3, 9, 0, 0), (19, .iload_n 2, 1, 0, 0, 0), (20, .iload_n 3, 1, 0, 0, 0), (21, .iadd, 1, 0, 0, 0), (22, .iaload, 1, 0, 0, 0), (23, .iastore, 1, 0, 0, 0), (24, .iinc 3 1, 3, 0, 0, 0), (27, .goto (-25), 3, 0, 0, 0), (30, .return_, 1, 0, 0, 0)]
def cL231 : List MI := cL231_0 ++ ( cL231_1 ++ ([]))
/-- DoorPaintsModel.back(I)I -/
def cL232_0 : List MI := [(0, .iload_n 1, 1, 0, 0, 0), (1, .i2l, 1, 0, 0, 0), (2, .lconst 0, 1, 0, 0, 0), (3, .lconst 1, 1, 0, 0, 0), (4, .invokestatic 75, 3, 148, 3, 0), (7, .ifCond .ne 5, 3, 0, 0, 0), (10, .iconst (-1), 1, 0, 0, 0), (11, .ireturn, 1, 0, 0, 0), (12, .aload_n 0, 1, 0, 0, 0), (13, .getfield 16, 3, 9, 2, 0)]
def cL232_1 : List MI := [(16, .iload_n 1, 1, 0, 0, 0), (17, .baload, 1, 0, 0, 0), (18, .ifCond .ne 6, 3, 0, 0, 0), (21, .bipush (-2), 2, 0, 0, 0), (23, .ireturn, 1, 0, 0, 0), (24, .aload_n 0, 1, 0, 0, 0), (25, .iconst 0, 1, 0, 0, 0), (26, .bipush 80, 2, 0, 0, 0), (28, .iload_n 1, 1, 0, 0, 0), (29, .iconst 1, 1, 0, 0, 0), (30, .iadd, 1, 0, 0, 0), (31, .imul, 1, 0, 0, 0)]
def cL232_2 : List MI := [(32, .invokevirtual 321, 3, 231, 3, 9), (35, .aload_n 0, 1, 0, 0, 0), (36, .invokevirtual 232, 3, 168, 1, 9), (39, .aload_n 0, 1, 0, 0, 0), (40, .invokevirtual 247, 3, 193, 1, 9), (43, .ireturn, 1, 0, 0, 0)]
def cL232 : List MI := cL232_0 ++ ( cL232_1 ++ ( cL232_2 ++ ([])))
/-- DoorPaintsModel.sheet(III)I -/
def cL233_0 : List MI := [(0, .iload_n 1, 1, 0, 0, 0), (1, .iload_n 2, 1, 0, 0, 0), (2, .invokestatic 324, 3, 234, 2, 0), (5, .ifCond .eq 9, 3, 0, 0, 0), (8, .iload_n 3, 1, 0, 0, 0), (9, .bipush 40, 2, 0, 0, 0), (11, .if_icmp .le 5, 3, 0, 0, 0), (14, .iconst (-1), 1, 0, 0, 0), (15, .ireturn, 1, 0, 0, 0)]
def cL233_1 : List MI := [(16, .iload_n 3, 1, 0, 0, 0), (17, .ifCond .ge 6, 3, 0, 0, 0), (20, .bipush (-14), 2, 0, 0, 0), (22, .ireturn, 1, 0, 0, 0), (23, .aload_n 0, 1, 0, 0, 0), (24, .getfield 32, 3, 9, 28, 0), (27, .iload_n 1, 1, 0, 0, 0), (28, .iload_n 2, 1, 0, 0, 0), (29, .iastore, 1, 0, 0, 0), (30, .aload_n 0, 1, 0, 0, 0), (31, .getfield 35, 3, 9, 29, 0)]
def cL233_2 : List MI := [(34, .iload_n 1, 1, 0, 0, 0), (35, .iload_n 3, 1, 0, 0, 0), (36, .iastore, 1, 0, 0, 0), (37, .iconst 0, 1, 0, 0, 0), (38, .istore 4, 2, 0, 0, 0), (40, .iload 4, 2, 0, 0, 0), (42, .bipush 40, 2, 0, 0, 0), (44, .if_icmp .ge 22, 3, 0, 0, 0), (47, .aload_n 0, 1, 0, 0, 0)]
def cL233_3 : List MI := [(48, .getfield 38, 3, 9, 30, 0), (51, .bipush 40, 2, 0, 0, 0), (53, .iload_n 1, 1, 0, 0, 0), (54, .imul, 1, 0, 0, 0), (55, .iload 4, 2, 0, 0, 0), (57, .iadd, 1, 0, 0, 0), (58, .iconst 0, 1, 0, 0, 0), (59, .iastore, 1, 0, 0, 0), (60, .iinc 4 1, 3, 0, 0, 0), (63, .goto (-23), 3, 0, 0, 0)]
def cL233_4 : List MI := [(66, .iconst 1, 1, 0, 0, 0), (67, .ireturn, 1, 0, 0, 0)]
def cL233 : List MI := cL233_0 ++ ( cL233_1 ++ ( cL233_2 ++ ( cL233_3 ++ ( cL233_4 ++ ([])))))
/-- DoorPaintsModel.isSheet(II)Z -/
def cL234_0 : List MI := [(0, .iload_n 0, 1, 0, 0, 0), (1, .i2l, 1, 0, 0, 0), (2, .lconst 0, 1, 0, 0, 0), (3, .ldc2_w 138, 3, 0, 0, 3), (6, .invokestatic 75, 3, 148, 3, 0), (9, .ifCond .eq 19, 3, 0, 0, 0), (12, .iload_n 1, 1, 0, 0, 0), (13, .i2l, 1, 0, 0, 0), (14, .lconst 0, 1, 0, 0, 0), (15, .ldc2_w 245, 3, 0, 0, 2)]
def cL234_1 : List MI := [(18, .invokestatic 75, 3, 148, 3, 0), (21, .ifCond .eq 7, 3, 0, 0, 0), (24, .iconst 1, 1, 0, 0, 0), (25, .goto 4, 3, 0, 0, 0), (28, .iconst 0, 1, 0, 0, 0), (29, .ireturn, 1, 0, 0, 0)]
def cL234 : List MI := cL234_0 ++ ( cL234_1 ++ ([]))
/-- DoorPaintsModel.lay(III)I -/
def cL235_0 : List MI := [(0, .iload_n 1, 1, 0, 0, 0), (1, .iconst 0, 1, 0, 0, 0), (2, .invokestatic 324, 3, 234, 2, 0), (5, .ifCond .ne 5, 3, 0, 0, 0), (8, .iconst (-1), 1, 0, 0, 0), (9, .ireturn, 1, 0, 0, 0), (10, .aload_n 0, 1, 0, 0, 0), (11, .getfield 32, 3, 9, 28, 0), (14, .iload_n 1, 1, 0, 0, 0), (15, .iaload, 1, 0, 0, 0)]
def cL235_1 : List MI := [(16, .bipush (-4), 2, 0, 0, 0), (18, .if_icmp .ne 6, 3, 0, 0, 0), (21, .bipush (-11), 2, 0, 0, 0), (23, .ireturn, 1, 0, 0, 0), (24, .iload_n 2, 1, 0, 0, 0), (25, .i2l, 1, 0, 0, 0), (26, .lconst 0, 1, 0, 0, 0), (27, .aload_n 0, 1, 0, 0, 0), (28, .getfield 35, 3, 9, 29, 0), (31, .iload_n 1, 1, 0, 0, 0)]
def cL235_2 : List MI := [(32, .iaload, 1, 0, 0, 0), (33, .iconst 1, 1, 0, 0, 0), (34, .isub, 1, 0, 0, 0), (35, .i2l, 1, 0, 0, 0), (36, .invokestatic 75, 3, 148, 3, 0), (39, .ifCond .ne 6, 3, 0, 0, 0), (42, .bipush (-12), 2, 0, 0, 0), (44, .ireturn, 1, 0, 0, 0), (45, .aload_n 0, 1, 0, 0, 0), (46, .getfield 38, 3, 9, 30, 0)]
def cL235_3 : List MI := [(49, .bipush 40, 2, 0, 0, 0), (51, .iload_n 1, 1, 0, 0, 0), (52, .imul, 1, 0, 0, 0), (53, .iload_n 2, 1, 0, 0, 0), (54, .iadd, 1, 0, 0, 0), (55, .aload_n 0, 1, 0, 0, 0), (56, .getfield 32, 3, 9, 28, 0), (59, .iload_n 1, 1, 0, 0, 0), (60, .iaload, 1, 0, 0, 0), (61, .ifCond .ne 8, 3, 0, 0, 0)]
def cL235_4 : List MI := [(64, .iload_n 3, 1, 0, 0, 0), (65, .i2b, 1, 0, 0, 0), (66, .goto 19, 3, 0, 0, 0), (69, .aload_n 0, 1, 0, 0, 0), (70, .getfield 32, 3, 9, 28, 0), (73, .iload_n 1, 1, 0, 0, 0), (74, .iaload, 1, 0, 0, 0), (75, .iconst 1, 1, 0, 0, 0), (76, .if_icmp .ne 8, 3, 0, 0, 0), (79, .iload_n 3, 1, 0, 0, 0)]
def cL235_5 : List MI := [(80, .i2s, 1, 0, 0, 0), (81, .goto 4, 3, 0, 0, 0), (84, .iload_n 3, 1, 0, 0, 0), (85, .iastore, 1, 0, 0, 0), (86, .iconst 1, 1, 0, 0, 0), (87, .ireturn, 1, 0, 0, 0)]
def cL235 : List MI := cL235_0 ++ ( cL235_1 ++ ( cL235_2 ++ ( cL235_3 ++ ( cL235_4 ++ ( cL235_5 ++ ([]))))))
/-- DoorPaintsModel.read(IIII)I -/
def cL236_0 : List MI := [(0, .iload_n 1, 1, 0, 0, 0), (1, .iload_n 2, 1, 0, 0, 0), (2, .invokestatic 324, 3, 234, 2, 0), (5, .ifCond .eq 16, 3, 0, 0, 0), (8, .iload 4, 2, 0, 0, 0), (10, .i2l, 1, 0, 0, 0), (11, .lconst 0, 1, 0, 0, 0), (12, .ldc2_w 328, 3, 0, 0, 20), (15, .invokestatic 75, 3, 148, 3, 0)]
def cL236_1 : List MI := [(18, .ifCond .ne 5, 3, 0, 0, 0), (21, .iconst (-1), 1, 0, 0, 0), (22, .ireturn, 1, 0, 0, 0), (23, .iconst 0, 1, 0, 0, 0), (24, .istore 5, 2, 0, 0, 0), (26, .iload 5, 2, 0, 0, 0), (28, .bipush 80, 2, 0, 0, 0), (30, .if_icmp .ge 23, 3, 0, 0, 0)]
def cL236_2 : List MI := [(33, .aload_n 0, 1, 0, 0, 0), (34, .getfield 41, 3, 9, 32, 0), (37, .iload 5, 2, 0, 0, 0), (39, .aload_n 0, 1, 0, 0, 0), (40, .getfield 7, 3, 9, 0, 0), (43, .iload 5, 2, 0, 0, 0), (45, .iaload, 1, 0, 0, 0), (46, .iastore, 1, 0, 0, 0), (47, .iinc 5 1, 3, 0, 0, 0)]
def cL236_3 : List MI := [(50, .goto (-24), 3, 0, 0, 0), (53, .iconst 0, 1, 0, 0, 0), (54, .istore 5, 2, 0, 0, 0), (56, .iconst 0, 1, 0, 0, 0), (57, .istore 6, 2, 0, 0, 0), (59, .iconst 0, 1, 0, 0, 0), (60, .istore 7, 2, 0, 0, 0), (62, .iload 7, 2, 0, 0, 0)]
def cL236_4 : List MI := [(64, .iload 4, 2, 0, 0, 0), (66, .if_icmp .ge 195, 3, 0, 0, 0), (69, .iload 5, 2, 0, 0, 0), (71, .ifCond .ne 190, 3, 0, 0, 0), (74, .iconst 0, 1, 0, 0, 0), (75, .istore 8, 2, 0, 0, 0), (77, .iload 8, 2, 0, 0, 0), (79, .iconst 2, 1, 0, 0, 0)]
def cL236_5 : List MI := [(80, .if_icmp .ge 84, 3, 0, 0, 0), (83, .iload 5, 2, 0, 0, 0), (85, .ifCond .ne 79, 3, 0, 0, 0), (88, .iload_n 3, 1, 0, 0, 0), (89, .i2l, 1, 0, 0, 0), (90, .iconst 2, 1, 0, 0, 0), (91, .iload 7, 2, 0, 0, 0), (93, .imul, 1, 0, 0, 0), (94, .i2l, 1, 0, 0, 0), (95, .ladd, 1, 0, 0, 0)]
def cL236_6 : List MI := [(96, .iload 8, 2, 0, 0, 0), (98, .i2l, 1, 0, 0, 0), (99, .ladd, 1, 0, 0, 0), (100, .lstore 9, 2, 0, 0, 0), (102, .aload_n 0, 1, 0, 0, 0), (103, .getfield 32, 3, 9, 28, 0), (106, .iload_n 1, 1, 0, 0, 0), (107, .iaload, 1, 0, 0, 0), (108, .bipush (-4), 2, 0, 0, 0), (110, .if_icmp .ne 7, 3, 0, 0, 0)]
def cL236_7 : List MI := [(113, .iconst 1, 1, 0, 0, 0), (114, .goto 42, 3, 0, 0, 0), (117, .aload_n 0, 1, 0, 0, 0), (118, .getfield 32, 3, 9, 28, 0), (121, .iload_n 1, 1, 0, 0, 0), (122, .iaload, 1, 0, 0, 0), (123, .iload_n 2, 1, 0, 0, 0), (124, .if_icmp .eq 7, 3, 0, 0, 0), (127, .iconst 3, 1, 0, 0, 0)]
def cL236_8 : List MI := [(128, .goto 28, 3, 0, 0, 0), (131, .lload 9, 2, 0, 0, 0), (133, .lconst 0, 1, 0, 0, 0), (134, .lcmp, 1, 0, 0, 0), (135, .ifCond .lt 16, 3, 0, 0, 0), (138, .lload 9, 2, 0, 0, 0), (140, .aload_n 0, 1, 0, 0, 0), (141, .getfield 35, 3, 9, 29, 0)]
def cL236_9 : List MI := [(144, .iload_n 1, 1, 0, 0, 0), (145, .iaload, 1, 0, 0, 0), (146, .i2l, 1, 0, 0, 0), (147, .lcmp, 1, 0, 0, 0), (148, .ifCond .lt 7, 3, 0, 0, 0), (151, .iconst 2, 1, 0, 0, 0), (152, .goto 4, 3, 0, 0, 0), (155, .iconst 0, 1, 0, 0, 0), (156, .istore 5, 2, 0, 0, 0), (158, .iinc 8 1, 3, 0, 0, 0)]
def cL236_10 : List MI := [(161, .goto (-84), 3, 0, 0, 0), (164, .iload 5, 2, 0, 0, 0), (166, .ifCond .ne 89, 3, 0, 0, 0), (169, .bipush 40, 2, 0, 0, 0), (171, .iload_n 1, 1, 0, 0, 0), (172, .imul, 1, 0, 0, 0), (173, .iload_n 3, 1, 0, 0, 0), (174, .iadd, 1, 0, 0, 0), (175, .iconst 2, 1, 0, 0, 0)]
def cL236_11 : List MI := [(176, .iload 7, 2, 0, 0, 0), (178, .imul, 1, 0, 0, 0), (179, .iadd, 1, 0, 0, 0), (180, .istore 8, 2, 0, 0, 0), (182, .aload_n 0, 1, 0, 0, 0), (183, .aload_n 0, 1, 0, 0, 0), (184, .getfield 38, 3, 9, 30, 0), (187, .iload 8, 2, 0, 0, 0), (189, .iaload, 1, 0, 0, 0), (190, .aload_n 0, 1, 0, 0, 0), (191, .getfield 38, 3, 9, 30, 0)]
def cL236_12 : List MI := [(194, .iload 8, 2, 0, 0, 0), (196, .iconst 1, 1, 0, 0, 0), (197, .iadd, 1, 0, 0, 0), (198, .iaload, 1, 0, 0, 0), (199, .invokevirtual 330, 3, 185, 3, 9), (202, .istore 9, 2, 0, 0, 0), (204, .iload 9, 2, 0, 0, 0), (206, .ifCond .ge 46, 3, 0, 0, 0)]
def cL236_13 : List MI := [(209, .iload 9, 2, 0, 0, 0), (211, .bipush (-4), 2, 0, 0, 0), (213, .if_icmp .eq 39, 3, 0, 0, 0), (216, .iconst 0, 1, 0, 0, 0), (217, .istore 10, 2, 0, 0, 0), (219, .iload 10, 2, 0, 0, 0), (221, .bipush 80, 2, 0, 0, 0), (223, .if_icmp .ge 23, 3, 0, 0, 0)]
def cL236_14 : List MI := [(226, .aload_n 0, 1, 0, 0, 0), (227, .getfield 7, 3, 9, 0, 0), (230, .iload 10, 2, 0, 0, 0), (232, .aload_n 0, 1, 0, 0, 0), (233, .getfield 41, 3, 9, 32, 0), (236, .iload 10, 2, 0, 0, 0), (238, .iaload, 1, 0, 0, 0), (239, .iastore, 1, 0, 0, 0)]
def cL236_15 : List MI := [(240, .iinc 10 1, 3, 0, 0, 0), (243, .goto (-24), 3, 0, 0, 0), (246, .bipush (-20), 2, 0, 0, 0), (248, .iload 7, 2, 0, 0, 0), (250, .isub, 1, 0, 0, 0), (251, .ireturn, 1, 0, 0, 0), (252, .iinc 6 1, 3, 0, 0, 0), (255, .iinc 7 1, 3, 0, 0, 0)]
def cL236_16 : List MI := [(258, .goto (-196), 3, 0, 0, 0), (261, .aload_n 0, 1, 0, 0, 0), (262, .iload 5, 2, 0, 0, 0), (264, .putfield 333, 3, 9, 31, 0), (267, .iload 6, 2, 0, 0, 0), (269, .ireturn, 1, 0, 0, 0)]
def cL236 : List MI := cL236_0 ++ ( cL236_1 ++ ( cL236_2 ++ ( cL236_3 ++ ( cL236_4 ++ ( cL236_5 ++ ( cL236_6 ++ ( cL236_7 ++ ( cL236_8 ++ ( cL236_9 ++ ( cL236_10 ++ ( cL236_11 ++ ( cL236_12 ++ ( cL236_13 ++ ( cL236_14 ++ ( cL236_15 ++ ( cL236_16 ++ ([])))))))))))))))))
/-- DoorPaintsModel.torn()I -/
def cL237_0 : List MI := [(0, .aload_n 0, 1, 0, 0, 0), (1, .getfield 333, 3, 9, 31, 0), (4, .ireturn, 1, 0, 0, 0)]
def cL237 : List MI := cL237_0 ++ ([])
/-- DoorPaintsModel.count(I)I -/
def cL238_0 : List MI := [(0, .aload_n 0, 1, 0, 0, 0), (1, .invokevirtual 232, 3, 168, 1, 9), (4, .iload_n 1, 1, 0, 0, 0), (5, .tableswitch 96 0 4 #[35, 40, 48, 68, 73], 35, 0, 0, 0)]
def cL238_1 : List MI := []
def cL238_2 : List MI := [(40, .aload_n 0, 1, 0, 0, 0), (41, .invokevirtual 247, 3, 193, 1, 9), (44, .ireturn, 1, 0, 0, 0), (45, .aload_n 0, 1, 0, 0, 0), (46, .getfield 7, 3, 9, 0, 0)]
def cL238_3 : List MI := [(49, .bipush 61, 2, 0, 0, 0), (51, .iaload, 1, 0, 0, 0), (52, .ireturn, 1, 0, 0, 0), (53, .aload_n 0, 1, 0, 0, 0), (54, .getfield 16, 3, 9, 2, 0), (57, .iconst 0, 1, 0, 0, 0), (58, .baload, 1, 0, 0, 0), (59, .invokestatic 228, 3, 175, 1, 0), (62, .aload_n 0, 1, 0, 0, 0), (63, .getfield 16, 3, 9, 2, 0)]
def cL238_4 : List MI := [(66, .iconst 1, 1, 0, 0, 0), (67, .baload, 1, 0, 0, 0), (68, .invokestatic 228, 3, 175, 1, 0), (71, .iadd, 1, 0, 0, 0), (72, .ireturn, 1, 0, 0, 0), (73, .aload_n 0, 1, 0, 0, 0), (74, .getfield 79, 3, 9, 13, 0), (77, .ireturn, 1, 0, 0, 0), (78, .aload_n 0, 1, 0, 0, 0), (79, .getfield 32, 3, 9, 28, 0)]
def cL238_5 : List MI := [(82, .iconst 0, 1, 0, 0, 0), (83, .iaload, 1, 0, 0, 0), (84, .bipush (-4), 2, 0, 0, 0), (86, .if_icmp .ne 8, 3, 0, 0, 0), (89, .bipush (-4), 2, 0, 0, 0), (91, .goto 9, 3, 0, 0, 0), (94, .aload_n 0, 1, 0, 0, 0), (95, .getfield 35, 3, 9, 29, 0)]
def cL238_6 : List MI := [(98, .iconst 0, 1, 0, 0, 0), (99, .iaload, 1, 0, 0, 0), (100, .ireturn, 1, 0, 0, 0), (101, .iconst (-1), 1, 0, 0, 0), (102, .ireturn, 1, 0, 0, 0)]
def cL238 : List MI := cL238_0 ++ ( cL238_1 ++ ( cL238_2 ++ ( cL238_3 ++ ( cL238_4 ++ ( cL238_5 ++ ( cL238_6 ++ ([])))))))
end
section
/-! TABLES: the methods (written by a program) -/
def cM0 : MM := (⟨"DoorPaintsLaw", "law", "([I)Z"⟩, code, 4, (some .boolean), cL0)
def cM1 : MM := (⟨"DoorPaints", "<init>", "()V"⟩, prog_1_method_1_code, 2, none, cL1)
def cM2 : MM := (⟨"DoorPaints$Reader", "<init>", "()V"⟩, prog_3_method_1_code, 1, none, cL2)
def cM3 : MM := (⟨"DoorPaints$Told", "<init>", "()V"⟩, prog_7_method_1_code, 1, none, cL3)
def cM4 : MM := (⟨"DoorPaints$Town", "<init>", "()V"⟩, prog_8_method_1_code, 2, none, cL4)
def cM5 : MM := (⟨"DoorPaints$Visitor", "<init>", "()V"⟩, prog_9_method_1_code, 1, none, cL5)
def cM6 : MM := (⟨"DoorPaints$Door", "<init>", "()V"⟩, prog_2_method_1_code, 1, none, cL6)
def cM7 : MM := (⟨"DoorPaints$Tape", "<init>", "()V"⟩, prog_6_method_1_code, 1, none, cL7)
def cM8 : MM := (⟨"DoorPaints$Search", "<init>", "()V"⟩, prog_4_method_1_code, 1, none, cL8)
def cM9 : MM := (⟨"DoorPaints$Sheet", "<init>", "()V"⟩, prog_5_method_1_code, 1, none, cL9)
def cM10 : MM := (⟨"DoorPaints", "feed", "(I)I"⟩, prog_1_method_2_code, 2, (some .int), cL10)
def cM11 : MM := (⟨"DoorPaints$Tape", "append", "(I)Z"⟩, prog_6_method_2_code, 2, (some .boolean), cL11)
def cM12 : MM := (⟨"DoorPaints", "end", "(I)I"⟩, prog_1_method_3_code, 3, (some .int), cL12)
def cM13 : MM := (⟨"DoorPaints", "text", "()I"⟩, prog_1_method_4_code, 3, (some .int), cL13)
def cM14 : MM := (⟨"DoorPaints$Reader", "readAll", "()I"⟩, prog_3_method_2_code, 2, (some .int), cL14)
def cM15 : MM := (⟨"DoorPaints$Told", "clear", "()V"⟩, prog_7_method_3_code, 1, none, cL15)
def cM16 : MM := (⟨"DoorPaints$Town", "clear", "()V"⟩, prog_8_method_3_code, 2, none, cL16)
def cM17 : MM := (⟨"DoorPaints$Door", "clear", "()V"⟩, prog_2_method_3_code, 1, none, cL17)
def cM18 : MM := (⟨"DoorPaints$Tape", "rewind", "()V"⟩, prog_6_method_3_code, 1, none, cL18)
def cM19 : MM := (⟨"DoorPaints$Tape", "advance", "()V"⟩, prog_6_method_4_code, 1, none, cL19)
def cM20 : MM := (⟨"DoorPaints$Tape", "skip", "(II)Z"⟩, prog_6_method_5_code, 3, (some .boolean), cL20)
def cM21 : MM := (⟨"DoorPaints$Tape", "takeNumber", "()V"⟩, prog_6_method_6_code, 2, none, cL21)
def cM22 : MM := (⟨"DoorPaints$Reader", "readLine", "()V"⟩, prog_3_method_3_code, 1, none, cL22)
def cM23 : MM := (⟨"DoorPaints$Reader", "stands", "(I)Z"⟩, prog_3_method_11_code, 2, (some .boolean), cL23)
def cM24 : MM := (⟨"DoorPaints$Reader", "fail", "(I)V"⟩, prog_3_method_12_code, 2, none, cL24)
def cM25 : MM := (⟨"DoorPaints$Tape", "nameIs", "(Ljava/lang/String;)Z"⟩, prog_6_method_7_code, 3, (some .boolean), cL25)
def cM26 : MM := (⟨"java/lang/String", "length", "()I"⟩, prog_14_method_54_code, 1, (some .int), cL26)
def cM27 : MM := (⟨"java/lang/String", "coder", "()B"⟩, prog_14_method_152_code, 1, (some .byte), cL27)
def cM28 : MM := (⟨"java/lang/String", "charAt", "(I)C"⟩, prog_14_method_56_code, 2, (some .char), cL28)
def cM29 : MM := (⟨"java/lang/String", "isLatin1", "()Z"⟩, prog_14_method_154_code, 1, (some .boolean), cL29)
def cM30 : MM := (⟨"java/lang/StringLatin1", "charAt", "([BI)C"⟩, prog_15_method_2_code, 2, (some .char), cL30)
def cM31 : MM := (⟨"java/lang/String", "checkIndex", "(II)V"⟩, prog_14_method_155_code, 2, none, cL31)
def cM32 : MM := (⟨"jdk/internal/util/Preconditions", "checkIndex", "(IILjava/util/function/BiFunction;)I"⟩, prog_17_method_11_code, 3, (some .int), cL32)
def cM33 : MM := (⟨"DoorPaints$Reader", "readDoor", "()V"⟩, prog_3_method_6_code, 3, none, cL33)
def cM34 : MM := (⟨"DoorPaints$Reader", "numberStands", "(I)Z"⟩, prog_3_method_10_code, 2, (some .boolean), cL34)
def cM35 : MM := (⟨"DoorPaints$Door", "addLayer", "(I)Z"⟩, prog_2_method_11_code, 2, (some .boolean), cL35)
def cM36 : MM := (⟨"DoorPaints$Reader", "endLine", "()V"⟩, prog_3_method_9_code, 1, none, cL36)
def cM37 : MM := (⟨"DoorPaints$Reader", "readNot", "()V"⟩, prog_3_method_7_code, 2, none, cL37)
def cM38 : MM := (⟨"DoorPaints$Door", "forbids", "(I)Z"⟩, prog_2_method_7_code, 2, (some .boolean), cL38)
def cM39 : MM := (⟨"DoorPaints$Door", "forbid", "(IZ)V"⟩, prog_2_method_8_code, 4, none, cL39)
def cM40 : MM := (⟨"DoorPaints$Reader", "readPlan", "()V"⟩, prog_3_method_8_code, 2, none, cL40)
def cM41 : MM := (⟨"DoorPaints", "isAct", "(I)Z"⟩, prog_1_method_43_code, 2, (some .boolean), cL41)
def cM42 : MM := (⟨"DoorPaints", "isSkyAct", "(I)Z"⟩, prog_1_method_42_code, 1, (some .boolean), cL42)
def cM43 : MM := (⟨"DoorPaints$Told", "addAct", "(I)Z"⟩, prog_7_method_4_code, 2, (some .boolean), cL43)
def cM44 : MM := (⟨"DoorPaints$Reader", "kindNamed", "()I"⟩, prog_3_method_4_code, 1, (some .int), cL44)
def cM45 : MM := (⟨"DoorPaints$Reader", "readVisitor", "(I)V"⟩, prog_3_method_5_code, 3, none, cL45)
def cM46 : MM := (⟨"DoorPaints$Town", "addVisitor", "(III)V"⟩, prog_8_method_8_code, 5, none, cL46)
def cM47 : MM := (⟨"DoorPaints$Told", "isWhole", "()Z"⟩, prog_7_method_8_code, 2, (some .boolean), cL47)
def cM48 : MM := (⟨"DoorPaints$Town", "knows", "(I)Z"⟩, prog_8_method_7_code, 2, (some .boolean), cL48)
def cM49 : MM := (⟨"DoorPaints$Town", "hasVisitor", "(I)Z"⟩, prog_8_method_4_code, 2, (some .boolean), cL49)
def cM50 : MM := (⟨"DoorPaints$Town", "hasDoor", "(I)Z"⟩, prog_8_method_5_code, 2, (some .boolean), cL50)
def cM51 : MM := (⟨"DoorPaints$Told", "become", "(LDoorPaints$Told;)V"⟩, prog_7_method_2_code, 3, none, cL51)
def cM52 : MM := (⟨"DoorPaints$Town", "become", "(LDoorPaints$Town;)V"⟩, prog_8_method_2_code, 3, none, cL52)
def cM53 : MM := (⟨"DoorPaints$Visitor", "become", "(LDoorPaints$Visitor;)V"⟩, prog_9_method_2_code, 2, none, cL53)
def cM54 : MM := (⟨"DoorPaints$Door", "become", "(LDoorPaints$Door;)V"⟩, prog_2_method_2_code, 3, none, cL54)
def cM55 : MM := (⟨"DoorPaints", "fault", "()I"⟩, prog_1_method_5_code, 1, (some .int), cL55)
def cM56 : MM := (⟨"DoorPaints", "rule", "(I)I"⟩, prog_1_method_6_code, 2, (some .int), cL56)
def cM57 : MM := (⟨"DoorPaints$Town", "wetBits", "()I"⟩, prog_8_method_18_code, 3, (some .int), cL57)
def cM58 : MM := (⟨"DoorPaints$Town", "wrongBits", "()I"⟩, prog_8_method_19_code, 3, (some .int), cL58)
def cM59 : MM := (⟨"DoorPaints$Door", "isWrong", "()Z"⟩, prog_2_method_6_code, 2, (some .boolean), cL59)
def cM60 : MM := (⟨"DoorPaints$Door", "shown", "()I"⟩, prog_2_method_5_code, 1, (some .int), cL60)
def cM61 : MM := (⟨"DoorPaints$Town", "allPaint", "()I"⟩, prog_8_method_16_code, 3, (some .int), cL61)
def cM62 : MM := (⟨"DoorPaints", "visitor", "(II)I"⟩, prog_1_method_7_code, 4, (some .int), cL62)
def cM63 : MM := (⟨"DoorPaints$Town", "brushOf", "(I)I"⟩, prog_8_method_10_code, 2, (some .int), cL63)
def cM64 : MM := (⟨"DoorPaints", "door", "(II)I"⟩, prog_1_method_8_code, 4, (some .int), cL64)
def cM65 : MM := (⟨"DoorPaints$Door", "layerAt", "(I)I"⟩, prog_2_method_4_code, 2, (some .int), cL65)
def cM66 : MM := (⟨"DoorPaints", "plan", "(I)I"⟩, prog_1_method_9_code, 2, (some .int), cL66)
def cM67 : MM := (⟨"DoorPaints", "uses", "(II)I"⟩, prog_1_method_10_code, 3, (some .int), cL67)
def cM68 : MM := (⟨"DoorPaints$Town", "costOf", "(II)I"⟩, prog_8_method_11_code, 4, (some .int), cL68)
def cM69 : MM := (⟨"DoorPaints", "visit", "(II)I"⟩, prog_1_method_11_code, 3, (some .int), cL69)
def cM70 : MM := (⟨"DoorPaints$Town", "receive", "(II)I"⟩, prog_8_method_12_code, 6, (some .int), cL70)
def cM71 : MM := (⟨"DoorPaints$Door", "takesNoLayer", "()Z"⟩, prog_2_method_10_code, 1, (some .boolean), cL71)
def cM72 : MM := (⟨"DoorPaints$Visitor", "markSleeve", "(I)V"⟩, prog_9_method_3_code, 2, none, cL72)
def cM73 : MM := (⟨"DoorPaints", "isColour", "(I)Z"⟩, prog_1_method_39_code, 1, (some .boolean), cL73)
def cM74 : MM := (⟨"DoorPaints$Door", "paintWith", "(I)V"⟩, prog_2_method_13_code, 3, none, cL74)
def cM75 : MM := (⟨"DoorPaints", "sky", "(I)I"⟩, prog_1_method_12_code, 2, (some .int), cL75)
def cM76 : MM := (⟨"DoorPaints$Town", "weather", "(I)V"⟩, prog_8_method_13_code, 3, none, cL76)
def cM77 : MM := (⟨"DoorPaints$Door", "rainOn", "()V"⟩, prog_2_method_14_code, 3, none, cL77)
def cM78 : MM := (⟨"DoorPaints$Door", "loseTop", "()V"⟩, prog_2_method_12_code, 1, none, cL78)
def cM79 : MM := (⟨"DoorPaints$Door", "shineOn", "()V"⟩, prog_2_method_15_code, 2, none, cL79)
def cM80 : MM := (⟨"DoorPaints$Town", "allLayers", "()I"⟩, prog_8_method_17_code, 3, (some .int), cL80)
def cM81 : MM := (⟨"DoorPaints", "scrape", "(I)I"⟩, prog_1_method_13_code, 3, (some .int), cL81)
def cM82 : MM := (⟨"DoorPaints", "alter", "(III)I"⟩, prog_1_method_14_code, 6, (some .int), cL82)
def cM83 : MM := (⟨"DoorPaints", "ought", "(IIZ)I"⟩, prog_1_method_15_code, 4, (some .int), cL83)
def cM84 : MM := (⟨"DoorPaints", "plans", "(I)I"⟩, prog_1_method_16_code, 2, (some .int), cL84)
def cM85 : MM := (⟨"DoorPaints", "cut", "(I)I"⟩, prog_1_method_17_code, 3, (some .int), cL85)
def cM86 : MM := (⟨"DoorPaints", "runs", "(I)I"⟩, prog_1_method_18_code, 3, (some .int), cL86)
def cM87 : MM := (⟨"DoorPaints", "rehearse", "()I"⟩, prog_1_method_45_code, 1, (some .int), cL87)
def cM88 : MM := (⟨"DoorPaints", "actInTrial", "(II)I"⟩, prog_1_method_46_code, 5, (some .int), cL88)
def cM89 : MM := (⟨"DoorPaints$Town", "undergo", "(I)Z"⟩, prog_8_method_14_code, 2, (some .boolean), cL89)
def cM90 : MM := (⟨"DoorPaints", "isRefusal", "(I)Z"⟩, prog_1_method_44_code, 1, (some .boolean), cL90)
def cM91 : MM := (⟨"DoorPaints", "takenInTrial", "()I"⟩, prog_1_method_47_code, 1, (some .int), cL91)
def cM92 : MM := (⟨"DoorPaints$Town", "markedBits", "()I"⟩, prog_8_method_20_code, 3, (some .int), cL92)
def cM93 : MM := (⟨"DoorPaints", "ahead", "(I)I"⟩, prog_1_method_19_code, 2, (some .int), cL93)
def cM94 : MM := (⟨"DoorPaints", "clears", "(I)I"⟩, prog_1_method_20_code, 4, (some .int), cL94)
def cM95 : MM := (⟨"DoorPaints", "best", "(II)I"⟩, prog_1_method_21_code, 3, (some .int), cL95)
def cM96 : MM := (⟨"DoorPaints$Search", "forBest", "(LDoorPaints$Town;I)V"⟩, prog_4_method_2_code, 3, none, cL96)
def cM97 : MM := (⟨"DoorPaints$Search", "begin", "(LDoorPaints$Town;I)V"⟩, prog_4_method_4_code, 3, none, cL97)
def cM98 : MM := (⟨"DoorPaints$Town", "hasVisits", "()Z"⟩, prog_8_method_6_code, 1, (some .boolean), cL98)
def cM99 : MM := (⟨"java/lang/Integer", "bitCount", "(I)I"⟩, prog_12_method_49_code, 1, (some .int), cL99)
def cM100 : MM := (⟨"DoorPaints$Search", "tryFrom", "(III)V"⟩, prog_4_method_6_code, 6, none, cL100)
def cM101 : MM := (⟨"DoorPaints$Search", "isBetter", "(II)Z"⟩, prog_4_method_9_code, 3, (some .boolean), cL101)
def cM102 : MM := (⟨"DoorPaints$Search", "take", "(II)V"⟩, prog_4_method_10_code, 4, none, cL102)
def cM103 : MM := (⟨"DoorPaints$Search", "mayImprove", "(III)Z"⟩, prog_4_method_8_code, 4, (some .boolean), cL103)
def cM104 : MM := (⟨"DoorPaints$Search", "tryVisit", "(IIIII)V"⟩, prog_4_method_7_code, 13, none, cL104)
def cM105 : MM := (⟨"DoorPaints$Door", "restore", "(IIZ)V"⟩, prog_2_method_16_code, 4, none, cL105)
def cM106 : MM := (⟨"DoorPaints$Search", "visitAt", "(I)I"⟩, prog_4_method_5_code, 2, (some .int), cL106)
def cM107 : MM := (⟨"DoorPaints", "few", "(I)I"⟩, prog_1_method_22_code, 3, (some .int), cL107)
def cM108 : MM := (⟨"DoorPaints$Search", "clearsAll", "(LDoorPaints$Town;I)Z"⟩, prog_4_method_3_code, 3, (some .boolean), cL108)
def cM109 : MM := (⟨"DoorPaints", "reads", "(I)I"⟩, prog_1_method_23_code, 5, (some .int), cL109)
def cM110 : MM := (⟨"DoorPaints$Door", "hasLayerOf", "(I)Z"⟩, prog_2_method_9_code, 3, (some .boolean), cL110)
def cM111 : MM := (⟨"DoorPaints", "see", "(III)I"⟩, prog_1_method_24_code, 5, (some .int), cL111)
def cM112 : MM := (⟨"DoorPaints$Told", "addSeen", "(III)Z"⟩, prog_7_method_5_code, 4, (some .boolean), cL112)
def cM113 : MM := (⟨"DoorPaints", "forget", "(I)I"⟩, prog_1_method_25_code, 3, (some .int), cL113)
def cM114 : MM := (⟨"DoorPaints", "pots", "(I)I"⟩, prog_1_method_26_code, 4, (some .int), cL114)
def cM115 : MM := (⟨"DoorPaints$Town", "lend", "(II)V"⟩, prog_8_method_9_code, 3, none, cL115)
def cM116 : MM := (⟨"DoorPaints$Told", "agreesWith", "(LDoorPaints$Town;)Z"⟩, prog_7_method_6_code, 4, (some .boolean), cL116)
def cM117 : MM := (⟨"DoorPaints", "rained", "()I"⟩, prog_1_method_27_code, 3, (some .int), cL117)
def cM118 : MM := (⟨"DoorPaints", "orders", "(I)I"⟩, prog_1_method_28_code, 2, (some .int), cL118)
def cM119 : MM := (⟨"DoorPaints", "arrange", "(II)V"⟩, prog_1_method_48_code, 4, none, cL119)
def cM120 : MM := (⟨"DoorPaints", "judgeOrder", "(I)V"⟩, prog_1_method_49_code, 3, none, cL120)
def cM121 : MM := (⟨"DoorPaints", "luck", "(III)J"⟩, prog_1_method_29_code, 10, (some .long), cL121)
def cM122 : MM := (⟨"DoorPaints$Told", "visitsPlanned", "()I"⟩, prog_7_method_7_code, 3, (some .int), cL122)
def cM123 : MM := (⟨"DoorPaints", "weightOf", "(III)J"⟩, prog_1_method_51_code, 6, (some .long), cL123)
def cM124 : MM := (⟨"DoorPaints", "actChosen", "(I)V"⟩, prog_1_method_50_code, 5, none, cL124)
def cM125 : MM := (⟨"DoorPaints", "powerOfTen", "(I)J"⟩, prog_1_method_52_code, 4, (some .long), cL125)
def cM126 : MM := (⟨"DoorPaints", "ofFraction", "(JJI)J"⟩, prog_1_method_53_code, 12, (some .long), cL126)
def cM127 : MM := (⟨"DoorPaints", "mean", "(II)J"⟩, prog_1_method_30_code, 9, (some .long), cL127)
def cM128 : MM := (⟨"DoorPaints", "drift", "(III)I"⟩, prog_1_method_31_code, 6, (some .int), cL128)
def cM129 : MM := (⟨"DoorPaints$Town", "actBySeed", "(I)V"⟩, prog_8_method_15_code, 3, none, cL129)
def cM130 : MM := (⟨"DoorPaints", "keep", "(I)I"⟩, prog_1_method_32_code, 3, (some .int), cL130)
def cM131 : MM := (⟨"DoorPaints", "back", "(I)I"⟩, prog_1_method_33_code, 2, (some .int), cL131)
def cM132 : MM := (⟨"DoorPaints", "sheet", "(III)I"⟩, prog_1_method_34_code, 4, (some .int), cL132)
def cM133 : MM := (⟨"DoorPaints", "isSheet", "(I)Z"⟩, prog_1_method_40_code, 1, (some .boolean), cL133)
def cM134 : MM := (⟨"DoorPaints", "isLane", "(I)Z"⟩, prog_1_method_41_code, 1, (some .boolean), cL134)
def cM135 : MM := (⟨"DoorPaints$Sheet", "renew", "(II)V"⟩, prog_5_method_2_code, 4, none, cL135)
def cM136 : MM := (⟨"DoorPaints", "lay", "(III)I"⟩, prog_1_method_35_code, 6, (some .int), cL136)
def cM137 : MM := (⟨"DoorPaints$Sheet", "faultAt", "(II)I"⟩, prog_5_method_3_code, 3, (some .int), cL137)
def cM138 : MM := (⟨"DoorPaints$Sheet", "put", "(II)V"⟩, prog_5_method_5_code, 3, none, cL138)
def cM139 : MM := (⟨"DoorPaints", "read", "(IIII)I"⟩, prog_1_method_36_code, 10, (some .int), cL139)
def cM140 : MM := (⟨"DoorPaints$Sheet", "faultOfPair", "(II)I"⟩, prog_5_method_4_code, 4, (some .int), cL140)
def cM141 : MM := (⟨"DoorPaints$Sheet", "cellAt", "(I)I"⟩, prog_5_method_6_code, 2, (some .int), cL141)
def cM142 : MM := (⟨"DoorPaints", "torn", "()I"⟩, prog_1_method_37_code, 1, (some .int), cL142)
def cM143 : MM := (⟨"DoorPaints", "count", "(I)I"⟩, prog_1_method_38_code, 2, (some .int), cL143)
def cM144 : MM := (⟨"DoorPaintsModel", "<init>", "()V"⟩, prog_11_method_1_code, 2, none, cL144)
def cM145 : MM := (⟨"DoorPaintsModel", "firstDraft", "()V"⟩, prog_11_method_5_code, 2, none, cL145)
def cM146 : MM := (⟨"DoorPaintsModel", "keepDraft", "()V"⟩, prog_11_method_6_code, 2, none, cL146)
def cM147 : MM := (⟨"DoorPaintsModel", "feed", "(I)I"⟩, prog_11_method_7_code, 2, (some .int), cL147)
def cM148 : MM := (⟨"DoorPaintsModel", "in", "(JJJ)Z"⟩, prog_11_method_3_code, 6, (some .boolean), cL148)
def cM149 : MM := (⟨"DoorPaintsModel", "end", "(I)I"⟩, prog_11_method_8_code, 3, (some .int), cL149)
def cM150 : MM := (⟨"DoorPaintsModel", "text", "()I"⟩, prog_11_method_24_code, 2, (some .int), cL150)
def cM151 : MM := (⟨"DoorPaintsModel", "next", "()V"⟩, prog_11_method_14_code, 2, none, cL151)
def cM152 : MM := (⟨"DoorPaintsModel", "byteAt", "(I)I"⟩, prog_11_method_10_code, 2, (some .int), cL152)
def cM153 : MM := (⟨"DoorPaintsModel", "needs", "(ZI)V"⟩, prog_11_method_9_code, 3, none, cL153)
def cM154 : MM := (⟨"DoorPaintsModel", "readLine", "()V"⟩, prog_11_method_23_code, 2, none, cL154)
def cM155 : MM := (⟨"DoorPaintsModel", "lineNow", "()I"⟩, prog_11_method_13_code, 1, (some .int), cL155)
def cM156 : MM := (⟨"DoorPaintsModel", "is", "(IIII)Z"⟩, prog_11_method_11_code, 5, (some .boolean), cL156)
def cM157 : MM := (⟨"DoorPaintsModel", "ends", "(III)Z"⟩, prog_11_method_12_code, 4, (some .boolean), cL157)
def cM158 : MM := (⟨"DoorPaintsModel", "readLineOf", "(I)V"⟩, prog_11_method_22_code, 2, none, cL158)
def cM159 : MM := (⟨"DoorPaintsModel", "readDoor", "()V"⟩, prog_11_method_18_code, 3, none, cL159)
def cM160 : MM := (⟨"DoorPaintsModel", "readNumber", "(II)I"⟩, prog_11_method_16_code, 4, (some .int), cL160)
def cM161 : MM := (⟨"DoorPaintsModel", "looked", "(II)I"⟩, prog_11_method_15_code, 3, (some .int), cL161)
def cM162 : MM := (⟨"DoorPaintsModel", "readNot", "()V"⟩, prog_11_method_19_code, 3, none, cL162)
def cM163 : MM := (⟨"DoorPaintsModel", "readPlan", "()V"⟩, prog_11_method_21_code, 1, none, cL163)
def cM164 : MM := (⟨"DoorPaintsModel", "isActLike", "(I)Z"⟩, prog_11_method_20_code, 1, (some .boolean), cL164)
def cM165 : MM := (⟨"DoorPaintsModel", "readVisitor", "(I)V"⟩, prog_11_method_17_code, 3, none, cL165)
def cM166 : MM := (⟨"DoorPaintsModel", "fault", "()I"⟩, prog_11_method_25_code, 1, (some .int), cL166)
def cM167 : MM := (⟨"DoorPaintsModel", "rule", "(I)I"⟩, prog_11_method_50_code, 5, (some .int), cL167)
def cM168 : MM := (⟨"DoorPaintsModel", "starts", "()V"⟩, prog_11_method_30_code, 2, none, cL168)
def cM169 : MM := (⟨"DoorPaintsModel", "ofDoor", "(II)I"⟩, prog_11_method_33_code, 3, (some .int), cL169)
def cM170 : MM := (⟨"DoorPaintsModel", "of", "(II)I"⟩, prog_11_method_32_code, 3, (some .int), cL170)
def cM171 : MM := (⟨"DoorPaintsModel", "wrong", "()I"⟩, prog_11_method_47_code, 3, (some .int), cL171)
def cM172 : MM := (⟨"DoorPaintsModel", "isWrong", "(I)Z"⟩, prog_11_method_46_code, 2, (some .boolean), cL172)
def cM173 : MM := (⟨"DoorPaintsModel", "showsOf", "(I)I"⟩, prog_11_method_36_code, 2, (some .int), cL173)
def cM174 : MM := (⟨"DoorPaintsModel", "layerOf", "(II)I"⟩, prog_11_method_35_code, 3, (some .int), cL174)
def cM175 : MM := (⟨"DoorPaintsModel", "flag", "(Z)I"⟩, prog_11_method_4_code, 1, (some .int), cL175)
def cM176 : MM := (⟨"DoorPaintsModel", "visitor", "(II)I"⟩, prog_11_method_51_code, 3, (some .int), cL176)
def cM177 : MM := (⟨"DoorPaintsModel", "isVisitor", "(I)Z"⟩, prog_11_method_26_code, 2, (some .boolean), cL177)
def cM178 : MM := (⟨"DoorPaintsModel", "brushOf", "(I)I"⟩, prog_11_method_39_code, 2, (some .int), cL178)
def cM179 : MM := (⟨"DoorPaintsModel", "ownBrush", "(I)I"⟩, prog_11_method_38_code, 2, (some .int), cL179)
def cM180 : MM := (⟨"DoorPaintsModel", "door", "(II)I"⟩, prog_11_method_52_code, 3, (some .int), cL180)
def cM181 : MM := (⟨"DoorPaintsModel", "isDoor", "(I)Z"⟩, prog_11_method_27_code, 2, (some .boolean), cL181)
def cM182 : MM := (⟨"DoorPaintsModel", "plan", "(I)I"⟩, prog_11_method_53_code, 2, (some .int), cL182)
def cM183 : MM := (⟨"DoorPaintsModel", "uses", "(II)I"⟩, prog_11_method_55_code, 3, (some .int), cL183)
def cM184 : MM := (⟨"DoorPaintsModel", "usesOf", "(II)I"⟩, prog_11_method_37_code, 5, (some .int), cL184)
def cM185 : MM := (⟨"DoorPaintsModel", "visit", "(II)I"⟩, prog_11_method_56_code, 4, (some .int), cL185)
def cM186 : MM := (⟨"DoorPaintsModel", "keepsOut", "(II)I"⟩, prog_11_method_40_code, 4, (some .int), cL186)
def cM187 : MM := (⟨"DoorPaintsModel", "visits", "(II)I"⟩, prog_11_method_41_code, 7, (some .int), cL187)
def cM188 : MM := (⟨"DoorPaintsModel", "becomesDoor", "(III)V"⟩, prog_11_method_34_code, 4, none, cL188)
def cM189 : MM := (⟨"DoorPaintsModel", "settles", "()V"⟩, prog_11_method_31_code, 2, none, cL189)
def cM190 : MM := (⟨"DoorPaintsModel", "sky", "(I)I"⟩, prog_11_method_57_code, 2, (some .int), cL190)
def cM191 : MM := (⟨"DoorPaintsModel", "goesBy", "(I)V"⟩, prog_11_method_43_code, 3, none, cL191)
def cM192 : MM := (⟨"DoorPaintsModel", "rains", "(I)V"⟩, prog_11_method_42_code, 6, none, cL192)
def cM193 : MM := (⟨"DoorPaintsModel", "layers", "()I"⟩, prog_11_method_48_code, 3, (some .int), cL193)
def cM194 : MM := (⟨"DoorPaintsModel", "scrape", "(I)I"⟩, prog_11_method_58_code, 2, (some .int), cL194)
def cM195 : MM := (⟨"DoorPaintsModel", "alter", "(III)I"⟩, prog_11_method_60_code, 4, (some .int), cL195)
def cM196 : MM := (⟨"DoorPaintsModel", "mostOf", "(I)I"⟩, prog_11_method_59_code, 1, (some .int), cL196)
def cM197 : MM := (⟨"DoorPaintsModel", "becomes", "(II)I"⟩, prog_11_method_54_code, 4, (some .int), cL197)
def cM198 : MM := (⟨"DoorPaintsModel", "ought", "(IIZ)I"⟩, prog_11_method_61_code, 6, (some .int), cL198)
def cM199 : MM := (⟨"DoorPaintsModel", "plans", "(I)I"⟩, prog_11_method_62_code, 2, (some .int), cL199)
def cM200 : MM := (⟨"DoorPaintsModel", "isAct", "(I)Z"⟩, prog_11_method_29_code, 2, (some .boolean), cL200)
def cM201 : MM := (⟨"DoorPaintsModel", "cut", "(I)I"⟩, prog_11_method_63_code, 2, (some .int), cL201)
def cM202 : MM := (⟨"DoorPaintsModel", "runs", "(I)I"⟩, prog_11_method_64_code, 5, (some .int), cL202)
def cM203 : MM := (⟨"DoorPaintsModel", "acts", "(I)V"⟩, prog_11_method_44_code, 2, none, cL203)
def cM204 : MM := (⟨"DoorPaintsModel", "ahead", "(I)I"⟩, prog_11_method_65_code, 2, (some .int), cL204)
def cM205 : MM := (⟨"DoorPaintsModel", "plansGo", "()V"⟩, prog_11_method_45_code, 2, none, cL205)
def cM206 : MM := (⟨"DoorPaintsModel", "clears", "(I)I"⟩, prog_11_method_66_code, 4, (some .int), cL206)
def cM207 : MM := (⟨"DoorPaintsModel", "best", "(II)I"⟩, prog_11_method_72_code, 10, (some .int), cL207)
def cM208 : MM := (⟨"DoorPaintsModel", "isPart", "(I)Z"⟩, prog_11_method_28_code, 1, (some .boolean), cL208)
def cM209 : MM := (⟨"DoorPaintsModel", "kindsOfVisit", "()I"⟩, prog_11_method_67_code, 1, (some .int), cL209)
def cM210 : MM := (⟨"DoorPaintsModel", "rowsOf", "(I)I"⟩, prog_11_method_69_code, 4, (some .int), cL210)
def cM211 : MM := (⟨"DoorPaintsModel", "goesRow", "(II)V"⟩, prog_11_method_71_code, 5, none, cL211)
def cM212 : MM := (⟨"DoorPaintsModel", "actAt", "(I)I"⟩, prog_11_method_68_code, 2, (some .int), cL212)
def cM213 : MM := (⟨"DoorPaintsModel", "bitsOf", "(I)I"⟩, prog_11_method_49_code, 3, (some .int), cL213)
def cM214 : MM := (⟨"DoorPaintsModel", "visitIn", "(III)I"⟩, prog_11_method_70_code, 4, (some .int), cL214)
def cM215 : MM := (⟨"DoorPaintsModel", "few", "(I)I"⟩, prog_11_method_73_code, 4, (some .int), cL215)
def cM216 : MM := (⟨"DoorPaintsModel", "reads", "(I)I"⟩, prog_11_method_74_code, 6, (some .int), cL216)
def cM217 : MM := (⟨"DoorPaintsModel", "see", "(III)I"⟩, prog_11_method_75_code, 5, (some .int), cL217)
def cM218 : MM := (⟨"DoorPaintsModel", "forget", "(I)I"⟩, prog_11_method_76_code, 2, (some .int), cL218)
def cM219 : MM := (⟨"DoorPaintsModel", "pots", "(I)I"⟩, prog_11_method_78_code, 4, (some .int), cL219)
def cM220 : MM := (⟨"DoorPaintsModel", "isSo", "()Z"⟩, prog_11_method_77_code, 6, (some .boolean), cL220)
def cM221 : MM := (⟨"DoorPaintsModel", "rained", "()I"⟩, prog_11_method_79_code, 4, (some .int), cL221)
def cM222 : MM := (⟨"DoorPaintsModel", "orders", "(I)I"⟩, prog_11_method_81_code, 8, (some .int), cL222)
def cM223 : MM := (⟨"DoorPaintsModel", "isOrder", "(I)Z"⟩, prog_11_method_80_code, 6, (some .boolean), cL223)
def cM224 : MM := (⟨"DoorPaintsModel", "luck", "(III)J"⟩, prog_11_method_85_code, 4, (some .long), cL224)
def cM225 : MM := (⟨"DoorPaintsModel", "findOdds", "(II)V"⟩, prog_11_method_84_code, 10, none, cL225)
def cM226 : MM := (⟨"DoorPaintsModel", "told", "(JJI)J"⟩, prog_11_method_83_code, 7, (some .long), cL226)
def cM227 : MM := (⟨"DoorPaintsModel", "common", "(JJ)J"⟩, prog_11_method_82_code, 10, (some .long), cL227)
def cM228 : MM := (⟨"DoorPaintsModel", "mean", "(II)J"⟩, prog_11_method_86_code, 3, (some .long), cL228)
def cM229 : MM := (⟨"DoorPaintsModel", "drift", "(III)I"⟩, prog_11_method_87_code, 8, (some .int), cL229)
def cM230 : MM := (⟨"DoorPaintsModel", "keep", "(I)I"⟩, prog_11_method_89_code, 3, (some .int), cL230)
def cM231 : MM := (⟨"DoorPaintsModel", "copies", "(II)V"⟩, prog_11_method_88_code, 4, none, cL231)
def cM232 : MM := (⟨"DoorPaintsModel", "back", "(I)I"⟩, prog_11_method_90_code, 2, (some .int), cL232)
def cM233 : MM := (⟨"DoorPaintsModel", "sheet", "(III)I"⟩, prog_11_method_92_code, 5, (some .int), cL233)
def cM234 : MM := (⟨"DoorPaintsModel", "isSheet", "(II)Z"⟩, prog_11_method_91_code, 2, (some .boolean), cL234)
def cM235 : MM := (⟨"DoorPaintsModel", "lay", "(III)I"⟩, prog_11_method_93_code, 4, (some .int), cL235)
def cM236 : MM := (⟨"DoorPaintsModel", "read", "(IIII)I"⟩, prog_11_method_94_code, 11, (some .int), cL236)
def cM237 : MM := (⟨"DoorPaintsModel", "torn", "()I"⟩, prog_11_method_95_code, 1, (some .int), cL237)
def cM238 : MM := (⟨"DoorPaintsModel", "count", "(I)I"⟩, prog_11_method_96_code, 2, (some .int), cL238)
def tMT : List MM := [cM0, cM1, cM2, cM3, cM4, cM5, cM6, cM7, cM8, cM9, cM10, cM11, cM12, cM13, cM14, cM15, cM16, cM17, cM18, cM19, cM20, cM21, cM22, cM23, cM24, cM25, cM26, cM27, cM28, cM29, cM30, cM31, cM32, cM33, cM34, cM35, cM36, cM37, cM38, cM39, cM40, cM41, cM42, cM43, cM44, cM45, cM46, cM47, cM48, cM49, cM50, cM51, cM52, cM53, cM54, cM55, cM56, cM57, cM58, cM59, cM60, cM61, cM62, cM63, cM64, cM65, cM66, cM67, cM68, cM69, cM70, cM71, cM72, cM73, cM74, cM75, cM76, cM77, cM78, cM79, cM80, cM81, cM82, cM83, cM84, cM85, cM86, cM87, cM88, cM89, cM90, cM91, cM92, cM93, cM94, cM95, cM96, cM97, cM98, cM99, cM100, cM101, cM102, cM103, cM104, cM105, cM106, cM107, cM108, cM109, cM110, cM111, cM112, cM113, cM114, cM115, cM116, cM117, cM118, cM119, cM120, cM121, cM122, cM123, cM124, cM125, cM126, cM127, cM128, cM129, cM130, cM131, cM132, cM133, cM134, cM135, cM136, cM137, cM138, cM139, cM140, cM141, cM142, cM143, cM144, cM145, cM146, cM147, cM148, cM149, cM150, cM151, cM152, cM153, cM154, cM155, cM156, cM157, cM158, cM159, cM160, cM161, cM162, cM163, cM164, cM165, cM166, cM167, cM168, cM169, cM170, cM171, cM172, cM173, cM174, cM175, cM176, cM177, cM178, cM179, cM180, cM181, cM182, cM183, cM184, cM185, cM186, cM187, cM188, cM189, cM190, cM191, cM192, cM193, cM194, cM195, cM196, cM197, cM198, cM199, cM200, cM201, cM202, cM203, cM204, cM205, cM206, cM207, cM208, cM209, cM210, cM211, cM212, cM213, cM214, cM215, cM216, cM217, cM218, cM219, cM220, cM221, cM222, cM223, cM224, cM225, cM226, cM227, cM228, cM229, cM230, cM231, cM232, cM233, cM234, cM235, cM236, cM237, cM238]
end
