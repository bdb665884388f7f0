def xi_107_3 : XIs := [(60, .iastore, 1), (61, .aload_n 0, 1), (62, .getfield 30, 3), (65, .iload_n 2, 1), (66, .dup2, 1), (67, .iaload, 1), (68, .iconst 1, 1), (69, .iload_n 1, 1), (70, .ishl, 1), (71, .ior, 1), (72, .iastore, 1), (73, .return_, 1)]
set_option maxRecDepth 100000 in
theorem xi_ok107_3 : xi_ok cX3_tieEnds xi_107_3 = true := by decide +kernel
def xi_107 (pc : Nat) : XIs := cond (Nat.blt pc 40) (cond (Nat.blt pc 20) (xi_107_0) (xi_107_1)) (cond (Nat.blt pc 60) (xi_107_2) (xi_107_3))
theorem xi_ok107 (pc : Nat) : xi_ok cX3_tieEnds (xi_107 pc) = true := xi_c (xi_c (xi_ok107_0) (xi_ok107_1)) (xi_c (xi_ok107_2) (xi_ok107_3))
def xi_108_0 : XIs := [(0, .aload_n 0, 1), (1, .invokespecial 3, 3), (4, .aload_n 0, 1), (5, .iconst (-1), 1), (6, .putfield 9, 3), (9, .aload_n 0, 1), (10, .bipush 32, 2), (12, .newarray .long, 2), (14, .putfield 15, 3), (17, .aload_n 0, 1), (18, .bipush 32, 2), (20, .newarray .long, 2), (22, .putfield 19, 3), (25, .aload_n 0, 1), (26, .iconst (-1), 1), (27, .putfield 22, 3)]
set_option maxRecDepth 100000 in
theorem xi_ok108_0 : xi_ok cX4_init xi_108_0 = true := by decide +kernel
def xi_108_1 : XIs := [(30, .aload_n 0, 1), (31, .bipush 32, 2), (33, .newarray .int, 2), (35, .putfield 25, 3), (38, .aload_n 0, 1), (39, .bipush 32, 2), (41, .newarray .int, 2), (43, .putfield 29, 3), (46, .aload_n 0, 1), (47, .bipush 32, 2), (49, .newarray .int, 2), (51, .putfield 32, 3), (54, .aload_n 0, 1), (55, .bipush 32, 2), (57, .newarray .int, 2), (59, .putfield 35, 3)]
set_option maxRecDepth 100000 in
theorem xi_ok108_1 : xi_ok cX4_init xi_108_1 = true := by decide +kernel
def xi_108_2 : XIs := [(62, .aload_n 0, 1), (63, .bipush 32, 2), (65, .newarray .int, 2), (67, .putfield 38, 3), (70, .return_, 1)]
set_option maxRecDepth 100000 in
theorem xi_ok108_2 : xi_ok cX4_init xi_108_2 = true := by decide +kernel
def xi_108 (pc : Nat) : XIs := cond (Nat.blt pc 30) (xi_108_0) (cond (Nat.blt pc 62) (xi_108_1) (xi_108_2))
theorem xi_ok108 (pc : Nat) : xi_ok cX4_init (xi_108 pc) = true := xi_c (xi_ok108_0) (xi_c (xi_ok108_1) (xi_ok108_2))
def xi_109_0 : XIs := [(0, .aload_n 0, 1), (1, .getfield 9, 3), (4, .aload_n 1, 1), (5, .getfield 41, 3), (8, .if_icmp .ne 11, 3), (11, .iload_n 3, 1), (12, .aload_n 0, 1), (13, .getfield 46, 3), (16, .if_icmp .ge 26, 3), (19, .aload_n 0, 1), (20, .aload_n 1, 1), (21, .getfield 41, 3), (24, .putfield 9, 3), (27, .aload_n 0, 1), (28, .iconst 0, 1), (29, .putfield 46, 3)]
set_option maxRecDepth 100000 in
theorem xi_ok109_0 : xi_ok cX4_unitsOf xi_109_0 = true := by decide +kernel
def xi_109_1 : XIs := [(32, .aload_n 0, 1), (33, .getfield 15, 3), (36, .ldc2_w 49, 3), (39, .invokestatic 51, 3), (42, .aload_n 1, 1), (43, .invokevirtual 57, 3), (46, .aload_n 0, 1), (47, .getfield 46, 3), (50, .iload_n 3, 1), (51, .if_icmp .ge 21, 3), (54, .aload_n 0, 1), (55, .aload_n 1, 1), (56, .invokevirtual 60, 3), (59, .aload_n 0, 1), (60, .dup, 1), (61, .getfield 46, 3)]
set_option maxRecDepth 100000 in
theorem xi_ok109_1 : xi_ok cX4_unitsOf xi_109_1 = true := by decide +kernel
def xi_109_2 : XIs := [(64, .iconst 1, 1), (65, .iadd, 1), (66, .putfield 46, 3), (69, .goto (-23), 3), (72, .aload_n 0, 1), (73, .getfield 15, 3), (76, .iload_n 2, 1), (77, .laload, 1), (78, .lreturn, 1)]
set_option maxRecDepth 100000 in
theorem xi_ok109_2 : xi_ok cX4_unitsOf xi_109_2 = true := by decide +kernel
def xi_109 (pc : Nat) : XIs := cond (Nat.blt pc 32) (xi_109_0) (cond (Nat.blt pc 64) (xi_109_1) (xi_109_2))
theorem xi_ok109 (pc : Nat) : xi_ok cX4_unitsOf (xi_109 pc) = true := xi_c (xi_ok109_0) (xi_c (xi_ok109_1) (xi_ok109_2))
def xi_110_0 : XIs := [(0, .lconst 0, 1), (1, .lstore_n 2, 1), (2, .aload_n 0, 1), (3, .getfield 19, 3), (6, .lconst 0, 1), (7, .invokestatic 51, 3), (10, .iconst 0, 1), (11, .istore 4, 2), (13, .iload 4, 2), (15, .aload_n 1, 1), (16, .getfield 64, 3), (19, .if_icmp .ge 115, 3), (22, .aload_n 1, 1), (23, .iload 4, 2), (25, .invokevirtual 67, 3), (28, .istore 5, 2)]
set_option maxRecDepth 100000 in
theorem xi_ok110_0 : xi_ok cX4_shareOut xi_110_0 = true := by decide +kernel
def xi_110_1 : XIs := [(30, .iload 5, 2), (32, .ifCond .ne 7, 3), (35, .lconst 0, 1), (36, .goto 22, 3), (39, .aload_n 0, 1), (40, .getfield 15, 3), (43, .iload 4, 2), (45, .laload, 1), (46, .ldc2_w 71, 3), (49, .lmul, 1), (50, .ldc2_w 73, 3), (53, .iload 5, 2), (55, .i2l, 1), (56, .lmul, 1), (57, .ldiv, 1), (58, .lstore 6, 2)]
set_option maxRecDepth 100000 in
theorem xi_ok110_1 : xi_ok cX4_shareOut xi_110_1 = true := by decide +kernel
def xi_110_2 : XIs := [(60, .aload_n 1, 1), (61, .getfield 75, 3), (64, .iload 4, 2), (66, .iaload, 1), (67, .istore 8, 2), (69, .iload 8, 2), (71, .aload_n 1, 1), (72, .getfield 75, 3), (75, .iload 4, 2), (77, .iconst 1, 1), (78, .iadd, 1), (79, .iaload, 1), (80, .if_icmp .ge 31, 3), (83, .aload_n 0, 1), (84, .getfield 19, 3), (87, .aload_n 1, 1)]
set_option maxRecDepth 100000 in
theorem xi_ok110_2 : xi_ok cX4_shareOut xi_110_2 = true := by decide +kernel
def xi_110_3 : XIs := [(88, .getfield 78, 3), (91, .aload_n 1, 1), (92, .getfield 81, 3), (95, .iload 8, 2), (97, .iaload, 1), (98, .iaload, 1), (99, .dup2, 1), (100, .laload, 1), (101, .lload 6, 2), (103, .ladd, 1), (104, .lastore, 1), (105, .iinc 8 1, 3), (108, .goto (-39), 3), (111, .lload_n 2, 1), (112, .aload_n 0, 1), (113, .getfield 15, 3)]
set_option maxRecDepth 100000 in
theorem xi_ok110_3 : xi_ok cX4_shareOut xi_110_3 = true := by decide +kernel
def xi_110_4 : XIs := [(116, .iload 4, 2), (118, .laload, 1), (119, .lload 6, 2), (121, .iload 5, 2), (123, .i2l, 1), (124, .lmul, 1), (125, .lsub, 1), (126, .ladd, 1), (127, .lstore_n 2, 1), (128, .iinc 4 1, 3), (131, .goto (-118), 3), (134, .iconst 0, 1), (135, .istore 4, 2), (137, .iload 4, 2), (139, .aload_n 1, 1), (140, .getfield 64, 3)]
set_option maxRecDepth 100000 in
theorem xi_ok110_4 : xi_ok cX4_shareOut xi_110_4 = true := by decide +kernel
def xi_110_5 : XIs := [(143, .if_icmp .ge 46, 3), (146, .aload_n 0, 1), (147, .getfield 19, 3), (150, .iload 4, 2), (152, .dup2, 1), (153, .laload, 1), (154, .lload_n 2, 1), (155, .aload_n 1, 1), (156, .getfield 64, 3), (159, .i2l, 1), (160, .ldiv, 1), (161, .iload 4, 2), (163, .i2l, 1), (164, .lload_n 2, 1), (165, .aload_n 1, 1), (166, .getfield 64, 3)]
set_option maxRecDepth 100000 in
theorem xi_ok110_5 : xi_ok cX4_shareOut xi_110_5 = true := by decide +kernel
def xi_110_6 : XIs := [(169, .i2l, 1), (170, .lrem, 1), (171, .lcmp, 1), (172, .ifCond .ge 7, 3), (175, .lconst 1, 1), (176, .goto 4, 3), (179, .lconst 0, 1), (180, .ladd, 1), (181, .ladd, 1), (182, .lastore, 1), (183, .iinc 4 1, 3), (186, .goto (-49), 3), (189, .aload_n 0, 1), (190, .getfield 15, 3), (193, .astore 4, 2), (195, .aload_n 0, 1)]
set_option maxRecDepth 100000 in
theorem xi_ok110_6 : xi_ok cX4_shareOut xi_110_6 = true := by decide +kernel
def xi_110_7 : XIs := [(196, .aload_n 0, 1), (197, .getfield 19, 3), (200, .putfield 15, 3), (203, .aload_n 0, 1), (204, .aload 4, 2), (206, .putfield 19, 3), (209, .return_, 1)]
set_option maxRecDepth 100000 in
theorem xi_ok110_7 : xi_ok cX4_shareOut xi_110_7 = true := by decide +kernel
def xi_110 (pc : Nat) : XIs := cond (Nat.blt pc 116) (cond (Nat.blt pc 60) (cond (Nat.blt pc 30) (xi_110_0) (xi_110_1)) (cond (Nat.blt pc 88) (xi_110_2) (xi_110_3))) (cond (Nat.blt pc 169) (cond (Nat.blt pc 143) (xi_110_4) (xi_110_5)) (cond (Nat.blt pc 196) (xi_110_6) (xi_110_7)))
theorem xi_ok110 (pc : Nat) : xi_ok cX4_shareOut (xi_110 pc) = true := xi_c (xi_c (xi_c (xi_ok110_0) (xi_ok110_1)) (xi_c (xi_ok110_2) (xi_ok110_3))) (xi_c (xi_c (xi_ok110_4) (xi_ok110_5)) (xi_c (xi_ok110_6) (xi_ok110_7)))
def xi_111_0 : XIs := [(0, .aload_n 0, 1), (1, .aload_n 1, 1), (2, .invokevirtual 84, 3), (5, .aload_n 0, 1), (6, .getfield 29, 3), (9, .aload_n 0, 1), (10, .getfield 25, 3), (13, .iload_n 2, 1), (14, .iaload, 1), (15, .iaload, 1), (16, .invokestatic 87, 3), (19, .ireturn, 1)]
set_option maxRecDepth 100000 in
theorem xi_ok111_0 : xi_ok cX4_groupOf xi_111_0 = true := by decide +kernel
def xi_111 (pc : Nat) : XIs := xi_111_0
theorem xi_ok111 (pc : Nat) : xi_ok cX4_groupOf (xi_111 pc) = true := xi_ok111_0
def xi_112_0 : XIs := [(0, .aload_n 0, 1), (1, .aload_n 1, 1), (2, .invokevirtual 84, 3), (5, .lconst 0, 1), (6, .lstore_n 2, 1), (7, .iconst 0, 1), (8, .istore 4, 2), (10, .iload 4, 2), (12, .aload_n 1, 1), (13, .getfield 90, 3), (16, .if_icmp .ge 57, 3), (19, .aload_n 1, 1), (20, .iload 4, 2), (22, .invokevirtual 93, 3), (25, .ifCond .eq 42, 3), (28, .aload_n 0, 1)]
set_option maxRecDepth 100000 in
theorem xi_ok112_0 : xi_ok cX4_totalGain xi_112_0 = true := by decide +kernel
def xi_112_1 : XIs := [(29, .getfield 25, 3), (32, .aload_n 1, 1), (33, .getfield 97, 3), (36, .iload 4, 2), (38, .iaload, 1), (39, .iaload, 1), (40, .aload_n 0, 1), (41, .getfield 25, 3), (44, .aload_n 1, 1), (45, .getfield 78, 3), (48, .iload 4, 2), (50, .iaload, 1), (51, .iaload, 1), (52, .if_icmp .ne 15, 3), (55, .lload_n 2, 1), (56, .ldc2_w 100, 3)]
set_option maxRecDepth 100000 in
theorem xi_ok112_1 : xi_ok cX4_totalGain xi_112_1 = true := by decide +kernel
def xi_112_2 : XIs := [(59, .aload_n 0, 1), (60, .getfield 102, 3), (63, .i2l, 1), (64, .lmul, 1), (65, .ladd, 1), (66, .lstore_n 2, 1), (67, .iinc 4 1, 3), (70, .goto (-60), 3), (73, .iconst 0, 1), (74, .istore 4, 2), (76, .iload 4, 2), (78, .aload_n 1, 1), (79, .getfield 64, 3), (82, .if_icmp .ge 42, 3), (85, .lload_n 2, 1), (86, .aload_n 0, 1)]
set_option maxRecDepth 100000 in
theorem xi_ok112_2 : xi_ok cX4_totalGain xi_112_2 = true := by decide +kernel
def xi_112_3 : XIs := [(87, .getfield 32, 3), (90, .iload 4, 2), (92, .iaload, 1), (93, .i2l, 1), (94, .aload_n 0, 1), (95, .getfield 35, 3), (98, .aload_n 0, 1), (99, .getfield 25, 3), (102, .iload 4, 2), (104, .iaload, 1), (105, .iaload, 1), (106, .aload_n 0, 1), (107, .getfield 32, 3), (110, .iload 4, 2), (112, .iaload, 1), (113, .isub, 1)]
set_option maxRecDepth 100000 in
theorem xi_ok112_3 : xi_ok cX4_totalGain xi_112_3 = true := by decide +kernel
def xi_112_4 : XIs := [(114, .i2l, 1), (115, .lmul, 1), (116, .lsub, 1), (117, .lstore_n 2, 1), (118, .iinc 4 1, 3), (121, .goto (-45), 3), (124, .lload_n 2, 1), (125, .lreturn, 1)]
set_option maxRecDepth 100000 in
theorem xi_ok112_4 : xi_ok cX4_totalGain xi_112_4 = true := by decide +kernel
def xi_112 (pc : Nat) : XIs := cond (Nat.blt pc 59) (cond (Nat.blt pc 29) (xi_112_0) (xi_112_1)) (cond (Nat.blt pc 87) (xi_112_2) (cond (Nat.blt pc 114) (xi_112_3) (xi_112_4)))
theorem xi_ok112 (pc : Nat) : xi_ok cX4_totalGain (xi_112 pc) = true := xi_c (xi_c (xi_ok112_0) (xi_ok112_1)) (xi_c (xi_ok112_2) (xi_c (xi_ok112_3) (xi_ok112_4)))
def xi_113_0 : XIs := [(0, .aload_n 0, 1), (1, .getfield 22, 3), (4, .aload_n 1, 1), (5, .getfield 41, 3), (8, .if_icmp .ne 4, 3), (11, .return_, 1), (12, .aload_n 0, 1), (13, .aload_n 1, 1), (14, .getfield 41, 3), (17, .putfield 22, 3), (20, .aload_n 0, 1), (21, .aload_n 1, 1), (22, .invokevirtual 105, 3), (25, .iconst 1, 1), (26, .istore_n 2, 1), (27, .iconst 0, 1)]
set_option maxRecDepth 100000 in
theorem xi_ok113_0 : xi_ok cX4_settle xi_113_0 = true := by decide +kernel
def xi_113_1 : XIs := [(28, .istore_n 3, 1), (29, .iload_n 3, 1), (30, .bipush 20, 2), (32, .if_icmp .ge 43, 3), (35, .iload_n 2, 1), (36, .ifCond .eq 39, 3), (39, .iconst 0, 1), (40, .istore_n 2, 1), (41, .iconst 0, 1), (42, .istore 4, 2), (44, .iload 4, 2), (46, .aload_n 1, 1), (47, .getfield 64, 3), (50, .if_icmp .ge 19, 3), (53, .iload_n 2, 1), (54, .aload_n 0, 1)]
set_option maxRecDepth 100000 in
theorem xi_ok113_1 : xi_ok cX4_settle xi_113_1 = true := by decide +kernel
def xi_113_2 : XIs := [(55, .aload_n 1, 1), (56, .iload 4, 2), (58, .invokevirtual 108, 3), (61, .ior, 1), (62, .istore_n 2, 1), (63, .iinc 4 1, 3), (66, .goto (-22), 3), (69, .iinc 3 1, 3), (72, .goto (-43), 3), (75, .return_, 1)]
set_option maxRecDepth 100000 in
theorem xi_ok113_2 : xi_ok cX4_settle xi_113_2 = true := by decide +kernel
def xi_113 (pc : Nat) : XIs := cond (Nat.blt pc 28) (xi_113_0) (cond (Nat.blt pc 55) (xi_113_1) (xi_113_2))
theorem xi_ok113 (pc : Nat) : xi_ok cX4_settle (xi_113 pc) = true := xi_c (xi_ok113_0) (xi_c (xi_ok113_1) (xi_ok113_2))
def xi_114_0 : XIs := [(0, .aload_n 1, 1), (1, .invokevirtual 57, 3), (4, .aload_n 0, 1), (5, .aload_n 1, 1), (6, .invokevirtual 112, 3), (9, .putfield 102, 3), (12, .aload_n 1, 1), (13, .aload_n 0, 1), (14, .getfield 32, 3), (17, .invokevirtual 115, 3), (20, .aload_n 0, 1), (21, .getfield 29, 3), (24, .iconst 0, 1), (25, .invokestatic 119, 3), (28, .iconst 0, 1), (29, .istore_n 2, 1)]
set_option maxRecDepth 100000 in
theorem xi_ok114_0 : xi_ok cX4_begin xi_114_0 = true := by decide +kernel
def xi_114_1 : XIs := [(30, .iload_n 2, 1), (31, .aload_n 1, 1), (32, .getfield 64, 3), (35, .if_icmp .ge 37, 3), (38, .aload_n 0, 1), (39, .getfield 25, 3), (42, .iload_n 2, 1), (43, .iload_n 2, 1), (44, .iastore, 1), (45, .aload_n 0, 1), (46, .getfield 29, 3), (49, .iload_n 2, 1), (50, .iconst 1, 1), (51, .iload_n 2, 1), (52, .ishl, 1), (53, .iastore, 1)]
set_option maxRecDepth 100000 in
theorem xi_ok114_1 : xi_ok cX4_begin xi_114_1 = true := by decide +kernel
def xi_114_2 : XIs := [(54, .aload_n 0, 1), (55, .getfield 35, 3), (58, .iload_n 2, 1), (59, .aload_n 0, 1), (60, .getfield 32, 3), (63, .iload_n 2, 1), (64, .iaload, 1), (65, .iastore, 1), (66, .iinc 2 1, 3), (69, .goto (-39), 3), (72, .return_, 1)]
set_option maxRecDepth 100000 in
theorem xi_ok114_2 : xi_ok cX4_begin xi_114_2 = true := by decide +kernel
def xi_114 (pc : Nat) : XIs := cond (Nat.blt pc 30) (xi_114_0) (cond (Nat.blt pc 54) (xi_114_1) (xi_114_2))
theorem xi_ok114 (pc : Nat) : xi_ok cX4_begin (xi_114 pc) = true := xi_c (xi_ok114_0) (xi_c (xi_ok114_1) (xi_ok114_2))
def xi_115_0 : XIs := [(0, .aload_n 0, 1), (1, .aload_n 1, 1), (2, .iload_n 2, 1), (3, .invokevirtual 122, 3), (6, .aload_n 0, 1), (7, .getfield 25, 3), (10, .iload_n 2, 1), (11, .iaload, 1), (12, .istore_n 3, 1), (13, .aload_n 0, 1), (14, .iload_n 2, 1), (15, .iload_n 3, 1), (16, .invokevirtual 126, 3), (19, .lstore 4, 2), (21, .iconst (-1), 1), (22, .istore 6, 2)]
set_option maxRecDepth 100000 in
theorem xi_ok115_0 : xi_ok cX4_settleNode xi_115_0 = true := by decide +kernel
def xi_115_1 : XIs := [(24, .iconst 0, 1), (25, .istore 7, 2), (27, .aload_n 1, 1), (28, .getfield 130, 3), (31, .iload_n 2, 1), (32, .iaload, 1), (33, .istore 8, 2), (35, .iload 8, 2), (37, .ifCond .eq 79, 3), (40, .aload_n 0, 1), (41, .getfield 25, 3), (44, .iload 8, 2), (46, .invokestatic 87, 3), (49, .iaload, 1), (50, .istore 9, 2), (52, .iload 9, 2)]
set_option maxRecDepth 100000 in
theorem xi_ok115_1 : xi_ok cX4_settleNode xi_115_1 = true := by decide +kernel
def xi_115_2 : XIs := [(54, .iload_n 3, 1), (55, .if_icmp .eq 49, 3), (58, .iload 7, 2), (60, .iload 9, 2), (62, .ishr, 1), (63, .iconst 1, 1), (64, .iand, 1), (65, .ifCond .ne 39, 3), (68, .iload 7, 2), (70, .iconst 1, 1), (71, .iload 9, 2), (73, .ishl, 1), (74, .ior, 1), (75, .istore 7, 2), (77, .iload 6, 2), (79, .iconst (-1), 1)]
set_option maxRecDepth 100000 in
theorem xi_ok115_2 : xi_ok cX4_settleNode xi_115_2 = true := by decide +kernel
def xi_115_3 : XIs := [(80, .if_icmp .eq 15, 3), (83, .aload_n 0, 1), (84, .iload_n 2, 1), (85, .iload 9, 2), (87, .iload 6, 2), (89, .invokevirtual 133, 3), (92, .ifCond .eq 8, 3), (95, .iload 9, 2), (97, .goto 5, 3), (100, .iload 6, 2), (102, .istore 6, 2), (104, .iload 8, 2), (106, .iload 8, 2), (108, .iconst 1, 1), (109, .isub, 1), (110, .iand, 1)]
set_option maxRecDepth 100000 in
theorem xi_ok115_3 : xi_ok cX4_settleNode xi_115_3 = true := by decide +kernel
def xi_115_4 : XIs := [(111, .istore 8, 2), (113, .goto (-78), 3), (116, .iload 6, 2), (118, .iconst (-1), 1), (119, .if_icmp .eq 15, 3), (122, .aload_n 0, 1), (123, .iload_n 2, 1), (124, .iload 6, 2), (126, .invokevirtual 126, 3), (129, .lconst 0, 1), (130, .lcmp, 1), (131, .ifCond .ge 28, 3), (134, .lconst 0, 1), (135, .lload 4, 2), (137, .lcmp, 1), (138, .ifCond .le 19, 3)]
set_option maxRecDepth 100000 in
theorem xi_ok115_4 : xi_ok cX4_settleNode xi_115_4 = true := by decide +kernel
def xi_115_5 : XIs := [(141, .aload_n 0, 1), (142, .iload_n 2, 1), (143, .aload_n 0, 1), (144, .invokevirtual 137, 3), (147, .invokevirtual 140, 3), (150, .ifCond .eq 7, 3), (153, .iconst 1, 1), (154, .goto 4, 3), (157, .iconst 0, 1), (158, .ireturn, 1), (159, .aload_n 0, 1), (160, .iload_n 2, 1), (161, .iload 6, 2), (163, .invokevirtual 126, 3), (166, .lload 4, 2), (168, .lcmp, 1)]
set_option maxRecDepth 100000 in
theorem xi_ok115_5 : xi_ok cX4_settleNode xi_115_5 = true := by decide +kernel
def xi_115_6 : XIs := [(169, .ifCond .le 17, 3), (172, .aload_n 0, 1), (173, .iload_n 2, 1), (174, .iload 6, 2), (176, .invokevirtual 140, 3), (179, .ifCond .eq 7, 3), (182, .iconst 1, 1), (183, .goto 4, 3), (186, .iconst 0, 1), (187, .ireturn, 1)]
set_option maxRecDepth 100000 in
theorem xi_ok115_6 : xi_ok cX4_settleNode xi_115_6 = true := by decide +kernel
def xi_115 (pc : Nat) : XIs := cond (Nat.blt pc 80) (cond (Nat.blt pc 24) (xi_115_0) (cond (Nat.blt pc 54) (xi_115_1) (xi_115_2))) (cond (Nat.blt pc 141) (cond (Nat.blt pc 111) (xi_115_3) (xi_115_4)) (cond (Nat.blt pc 169) (xi_115_5) (xi_115_6)))
theorem xi_ok115 (pc : Nat) : xi_ok cX4_settleNode (xi_115 pc) = true := xi_c (xi_c (xi_ok115_0) (xi_c (xi_ok115_1) (xi_ok115_2))) (xi_c (xi_c (xi_ok115_3) (xi_ok115_4)) (xi_c (xi_ok115_5) (xi_ok115_6)))
def xi_116_0 : XIs := [(0, .aload_n 0, 1), (1, .iload_n 1, 1), (2, .iload_n 2, 1), (3, .invokevirtual 126, 3), (6, .aload_n 0, 1), (7, .iload_n 1, 1), (8, .iload_n 3, 1), (9, .invokevirtual 126, 3), (12, .lsub, 1), (13, .lstore 4, 2), (15, .lload 4, 2), (17, .lconst 0, 1), (18, .lcmp, 1), (19, .ifCond .gt 31, 3), (22, .lload 4, 2), (24, .lconst 0, 1)]
set_option maxRecDepth 100000 in
theorem xi_ok116_0 : xi_ok cX4_isBetter xi_116_0 = true := by decide +kernel
def xi_116_1 : XIs := [(25, .lcmp, 1), (26, .ifCond .ne 28, 3), (29, .aload_n 0, 1), (30, .getfield 29, 3), (33, .iload_n 2, 1), (34, .iaload, 1), (35, .invokestatic 87, 3), (38, .aload_n 0, 1), (39, .getfield 29, 3), (42, .iload_n 3, 1), (43, .iaload, 1), (44, .invokestatic 87, 3), (47, .if_icmp .ge 7, 3), (50, .iconst 1, 1), (51, .goto 4, 3), (54, .iconst 0, 1)]
set_option maxRecDepth 100000 in
theorem xi_ok116_1 : xi_ok cX4_isBetter xi_116_1 = true := by decide +kernel
def xi_116_2 : XIs := [(55, .ireturn, 1)]
set_option maxRecDepth 100000 in
theorem xi_ok116_2 : xi_ok cX4_isBetter xi_116_2 = true := by decide +kernel
def xi_116 (pc : Nat) : XIs := cond (Nat.blt pc 25) (xi_116_0) (cond (Nat.blt pc 55) (xi_116_1) (xi_116_2))
theorem xi_ok116 (pc : Nat) : xi_ok cX4_isBetter (xi_116 pc) = true := xi_c (xi_ok116_0) (xi_c (xi_ok116_1) (xi_ok116_2))
def xi_117_0 : XIs := [(0, .aload_n 0, 1), (1, .getfield 38, 3), (4, .iconst 0, 1), (5, .invokestatic 119, 3), (8, .aload_n 1, 1), (9, .getfield 75, 3), (12, .iload_n 2, 1), (13, .iaload, 1), (14, .istore_n 3, 1), (15, .iload_n 3, 1), (16, .aload_n 1, 1), (17, .getfield 75, 3), (20, .iload_n 2, 1), (21, .iconst 1, 1), (22, .iadd, 1), (23, .iaload, 1)]
set_option maxRecDepth 100000 in
theorem xi_ok117_0 : xi_ok cX4_countLinks xi_117_0 = true := by decide +kernel
def xi_117_1 : XIs := [(24, .if_icmp .ge 34, 3), (27, .aload_n 0, 1), (28, .getfield 38, 3), (31, .aload_n 0, 1), (32, .getfield 25, 3), (35, .aload_n 1, 1), (36, .getfield 78, 3), (39, .aload_n 1, 1), (40, .getfield 81, 3), (43, .iload_n 3, 1), (44, .iaload, 1), (45, .iaload, 1), (46, .iaload, 1), (47, .dup2, 1), (48, .iaload, 1), (49, .iconst 1, 1)]
set_option maxRecDepth 100000 in
theorem xi_ok117_1 : xi_ok cX4_countLinks xi_117_1 = true := by decide +kernel
def xi_117_2 : XIs := [(50, .iadd, 1), (51, .iastore, 1), (52, .iinc 3 1, 3), (55, .goto (-40), 3), (58, .aload_n 1, 1), (59, .getfield 144, 3), (62, .iload_n 2, 1), (63, .iaload, 1), (64, .istore_n 3, 1), (65, .iload_n 3, 1), (66, .aload_n 1, 1), (67, .getfield 144, 3), (70, .iload_n 2, 1), (71, .iconst 1, 1), (72, .iadd, 1), (73, .iaload, 1)]
set_option maxRecDepth 100000 in
theorem xi_ok117_2 : xi_ok cX4_countLinks xi_117_2 = true := by decide +kernel
def xi_117_3 : XIs := [(74, .if_icmp .ge 34, 3), (77, .aload_n 0, 1), (78, .getfield 38, 3), (81, .aload_n 0, 1), (82, .getfield 25, 3), (85, .aload_n 1, 1), (86, .getfield 97, 3), (89, .aload_n 1, 1), (90, .getfield 147, 3), (93, .iload_n 3, 1), (94, .iaload, 1), (95, .iaload, 1), (96, .iaload, 1), (97, .dup2, 1), (98, .iaload, 1), (99, .iconst 1, 1)]
set_option maxRecDepth 100000 in
theorem xi_ok117_3 : xi_ok cX4_countLinks xi_117_3 = true := by decide +kernel
def xi_117_4 : XIs := [(100, .iadd, 1), (101, .iastore, 1), (102, .iinc 3 1, 3), (105, .goto (-40), 3), (108, .aload_n 1, 1), (109, .getfield 75, 3), (112, .iload_n 2, 1), (113, .iaload, 1), (114, .istore_n 3, 1), (115, .iload_n 3, 1), (116, .aload_n 1, 1), (117, .getfield 75, 3), (120, .iload_n 2, 1), (121, .iconst 1, 1), (122, .iadd, 1), (123, .iaload, 1)]
set_option maxRecDepth 100000 in
theorem xi_ok117_4 : xi_ok cX4_countLinks xi_117_4 = true := by decide +kernel
def xi_117_5 : XIs := [(124, .if_icmp .ge 39, 3), (127, .aload_n 1, 1), (128, .getfield 78, 3), (131, .aload_n 1, 1), (132, .getfield 81, 3), (135, .iload_n 3, 1), (136, .iaload, 1), (137, .iaload, 1), (138, .iload_n 2, 1), (139, .if_icmp .ne 18, 3), (142, .aload_n 0, 1), (143, .getfield 38, 3), (146, .aload_n 0, 1), (147, .getfield 25, 3), (150, .iload_n 2, 1), (151, .iaload, 1)]
set_option maxRecDepth 100000 in
theorem xi_ok117_5 : xi_ok cX4_countLinks xi_117_5 = true := by decide +kernel
def xi_117_6 : XIs := [(152, .dup2, 1), (153, .iaload, 1), (154, .iconst 2, 1), (155, .isub, 1), (156, .iastore, 1), (157, .iinc 3 1, 3), (160, .goto (-45), 3), (163, .return_, 1)]
set_option maxRecDepth 100000 in
theorem xi_ok117_6 : xi_ok cX4_countLinks xi_117_6 = true := by decide +kernel
def xi_117 (pc : Nat) : XIs := cond (Nat.blt pc 74) (cond (Nat.blt pc 24) (xi_117_0) (cond (Nat.blt pc 50) (xi_117_1) (xi_117_2))) (cond (Nat.blt pc 124) (cond (Nat.blt pc 100) (xi_117_3) (xi_117_4)) (cond (Nat.blt pc 152) (xi_117_5) (xi_117_6)))
theorem xi_ok117 (pc : Nat) : xi_ok cX4_countLinks (xi_117 pc) = true := xi_c (xi_c (xi_ok117_0) (xi_c (xi_ok117_1) (xi_ok117_2))) (xi_c (xi_c (xi_ok117_3) (xi_ok117_4)) (xi_c (xi_ok117_5) (xi_ok117_6)))
def xi_118_0 : XIs := [(0, .aload_n 0, 1), (1, .getfield 25, 3), (4, .iload_n 1, 1), (5, .iaload, 1), (6, .iload_n 2, 1), (7, .if_icmp .ne 19, 3), (10, .aload_n 0, 1), (11, .getfield 35, 3), (14, .iload_n 2, 1), (15, .iaload, 1), (16, .aload_n 0, 1), (17, .getfield 32, 3), (20, .iload_n 1, 1), (21, .iaload, 1), (22, .isub, 1), (23, .goto 9, 3)]
set_option maxRecDepth 100000 in
theorem xi_ok118_0 : xi_ok cX4_score xi_118_0 = true := by decide +kernel
def xi_118_1 : XIs := [(26, .aload_n 0, 1), (27, .getfield 35, 3), (30, .iload_n 2, 1), (31, .iaload, 1), (32, .istore_n 3, 1), (33, .ldc2_w 150, 3), (36, .aload_n 0, 1), (37, .getfield 102, 3), (40, .i2l, 1), (41, .lmul, 1), (42, .aload_n 0, 1), (43, .getfield 38, 3), (46, .iload_n 2, 1), (47, .iaload, 1), (48, .i2l, 1), (49, .lmul, 1)]
set_option maxRecDepth 100000 in
theorem xi_ok118_1 : xi_ok cX4_score xi_118_1 = true := by decide +kernel
def xi_118_2 : XIs := [(50, .aload_n 0, 1), (51, .getfield 32, 3), (54, .iload_n 1, 1), (55, .iaload, 1), (56, .i2l, 1), (57, .iload_n 3, 1), (58, .i2l, 1), (59, .lmul, 1), (60, .lsub, 1), (61, .lreturn, 1)]
set_option maxRecDepth 100000 in
theorem xi_ok118_2 : xi_ok cX4_score xi_118_2 = true := by decide +kernel
def xi_118 (pc : Nat) : XIs := cond (Nat.blt pc 26) (xi_118_0) (cond (Nat.blt pc 50) (xi_118_1) (xi_118_2))
theorem xi_ok118 (pc : Nat) : xi_ok cX4_score (xi_118 pc) = true := xi_c (xi_ok118_0) (xi_c (xi_ok118_1) (xi_ok118_2))
def xi_119_0 : XIs := [(0, .iconst 0, 1), (1, .istore_n 1, 1), (2, .iload_n 1, 1), (3, .bipush 32, 2), (5, .if_icmp .ge 20, 3), (8, .aload_n 0, 1), (9, .getfield 29, 3), (12, .iload_n 1, 1), (13, .iaload, 1), (14, .ifCond .ne 5, 3), (17, .iload_n 1, 1), (18, .ireturn, 1), (19, .iinc 1 1, 3), (22, .goto (-20), 3), (25, .iconst (-1), 1), (26, .ireturn, 1)]
set_option maxRecDepth 100000 in
theorem xi_ok119_0 : xi_ok cX4_freeGroup xi_119_0 = true := by decide +kernel
def xi_119 (pc : Nat) : XIs := xi_119_0
theorem xi_ok119 (pc : Nat) : xi_ok cX4_freeGroup (xi_119 pc) = true := xi_ok119_0
def xi_120_0 : XIs := [(0, .iload_n 2, 1), (1, .iconst (-1), 1), (2, .if_icmp .ne 5, 3), (5, .iconst 0, 1), (6, .ireturn, 1), (7, .aload_n 0, 1), (8, .getfield 25, 3), (11, .iload_n 1, 1), (12, .iaload, 1), (13, .istore_n 3, 1), (14, .aload_n 0, 1), (15, .getfield 29, 3), (18, .iload_n 3, 1), (19, .dup2, 1), (20, .iaload, 1), (21, .iconst 1, 1)]
set_option maxRecDepth 100000 in
theorem xi_ok120_0 : xi_ok cX4_moveTo xi_120_0 = true := by decide +kernel
def xi_120_1 : XIs := [(22, .iload_n 1, 1), (23, .ishl, 1), (24, .iconst (-1), 1), (25, .ixor, 1), (26, .iand, 1), (27, .iastore, 1), (28, .aload_n 0, 1), (29, .getfield 35, 3), (32, .iload_n 3, 1), (33, .dup2, 1), (34, .iaload, 1), (35, .aload_n 0, 1), (36, .getfield 32, 3), (39, .iload_n 1, 1), (40, .iaload, 1), (41, .isub, 1)]
set_option maxRecDepth 100000 in
theorem xi_ok120_1 : xi_ok cX4_moveTo xi_120_1 = true := by decide +kernel
def xi_120_2 : XIs := [(42, .iastore, 1), (43, .aload_n 0, 1), (44, .getfield 35, 3), (47, .iload_n 2, 1), (48, .aload_n 0, 1), (49, .getfield 29, 3), (52, .iload_n 2, 1), (53, .iaload, 1), (54, .ifCond .ne 12, 3), (57, .aload_n 0, 1), (58, .getfield 32, 3), (61, .iload_n 1, 1), (62, .iaload, 1), (63, .goto 16, 3), (66, .aload_n 0, 1), (67, .getfield 35, 3)]
set_option maxRecDepth 100000 in
theorem xi_ok120_2 : xi_ok cX4_moveTo xi_120_2 = true := by decide +kernel
def xi_120_3 : XIs := [(70, .iload_n 2, 1), (71, .iaload, 1), (72, .aload_n 0, 1), (73, .getfield 32, 3), (76, .iload_n 1, 1), (77, .iaload, 1), (78, .iadd, 1), (79, .iastore, 1), (80, .aload_n 0, 1), (81, .getfield 29, 3), (84, .iload_n 2, 1), (85, .dup2, 1), (86, .iaload, 1), (87, .iconst 1, 1), (88, .iload_n 1, 1), (89, .ishl, 1)]
set_option maxRecDepth 100000 in
theorem xi_ok120_3 : xi_ok cX4_moveTo xi_120_3 = true := by decide +kernel
def xi_120_4 : XIs := [(90, .ior, 1), (91, .iastore, 1), (92, .aload_n 0, 1), (93, .getfield 25, 3), (96, .iload_n 1, 1), (97, .iload_n 2, 1), (98, .iastore, 1), (99, .iconst 1, 1), (100, .ireturn, 1)]
set_option maxRecDepth 100000 in
theorem xi_ok120_4 : xi_ok cX4_moveTo xi_120_4 = true := by decide +kernel
def xi_120 (pc : Nat) : XIs := cond (Nat.blt pc 42) (cond (Nat.blt pc 22) (xi_120_0) (xi_120_1)) (cond (Nat.blt pc 70) (xi_120_2) (cond (Nat.blt pc 90) (xi_120_3) (xi_120_4)))
theorem xi_ok120 (pc : Nat) : xi_ok cX4_moveTo (xi_120 pc) = true := xi_c (xi_c (xi_ok120_0) (xi_ok120_1)) (xi_c (xi_ok120_2) (xi_c (xi_ok120_3) (xi_ok120_4)))
def xi_121_0 : XIs := [(0, .aload_n 0, 1), (1, .invokespecial 3, 3), (4, .aload_n 0, 1), (5, .new 9, 3), (8, .dup, 1), (9, .invokespecial 11, 3), (12, .putfield 12, 3), (15, .aload_n 0, 1), (16, .new 9, 3), (19, .dup, 1), (20, .invokespecial 11, 3), (23, .putfield 18, 3), (26, .aload_n 0, 1), (27, .sipush 448, 3), (30, .newarray .int, 2), (32, .putfield 21, 3)]
set_option maxRecDepth 100000 in
theorem xi_ok121_0 : xi_ok cX5_init xi_121_0 = true := by decide +kernel
def xi_121_1 : XIs := [(35, .aload_n 0, 1), (36, .iconst 5, 1), (37, .newarray .int, 2), (39, .putfield 25, 3), (42, .return_, 1)]
set_option maxRecDepth 100000 in
theorem xi_ok121_1 : xi_ok cX5_init xi_121_1 = true := by decide +kernel
def xi_121 (pc : Nat) : XIs := cond (Nat.blt pc 35) (xi_121_0) (xi_121_1)
theorem xi_ok121 (pc : Nat) : xi_ok cX5_init (xi_121 pc) = true := xi_c (xi_ok121_0) (xi_ok121_1)
def xi_122_0 : XIs := [(0, .aload_n 0, 1), (1, .getfield 12, 3), (4, .getfield 28, 3), (7, .sipush 4000, 3), (10, .if_icmp .lt 7, 3), (13, .iconst 1, 1), (14, .goto 4, 3), (17, .iconst 0, 1), (18, .ireturn, 1)]
set_option maxRecDepth 100000 in
theorem xi_ok122_0 : xi_ok cX5_isFull xi_122_0 = true := by decide +kernel
def xi_122 (pc : Nat) : XIs := xi_122_0
theorem xi_ok122 (pc : Nat) : xi_ok cX5_isFull (xi_122 pc) = true := xi_ok122_0
def xi_123_0 : XIs := [(0, .aload_n 0, 1), (1, .getfield 12, 3), (4, .iload_n 1, 1), (5, .invokevirtual 32, 3), (8, .ifCond .eq 41, 3), (11, .aload_n 0, 1), (12, .getfield 12, 3), (15, .iload_n 2, 1), (16, .invokevirtual 32, 3), (19, .ifCond .eq 30, 3), (22, .iload_n 3, 1), (23, .invokestatic 36, 3), (26, .ifCond .eq 23, 3), (29, .iload 4, 2), (31, .invokestatic 39, 3), (34, .ifCond .eq 15, 3)]
set_option maxRecDepth 100000 in
theorem xi_ok123_0 : xi_ok cX5_isGoodArc xi_123_0 = true := by decide +kernel
def xi_123_1 : XIs := [(37, .iload 5, 2), (39, .invokestatic 42, 3), (42, .ifCond .eq 7, 3), (45, .iconst 1, 1), (46, .goto 4, 3), (49, .iconst 0, 1), (50, .ireturn, 1)]
set_option maxRecDepth 100000 in
theorem xi_ok123_1 : xi_ok cX5_isGoodArc xi_123_1 = true := by decide +kernel
def xi_123 (pc : Nat) : XIs := cond (Nat.blt pc 37) (xi_123_0) (xi_123_1)
theorem xi_ok123 (pc : Nat) : xi_ok cX5_isGoodArc (xi_123 pc) = true := xi_c (xi_ok123_0) (xi_ok123_1)
def xi_124_0 : XIs := [(0, .aload_n 0, 1), (1, .iconst 0, 1), (2, .aload_n 0, 1), (3, .getfield 12, 3), (6, .getfield 45, 3), (9, .iload_n 1, 1), (10, .iconst 0, 1), (11, .invokevirtual 48, 3), (14, .aload_n 0, 1), (15, .getfield 12, 3), (18, .getfield 45, 3), (21, .iconst 1, 1), (22, .isub, 1), (23, .ireturn, 1)]
set_option maxRecDepth 100000 in
theorem xi_ok124_0 : xi_ok cX5_addNode xi_124_0 = true := by decide +kernel
def xi_124 (pc : Nat) : XIs := xi_124_0
theorem xi_ok124 (pc : Nat) : xi_ok cX5_addNode (xi_124 pc) = true := xi_ok124_0
def xi_125_0 : XIs := [(0, .aload_n 0, 1), (1, .getfield 12, 3), (4, .invokevirtual 52, 3), (7, .istore 6, 2), (9, .iload 6, 2), (11, .iconst (-1), 1), (12, .if_icmp .ne 6, 3), (15, .bipush (-3), 2), (17, .ireturn, 1), (18, .aload_n 0, 1), (19, .invokevirtual 56, 3), (22, .istore 7, 2), (24, .aload_n 0, 1), (25, .getfield 21, 3), (28, .iload 7, 2), (30, .iconst 1, 1)]
set_option maxRecDepth 100000 in
theorem xi_ok125_0 : xi_ok cX5_addArc xi_125_0 = true := by decide +kernel
def xi_125_1 : XIs := [(31, .iastore, 1), (32, .aload_n 0, 1), (33, .getfield 21, 3), (36, .iload 7, 2), (38, .iconst 1, 1), (39, .iadd, 1), (40, .iload 6, 2), (42, .iastore, 1), (43, .aload_n 0, 1), (44, .getfield 21, 3), (47, .iload 7, 2), (49, .iconst 2, 1), (50, .iadd, 1), (51, .iload_n 1, 1), (52, .iastore, 1), (53, .aload_n 0, 1)]
set_option maxRecDepth 100000 in
theorem xi_ok125_1 : xi_ok cX5_addArc xi_125_1 = true := by decide +kernel
def xi_125_2 : XIs := [(54, .getfield 21, 3), (57, .iload 7, 2), (59, .iconst 3, 1), (60, .iadd, 1), (61, .iload_n 2, 1), (62, .iastore, 1), (63, .aload_n 0, 1), (64, .getfield 21, 3), (67, .iload 7, 2), (69, .iconst 4, 1), (70, .iadd, 1), (71, .iload_n 3, 1), (72, .iastore, 1), (73, .aload_n 0, 1), (74, .getfield 21, 3), (77, .iload 7, 2)]
set_option maxRecDepth 100000 in
theorem xi_ok125_2 : xi_ok cX5_addArc xi_125_2 = true := by decide +kernel
def xi_125_3 : XIs := [(79, .iconst 5, 1), (80, .iadd, 1), (81, .iload 4, 2), (83, .iastore, 1), (84, .aload_n 0, 1), (85, .getfield 21, 3), (88, .iload 7, 2), (90, .bipush 6, 2), (92, .iadd, 1), (93, .iload 5, 2), (95, .iastore, 1), (96, .aload_n 0, 1), (97, .aload_n 0, 1), (98, .getfield 12, 3), (101, .invokevirtual 59, 3), (104, .iload 6, 2)]
set_option maxRecDepth 100000 in
theorem xi_ok125_3 : xi_ok cX5_addArc xi_125_3 = true := by decide +kernel
def xi_125_4 : XIs := [(106, .ireturn, 1)]
set_option maxRecDepth 100000 in
theorem xi_ok125_4 : xi_ok cX5_addArc xi_125_4 = true := by decide +kernel
def xi_125 (pc : Nat) : XIs := cond (Nat.blt pc 54) (cond (Nat.blt pc 31) (xi_125_0) (xi_125_1)) (cond (Nat.blt pc 79) (xi_125_2) (cond (Nat.blt pc 106) (xi_125_3) (xi_125_4)))
theorem xi_ok125 (pc : Nat) : xi_ok cX5_addArc (xi_125 pc) = true := xi_c (xi_c (xi_ok125_0) (xi_ok125_1)) (xi_c (xi_ok125_2) (xi_c (xi_ok125_3) (xi_ok125_4)))
def xi_126_0 : XIs := [(0, .aload_n 0, 1), (1, .iconst 2, 1), (2, .iload_n 1, 1), (3, .iconst 0, 1), (4, .iconst 0, 1), (5, .invokevirtual 48, 3), (8, .return_, 1)]
set_option maxRecDepth 100000 in
theorem xi_ok126_0 : xi_ok cX5_dropArc xi_126_0 = true := by decide +kernel
def xi_126 (pc : Nat) : XIs := xi_126_0
theorem xi_ok126 (pc : Nat) : xi_ok cX5_dropArc (xi_126 pc) = true := xi_ok126_0
def xi_127_0 : XIs := [(0, .aload_n 0, 1), (1, .iconst 3, 1), (2, .iload_n 1, 1), (3, .iload_n 2, 1), (4, .iload_n 3, 1), (5, .invokevirtual 48, 3), (8, .return_, 1)]
set_option maxRecDepth 100000 in
theorem xi_ok127_0 : xi_ok cX5_changeArc xi_127_0 = true := by decide +kernel
def xi_127 (pc : Nat) : XIs := xi_127_0
theorem xi_ok127 (pc : Nat) : xi_ok cX5_changeArc (xi_127 pc) = true := xi_ok127_0
def xi_128_0 : XIs := [(0, .aload_n 0, 1), (1, .iconst 4, 1), (2, .iload_n 1, 1), (3, .iload_n 2, 1), (4, .iconst 0, 1), (5, .invokevirtual 48, 3), (8, .return_, 1)]
set_option maxRecDepth 100000 in
theorem xi_ok128_0 : xi_ok cX5_relabel xi_128_0 = true := by decide +kernel
def xi_128 (pc : Nat) : XIs := xi_128_0
theorem xi_ok128 (pc : Nat) : xi_ok cX5_relabel (xi_128 pc) = true := xi_ok128_0
def xi_129_0 : XIs := [(0, .aload_n 0, 1), (1, .invokevirtual 56, 3), (4, .istore 5, 2), (6, .aload_n 0, 1), (7, .getfield 21, 3), (10, .iload 5, 2), (12, .iload_n 1, 1), (13, .iastore, 1), (14, .aload_n 0, 1), (15, .getfield 21, 3), (18, .iload 5, 2), (20, .iconst 1, 1), (21, .iadd, 1), (22, .iload_n 2, 1), (23, .iastore, 1), (24, .aload_n 0, 1)]
set_option maxRecDepth 100000 in
theorem xi_ok129_0 : xi_ok cX5_note xi_129_0 = true := by decide +kernel
def xi_129_1 : XIs := [(25, .getfield 21, 3), (28, .iload 5, 2), (30, .iconst 2, 1), (31, .iadd, 1), (32, .iload_n 3, 1), (33, .iastore, 1), (34, .aload_n 0, 1), (35, .getfield 21, 3), (38, .iload 5, 2), (40, .iconst 3, 1), (41, .iadd, 1), (42, .iload 4, 2), (44, .iastore, 1), (45, .aload_n 0, 1), (46, .aload_n 0, 1), (47, .getfield 12, 3)]
set_option maxRecDepth 100000 in
theorem xi_ok129_1 : xi_ok cX5_note xi_129_1 = true := by decide +kernel
def xi_129_2 : XIs := [(50, .invokevirtual 59, 3), (53, .return_, 1)]
set_option maxRecDepth 100000 in
theorem xi_ok129_2 : xi_ok cX5_note xi_129_2 = true := by decide +kernel
def xi_129 (pc : Nat) : XIs := cond (Nat.blt pc 25) (xi_129_0) (cond (Nat.blt pc 50) (xi_129_1) (xi_129_2))
theorem xi_ok129 (pc : Nat) : xi_ok cX5_note (xi_129 pc) = true := xi_c (xi_ok129_0) (xi_c (xi_ok129_1) (xi_ok129_2))
def xi_130_0 : XIs := [(0, .aload_n 0, 1), (1, .getfield 12, 3), (4, .getfield 28, 3), (7, .bipush 7, 2), (9, .imul, 1), (10, .istore_n 1, 1), (11, .iload_n 1, 1), (12, .bipush 7, 2), (14, .iadd, 1), (15, .aload_n 0, 1), (16, .getfield 21, 3), (19, .arraylength, 1), (20, .if_icmp .le 34, 3), (23, .aload_n 0, 1), (24, .aload_n 0, 1), (25, .getfield 21, 3)]
set_option maxRecDepth 100000 in
theorem xi_ok130_0 : xi_ok cX5_openRow xi_130_0 = true := by decide +kernel
def xi_130_1 : XIs := [(28, .iload_n 1, 1), (29, .bipush 7, 2), (31, .iadd, 1), (32, .iconst 2, 1), (33, .aload_n 0, 1), (34, .getfield 21, 3), (37, .arraylength, 1), (38, .imul, 1), (39, .sipush 28000, 3), (42, .invokestatic 63, 3), (45, .invokestatic 69, 3), (48, .invokestatic 72, 3), (51, .putfield 21, 3), (54, .iload_n 1, 1), (55, .ireturn, 1)]
set_option maxRecDepth 100000 in
theorem xi_ok130_1 : xi_ok cX5_openRow xi_130_1 = true := by decide +kernel
def xi_130 (pc : Nat) : XIs := cond (Nat.blt pc 28) (xi_130_0) (xi_130_1)
theorem xi_ok130 (pc : Nat) : xi_ok cX5_openRow (xi_130 pc) = true := xi_c (xi_ok130_0) (xi_ok130_1)
def xi_131_0 : XIs := [(0, .aload_n 1, 1), (1, .getfield 28, 3), (4, .bipush 7, 2), (6, .imul, 1), (7, .istore_n 2, 1), (8, .aload_n 0, 1), (9, .getfield 21, 3), (12, .iload_n 2, 1), (13, .iconst 1, 1), (14, .iadd, 1), (15, .iaload, 1), (16, .istore_n 3, 1), (17, .aload_n 1, 1), (18, .dup, 1), (19, .getfield 28, 3), (22, .iconst 1, 1)]
set_option maxRecDepth 100000 in
theorem xi_ok131_0 : xi_ok cX5_apply xi_131_0 = true := by decide +kernel
def xi_131_1 : XIs := [(23, .iadd, 1), (24, .putfield 28, 3), (27, .aload_n 0, 1), (28, .getfield 21, 3), (31, .iload_n 2, 1), (32, .iaload, 1), (33, .tableswitch 101 0 3 #[31, 58, 68, 76], 31), (64, .aload_n 1, 1), (65, .getfield 78, 3), (68, .iload_n 3, 1), (69, .aload_n 0, 1), (70, .getfield 21, 3), (73, .iload_n 2, 1), (74, .iconst 2, 1), (75, .iadd, 1), (76, .iaload, 1)]
set_option maxRecDepth 100000 in
theorem xi_ok131_1 : xi_ok cX5_apply xi_131_1 = true := by decide +kernel
def xi_131_2 : XIs := [(77, .iastore, 1), (78, .aload_n 1, 1), (79, .dup, 1), (80, .getfield 45, 3), (83, .iconst 1, 1), (84, .iadd, 1), (85, .putfield 45, 3), (88, .goto 60, 3), (91, .aload_n 0, 1), (92, .aload_n 1, 1), (93, .iload_n 2, 1), (94, .iload_n 3, 1), (95, .invokevirtual 81, 3), (98, .goto 50, 3), (101, .aload_n 1, 1), (102, .iload_n 3, 1)]
set_option maxRecDepth 100000 in
theorem xi_ok131_2 : xi_ok cX5_apply xi_131_2 = true := by decide +kernel
def xi_131_3 : XIs := [(103, .invokevirtual 85, 3), (106, .goto 42, 3), (109, .aload_n 0, 1), (110, .aload_n 1, 1), (111, .iload_n 3, 1), (112, .aload_n 0, 1), (113, .getfield 21, 3), (116, .iload_n 2, 1), (117, .iconst 2, 1), (118, .iadd, 1), (119, .iaload, 1), (120, .aload_n 0, 1), (121, .getfield 21, 3), (124, .iload_n 2, 1), (125, .iconst 3, 1), (126, .iadd, 1)]
set_option maxRecDepth 100000 in
theorem xi_ok131_3 : xi_ok cX5_apply xi_131_3 = true := by decide +kernel
def xi_131_4 : XIs := [(127, .iaload, 1), (128, .invokevirtual 89, 3), (131, .goto 17, 3), (134, .aload_n 1, 1), (135, .getfield 78, 3), (138, .iload_n 3, 1), (139, .aload_n 0, 1), (140, .getfield 21, 3), (143, .iload_n 2, 1), (144, .iconst 2, 1), (145, .iadd, 1), (146, .iaload, 1), (147, .iastore, 1), (148, .return_, 1)]
set_option maxRecDepth 100000 in
theorem xi_ok131_4 : xi_ok cX5_apply xi_131_4 = true := by decide +kernel
def xi_131 (pc : Nat) : XIs := cond (Nat.blt pc 77) (cond (Nat.blt pc 23) (xi_131_0) (xi_131_1)) (cond (Nat.blt pc 103) (xi_131_2) (cond (Nat.blt pc 127) (xi_131_3) (xi_131_4)))
theorem xi_ok131 (pc : Nat) : xi_ok cX5_apply (xi_131 pc) = true := xi_c (xi_c (xi_ok131_0) (xi_ok131_1)) (xi_c (xi_ok131_2) (xi_c (xi_ok131_3) (xi_ok131_4)))
def xi_132_0 : XIs := [(0, .aload_n 1, 1), (1, .getfield 93, 3), (4, .iload_n 3, 1), (5, .aload_n 0, 1), (6, .getfield 21, 3), (9, .iload_n 2, 1), (10, .iconst 2, 1), (11, .iadd, 1), (12, .iaload, 1), (13, .iastore, 1), (14, .aload_n 1, 1), (15, .getfield 96, 3), (18, .iload_n 3, 1), (19, .aload_n 0, 1), (20, .getfield 21, 3), (23, .iload_n 2, 1)]
set_option maxRecDepth 100000 in
theorem xi_ok132_0 : xi_ok cX5_applyArc xi_132_0 = true := by decide +kernel
def xi_132_1 : XIs := [(24, .iconst 3, 1), (25, .iadd, 1), (26, .iaload, 1), (27, .iastore, 1), (28, .aload_n 1, 1), (29, .getfield 99, 3), (32, .iload_n 3, 1), (33, .aload_n 0, 1), (34, .getfield 21, 3), (37, .iload_n 2, 1), (38, .iconst 4, 1), (39, .iadd, 1), (40, .iaload, 1), (41, .iastore, 1), (42, .aload_n 1, 1), (43, .getfield 102, 3)]
set_option maxRecDepth 100000 in
theorem xi_ok132_1 : xi_ok cX5_applyArc xi_132_1 = true := by decide +kernel
def xi_132_2 : XIs := [(46, .iload_n 3, 1), (47, .aload_n 0, 1), (48, .getfield 21, 3), (51, .iload_n 2, 1), (52, .iconst 5, 1), (53, .iadd, 1), (54, .iaload, 1), (55, .iastore, 1), (56, .aload_n 1, 1), (57, .getfield 105, 3), (60, .iload_n 3, 1), (61, .aload_n 0, 1), (62, .getfield 21, 3), (65, .iload_n 2, 1), (66, .bipush 6, 2), (68, .iadd, 1)]
set_option maxRecDepth 100000 in
theorem xi_ok132_2 : xi_ok cX5_applyArc xi_132_2 = true := by decide +kernel
def xi_132_3 : XIs := [(69, .iaload, 1), (70, .iastore, 1), (71, .aload_n 1, 1), (72, .dup, 1), (73, .getfield 108, 3), (76, .iconst 1, 1), (77, .iadd, 1), (78, .putfield 108, 3), (81, .aload_n 1, 1), (82, .aload_n 1, 1), (83, .getfield 111, 3), (86, .iload_n 3, 1), (87, .iconst 1, 1), (88, .iadd, 1), (89, .invokestatic 69, 3), (92, .putfield 111, 3)]
set_option maxRecDepth 100000 in
theorem xi_ok132_3 : xi_ok cX5_applyArc xi_132_3 = true := by decide +kernel
def xi_132_4 : XIs := [(95, .return_, 1)]
set_option maxRecDepth 100000 in
theorem xi_ok132_4 : xi_ok cX5_applyArc xi_132_4 = true := by decide +kernel
def xi_132 (pc : Nat) : XIs := cond (Nat.blt pc 46) (cond (Nat.blt pc 24) (xi_132_0) (xi_132_1)) (cond (Nat.blt pc 69) (xi_132_2) (cond (Nat.blt pc 95) (xi_132_3) (xi_132_4)))
theorem xi_ok132 (pc : Nat) : xi_ok cX5_applyArc (xi_132 pc) = true := xi_c (xi_c (xi_ok132_0) (xi_ok132_1)) (xi_c (xi_ok132_2) (xi_c (xi_ok132_3) (xi_ok132_4)))
def xi_133_0 : XIs := [(0, .iload_n 3, 1), (1, .ifCond .ne 14, 3), (4, .aload_n 1, 1), (5, .getfield 99, 3), (8, .iload_n 2, 1), (9, .iload 4, 2), (11, .iastore, 1), (12, .goto 27, 3), (15, .iload_n 3, 1), (16, .iconst 1, 1), (17, .if_icmp .ne 14, 3), (20, .aload_n 1, 1), (21, .getfield 102, 3), (24, .iload_n 2, 1), (25, .iload 4, 2), (27, .iastore, 1)]
set_option maxRecDepth 100000 in
theorem xi_ok133_0 : xi_ok cX5_applyValue xi_133_0 = true := by decide +kernel
def xi_133_1 : XIs := [(28, .goto 11, 3), (31, .aload_n 1, 1), (32, .getfield 105, 3), (35, .iload_n 2, 1), (36, .iload 4, 2), (38, .iastore, 1), (39, .return_, 1)]
set_option maxRecDepth 100000 in
theorem xi_ok133_1 : xi_ok cX5_applyValue xi_133_1 = true := by decide +kernel
def xi_133 (pc : Nat) : XIs := cond (Nat.blt pc 28) (xi_133_0) (xi_133_1)
theorem xi_ok133 (pc : Nat) : xi_ok cX5_applyValue (xi_133 pc) = true := xi_c (xi_ok133_0) (xi_ok133_1)
def xi_134_0 : XIs := [(0, .iload_n 2, 1), (1, .aload_n 1, 1), (2, .getfield 28, 3), (5, .if_icmp .ge 7, 3), (8, .aload_n 1, 1), (9, .invokevirtual 114, 3), (12, .aload_n 1, 1), (13, .getfield 28, 3), (16, .istore_n 3, 1), (17, .iload_n 3, 1), (18, .iload_n 2, 1), (19, .if_icmp .ge 14, 3), (22, .aload_n 0, 1), (23, .aload_n 1, 1), (24, .invokevirtual 59, 3), (27, .iinc 3 1, 3)]
set_option maxRecDepth 100000 in
theorem xi_ok134_0 : xi_ok cX5_replay xi_134_0 = true := by decide +kernel
def xi_134_1 : XIs := [(30, .goto (-13), 3), (33, .return_, 1)]
set_option maxRecDepth 100000 in
theorem xi_ok134_1 : xi_ok cX5_replay xi_134_1 = true := by decide +kernel
def xi_134 (pc : Nat) : XIs := cond (Nat.blt pc 30) (xi_134_0) (xi_134_1)
theorem xi_ok134 (pc : Nat) : xi_ok cX5_replay (xi_134 pc) = true := xi_c (xi_ok134_0) (xi_ok134_1)
def xi_135_0 : XIs := [(0, .aload_n 0, 1), (1, .getfield 18, 3), (4, .aload_n 0, 1), (5, .getfield 12, 3), (8, .invokevirtual 117, 3), (11, .aload_n 1, 1), (12, .invokevirtual 119, 3), (15, .iconst 0, 1), (16, .istore_n 2, 1), (17, .iload_n 2, 1), (18, .sipush 1000, 3), (21, .if_icmp .gt 47, 3), (24, .aload_n 1, 1), (25, .bipush 7, 2), (27, .iconst 1, 1), (28, .invokevirtual 124, 3)]
set_option maxRecDepth 100000 in
theorem xi_ok135_0 : xi_ok cX5_carryOut xi_135_0 = true := by decide +kernel
def xi_135_1 : XIs := [(31, .aload_n 1, 1), (32, .getfield 128, 3), (35, .ifCond .ne 5, 3), (38, .iload_n 2, 1), (39, .ireturn, 1), (40, .aload_n 0, 1), (41, .aload_n 1, 1), (42, .invokevirtual 131, 3), (45, .ifCond .ne 17, 3), (48, .aload_n 0, 1), (49, .getfield 12, 3), (52, .aload_n 0, 1), (53, .getfield 18, 3), (56, .invokevirtual 117, 3), (59, .bipush (-4), 2), (61, .ireturn, 1)]
set_option maxRecDepth 100000 in
theorem xi_ok135_1 : xi_ok cX5_carryOut xi_135_1 = true := by decide +kernel
def xi_135_2 : XIs := [(62, .iinc 2 1, 3), (65, .goto (-48), 3), (68, .bipush (-4), 2), (70, .ireturn, 1)]
set_option maxRecDepth 100000 in
theorem xi_ok135_2 : xi_ok cX5_carryOut xi_135_2 = true := by decide +kernel
def xi_135 (pc : Nat) : XIs := cond (Nat.blt pc 31) (xi_135_0) (cond (Nat.blt pc 62) (xi_135_1) (xi_135_2))
theorem xi_ok135 (pc : Nat) : xi_ok cX5_carryOut (xi_135 pc) = true := xi_c (xi_ok135_0) (xi_c (xi_ok135_1) (xi_ok135_2))
def xi_136_0 : XIs := [(0, .aload_n 1, 1), (1, .getfield 135, 3), (4, .istore_n 2, 1), (5, .aload_n 1, 1), (6, .getfield 128, 3), (9, .iconst 1, 1), (10, .if_icmp .ne 10, 3), (13, .aload_n 1, 1), (14, .getfield 138, 3), (17, .goto 4, 3), (20, .iconst (-1), 1), (21, .istore_n 3, 1), (22, .iload_n 3, 1), (23, .invokestatic 141, 3), (26, .astore 4, 2), (28, .aload 4, 2)]
set_option maxRecDepth 100000 in
theorem xi_ok136_0 : xi_ok cX5_readCommand xi_136_0 = true := by decide +kernel
def xi_136_1 : XIs := [(30, .invokevirtual 145, 3), (33, .ifCond .eq 10, 3), (36, .aload_n 1, 1), (37, .iconst 2, 1), (38, .iconst 3, 1), (39, .invokevirtual 151, 3), (42, .ireturn, 1), (43, .iconst 0, 1), (44, .istore 5, 2), (46, .iload 5, 2), (48, .aload 4, 2), (50, .invokevirtual 155, 3), (53, .if_icmp .ge 72, 3), (56, .iload 5, 2), (58, .aload_n 0, 1), (59, .getfield 25, 3)]
set_option maxRecDepth 100000 in
theorem xi_ok136_1 : xi_ok cX5_readCommand xi_136_1 = true := by decide +kernel
def xi_136_2 : XIs := [(62, .arraylength, 1), (63, .if_icmp .ge 62, 3), (66, .aload_n 1, 1), (67, .bipush 7, 2), (69, .iconst 1, 1), (70, .invokevirtual 124, 3), (73, .aload 4, 2), (75, .iload 5, 2), (77, .invokevirtual 158, 3), (80, .bipush 108, 2), (82, .if_icmp .ne 7, 3), (85, .iconst 1, 1), (86, .goto 4, 3), (89, .iconst 2, 1), (90, .istore 6, 2), (92, .aload_n 1, 1)]
set_option maxRecDepth 100000 in
theorem xi_ok136_2 : xi_ok cX5_readCommand xi_136_2 = true := by decide +kernel
def xi_136_3 : XIs := [(93, .getfield 128, 3), (96, .iload 6, 2), (98, .if_icmp .eq 10, 3), (101, .aload_n 1, 1), (102, .iconst 2, 1), (103, .iconst 3, 1), (104, .invokevirtual 151, 3), (107, .ireturn, 1), (108, .aload_n 0, 1), (109, .getfield 25, 3), (112, .iload 5, 2), (114, .aload_n 1, 1), (115, .getfield 138, 3), (118, .iastore, 1), (119, .iinc 5 1, 3), (122, .goto (-76), 3)]
set_option maxRecDepth 100000 in
theorem xi_ok136_3 : xi_ok cX5_readCommand xi_136_3 = true := by decide +kernel
def xi_136_4 : XIs := [(125, .aload_n 1, 1), (126, .bipush 7, 2), (128, .iconst 1, 1), (129, .invokevirtual 124, 3), (132, .aload_n 1, 1), (133, .bipush 59, 2), (135, .invokevirtual 162, 3), (138, .ifCond .ne 10, 3), (141, .aload_n 1, 1), (142, .iconst 2, 1), (143, .iconst 3, 1), (144, .invokevirtual 151, 3), (147, .ireturn, 1), (148, .aload_n 0, 1), (149, .iload_n 3, 1), (150, .invokevirtual 165, 3)]
set_option maxRecDepth 100000 in
theorem xi_ok136_4 : xi_ok cX5_readCommand xi_136_4 = true := by decide +kernel
def xi_136_5 : XIs := [(153, .ifCond .ne 12, 3), (156, .aload_n 1, 1), (157, .iconst 4, 1), (158, .iload_n 2, 1), (159, .invokevirtual 168, 3), (162, .ifCond .eq 7, 3), (165, .iconst 1, 1), (166, .goto 4, 3), (169, .iconst 0, 1), (170, .ireturn, 1)]
set_option maxRecDepth 100000 in
theorem xi_ok136_5 : xi_ok cX5_readCommand xi_136_5 = true := by decide +kernel
def xi_136 (pc : Nat) : XIs := cond (Nat.blt pc 93) (cond (Nat.blt pc 30) (xi_136_0) (cond (Nat.blt pc 62) (xi_136_1) (xi_136_2))) (cond (Nat.blt pc 125) (xi_136_3) (cond (Nat.blt pc 153) (xi_136_4) (xi_136_5)))
theorem xi_ok136 (pc : Nat) : xi_ok cX5_readCommand (xi_136 pc) = true := xi_c (xi_c (xi_ok136_0) (xi_c (xi_ok136_1) (xi_ok136_2))) (xi_c (xi_ok136_3) (xi_c (xi_ok136_4) (xi_ok136_5)))
def xi_137_0 : XIs := [(0, .iload_n 0, 1), (1, .lookupswitch 55 #[(0, 46), (13, 43), (19, 49), (22, 52)], 43), (44, .ldc 171, 2), (46, .areturn, 1), (47, .ldc 173, 2), (49, .areturn, 1), (50, .ldc 175, 2), (52, .areturn, 1), (53, .ldc 177, 2), (55, .areturn, 1), (56, .ldc 179, 2), (58, .areturn, 1)]
set_option maxRecDepth 100000 in
theorem xi_ok137_0 : xi_ok cX5_shapeOf xi_137_0 = true := by decide +kernel
def xi_137 (pc : Nat) : XIs := xi_137_0
theorem xi_ok137 (pc : Nat) : xi_ok cX5_shapeOf (xi_137 pc) = true := xi_ok137_0
def xi_138_0 : XIs := [(0, .aload_n 0, 1), (1, .invokevirtual 181, 3), (4, .ifCond .eq 5, 3), (7, .iconst 0, 1), (8, .ireturn, 1), (9, .iload_n 1, 1), (10, .bipush 13, 2), (12, .if_icmp .ne 34, 3), (15, .aload_n 0, 1), (16, .getfield 12, 3), (19, .getfield 45, 3), (22, .bipush 32, 2), (24, .if_icmp .ge 20, 3), (27, .aload_n 0, 1), (28, .aload_n 0, 1), (29, .getfield 25, 3)]
set_option maxRecDepth 100000 in
theorem xi_ok138_0 : xi_ok cX5_doCommand xi_138_0 = true := by decide +kernel
def xi_138_1 : XIs := [(32, .iconst 0, 1), (33, .iaload, 1), (34, .invokevirtual 184, 3), (37, .ifCond .lt 7, 3), (40, .iconst 1, 1), (41, .goto 4, 3), (44, .iconst 0, 1), (45, .ireturn, 1), (46, .iload_n 1, 1), (47, .ifCond .ne 85, 3), (50, .aload_n 0, 1), (51, .aload_n 0, 1), (52, .getfield 25, 3), (55, .iconst 0, 1), (56, .iaload, 1), (57, .aload_n 0, 1)]
set_option maxRecDepth 100000 in
theorem xi_ok138_1 : xi_ok cX5_doCommand xi_138_1 = true := by decide +kernel
def xi_138_2 : XIs := [(58, .getfield 25, 3), (61, .iconst 1, 1), (62, .iaload, 1), (63, .aload_n 0, 1), (64, .getfield 25, 3), (67, .iconst 2, 1), (68, .iaload, 1), (69, .aload_n 0, 1), (70, .getfield 25, 3), (73, .iconst 3, 1), (74, .iaload, 1), (75, .aload_n 0, 1), (76, .getfield 25, 3), (79, .iconst 4, 1), (80, .iaload, 1), (81, .invokevirtual 188, 3)]
set_option maxRecDepth 100000 in
theorem xi_ok138_2 : xi_ok cX5_doCommand xi_138_2 = true := by decide +kernel
def xi_138_3 : XIs := [(84, .ifCond .eq 46, 3), (87, .aload_n 0, 1), (88, .aload_n 0, 1), (89, .getfield 25, 3), (92, .iconst 0, 1), (93, .iaload, 1), (94, .aload_n 0, 1), (95, .getfield 25, 3), (98, .iconst 1, 1), (99, .iaload, 1), (100, .aload_n 0, 1), (101, .getfield 25, 3), (104, .iconst 2, 1), (105, .iaload, 1), (106, .aload_n 0, 1), (107, .getfield 25, 3)]
set_option maxRecDepth 100000 in
theorem xi_ok138_3 : xi_ok cX5_doCommand xi_138_3 = true := by decide +kernel
def xi_138_4 : XIs := [(110, .iconst 3, 1), (111, .iaload, 1), (112, .aload_n 0, 1), (113, .getfield 25, 3), (116, .iconst 4, 1), (117, .iaload, 1), (118, .invokevirtual 192, 3), (121, .bipush (-3), 2), (123, .if_icmp .eq 7, 3), (126, .iconst 1, 1), (127, .goto 4, 3), (130, .iconst 0, 1), (131, .ireturn, 1), (132, .aload_n 0, 1), (133, .getfield 12, 3), (136, .aload_n 0, 1)]
set_option maxRecDepth 100000 in
theorem xi_ok138_4 : xi_ok cX5_doCommand xi_138_4 = true := by decide +kernel
def xi_138_5 : XIs := [(137, .getfield 25, 3), (140, .iconst 0, 1), (141, .iaload, 1), (142, .invokevirtual 196, 3), (145, .ifCond .ne 5, 3), (148, .iconst 0, 1), (149, .ireturn, 1), (150, .iload_n 1, 1), (151, .bipush 19, 2), (153, .if_icmp .ne 15, 3), (156, .aload_n 0, 1), (157, .aload_n 0, 1), (158, .getfield 25, 3), (161, .iconst 0, 1), (162, .iaload, 1), (163, .invokevirtual 199, 3)]
set_option maxRecDepth 100000 in
theorem xi_ok138_5 : xi_ok cX5_doCommand xi_138_5 = true := by decide +kernel
def xi_138_6 : XIs := [(166, .iconst 1, 1), (167, .ireturn, 1), (168, .aload_n 0, 1), (169, .getfield 25, 3), (172, .iconst 1, 1), (173, .iaload, 1), (174, .invokestatic 36, 3), (177, .ifCond .ne 5, 3), (180, .iconst 0, 1), (181, .ireturn, 1), (182, .aload_n 0, 1), (183, .aload_n 0, 1), (184, .getfield 25, 3), (187, .iconst 0, 1), (188, .iaload, 1), (189, .iconst 0, 1)]
set_option maxRecDepth 100000 in
theorem xi_ok138_6 : xi_ok cX5_doCommand xi_138_6 = true := by decide +kernel
def xi_138_7 : XIs := [(190, .aload_n 0, 1), (191, .getfield 25, 3), (194, .iconst 1, 1), (195, .iaload, 1), (196, .invokevirtual 202, 3), (199, .iconst 1, 1), (200, .ireturn, 1)]
set_option maxRecDepth 100000 in
theorem xi_ok138_7 : xi_ok cX5_doCommand xi_138_7 = true := by decide +kernel
def xi_138 (pc : Nat) : XIs := cond (Nat.blt pc 110) (cond (Nat.blt pc 58) (cond (Nat.blt pc 32) (xi_138_0) (xi_138_1)) (cond (Nat.blt pc 84) (xi_138_2) (xi_138_3))) (cond (Nat.blt pc 166) (cond (Nat.blt pc 137) (xi_138_4) (xi_138_5)) (cond (Nat.blt pc 190) (xi_138_6) (xi_138_7)))
theorem xi_ok138 (pc : Nat) : xi_ok cX5_doCommand (xi_138 pc) = true := xi_c (xi_c (xi_c (xi_ok138_0) (xi_ok138_1)) (xi_c (xi_ok138_2) (xi_ok138_3))) (xi_c (xi_c (xi_ok138_4) (xi_ok138_5)) (xi_c (xi_ok138_6) (xi_ok138_7)))
def xi_139_0 : XIs := [(0, .aload_n 0, 1), (1, .invokespecial 3, 3), (4, .aload_n 0, 1), (5, .iconst (-1), 1), (6, .putfield 9, 3), (9, .aload_n 0, 1), (10, .bipush 32, 2), (12, .newarray .int, 2), (14, .putfield 15, 3), (17, .aload_n 0, 1), (18, .iconst (-1), 1), (19, .putfield 19, 3), (22, .aload_n 0, 1), (23, .bipush 32, 2), (25, .newarray .int, 2), (27, .putfield 22, 3)]
set_option maxRecDepth 100000 in
theorem xi_ok139_0 : xi_ok cX6_init xi_139_0 = true := by decide +kernel
def xi_139_1 : XIs := [(30, .aload_n 0, 1), (31, .bipush 32, 2), (33, .newarray .int, 2), (35, .putfield 25, 3), (38, .return_, 1)]
set_option maxRecDepth 100000 in
theorem xi_ok139_1 : xi_ok cX6_init xi_139_1 = true := by decide +kernel
def xi_139 (pc : Nat) : XIs := cond (Nat.blt pc 30) (xi_139_0) (xi_139_1)
theorem xi_ok139 (pc : Nat) : xi_ok cX6_init (xi_139 pc) = true := xi_c (xi_ok139_0) (xi_ok139_1)
def xi_140_0 : XIs := [(0, .aload_n 1, 1), (1, .invokevirtual 28, 3), (4, .aload_n 1, 1), (5, .getfield 33, 3), (8, .iconst 1, 1), (9, .iload_n 2, 1), (10, .ishl, 1), (11, .iconst (-1), 1), (12, .invokestatic 36, 3), (15, .aload_n 1, 1), (16, .getfield 40, 3), (19, .iconst 1, 1), (20, .iload_n 2, 1), (21, .ishl, 1), (22, .iconst (-1), 1), (23, .invokestatic 36, 3)]
set_option maxRecDepth 100000 in
theorem xi_ok140_0 : xi_ok cX6_strongPart xi_140_0 = true := by decide +kernel
def xi_140_1 : XIs := [(26, .iand, 1), (27, .invokestatic 43, 3), (30, .ireturn, 1)]
set_option maxRecDepth 100000 in
theorem xi_ok140_1 : xi_ok cX6_strongPart xi_140_1 = true := by decide +kernel
def xi_140 (pc : Nat) : XIs := cond (Nat.blt pc 26) (xi_140_0) (xi_140_1)
theorem xi_ok140 (pc : Nat) : xi_ok cX6_strongPart (xi_140 pc) = true := xi_c (xi_ok140_0) (xi_ok140_1)
def xi_141_0 : XIs := [(0, .aload_n 1, 1), (1, .invokevirtual 28, 3), (4, .aload_n 1, 1), (5, .getfield 47, 3), (8, .iconst 1, 1), (9, .iload_n 2, 1), (10, .ishl, 1), (11, .iconst (-1), 1), (12, .invokestatic 36, 3), (15, .invokestatic 43, 3), (18, .ireturn, 1)]
set_option maxRecDepth 100000 in
theorem xi_ok141_0 : xi_ok cX6_weakPart xi_141_0 = true := by decide +kernel
def xi_141 (pc : Nat) : XIs := xi_141_0
theorem xi_ok141 (pc : Nat) : xi_ok cX6_weakPart (xi_141 pc) = true := xi_ok141_0
def xi_142_0 : XIs := [(0, .aload_n 1, 1), (1, .iload_n 2, 1), (2, .invokevirtual 50, 3), (5, .ifCond .ne 5, 3), (8, .iconst 0, 1), (9, .ireturn, 1), (10, .aload_n 1, 1), (11, .getfield 54, 3), (14, .iload_n 2, 1), (15, .iaload, 1), (16, .istore_n 3, 1), (17, .aload_n 1, 1), (18, .getfield 57, 3), (21, .iload_n 2, 1), (22, .iaload, 1), (23, .istore 4, 2)]
set_option maxRecDepth 100000 in
theorem xi_ok142_0 : xi_ok cX6_isBridge xi_142_0 = true := by decide +kernel
def xi_142_1 : XIs := [(25, .iconst 0, 1), (26, .istore 5, 2), (28, .iload 5, 2), (30, .aload_n 1, 1), (31, .getfield 60, 3), (34, .if_icmp .ge 72, 3), (37, .iload 5, 2), (39, .iload_n 2, 1), (40, .if_icmp .eq 60, 3), (43, .aload_n 1, 1), (44, .iload 5, 2), (46, .invokevirtual 50, 3), (49, .ifCond .eq 51, 3), (52, .aload_n 1, 1), (53, .getfield 54, 3), (56, .iload 5, 2)]
set_option maxRecDepth 100000 in
theorem xi_ok142_1 : xi_ok cX6_isBridge xi_142_1 = true := by decide +kernel
def xi_142_2 : XIs := [(58, .iaload, 1), (59, .iload_n 3, 1), (60, .if_icmp .ne 15, 3), (63, .aload_n 1, 1), (64, .getfield 57, 3), (67, .iload 5, 2), (69, .iaload, 1), (70, .iload 4, 2), (72, .if_icmp .eq 26, 3), (75, .aload_n 1, 1), (76, .getfield 54, 3), (79, .iload 5, 2), (81, .iaload, 1), (82, .iload 4, 2), (84, .if_icmp .ne 16, 3), (87, .aload_n 1, 1)]
set_option maxRecDepth 100000 in
theorem xi_ok142_2 : xi_ok cX6_isBridge xi_142_2 = true := by decide +kernel
def xi_142_3 : XIs := [(88, .getfield 57, 3), (91, .iload 5, 2), (93, .iaload, 1), (94, .iload_n 3, 1), (95, .if_icmp .ne 5, 3), (98, .iconst 0, 1), (99, .ireturn, 1), (100, .iinc 5 1, 3), (103, .goto (-75), 3), (106, .aload_n 1, 1), (107, .invokevirtual 28, 3), (110, .aload_n 1, 1), (111, .getfield 47, 3), (114, .aload_n 1, 1), (115, .getfield 47, 3), (118, .iload_n 3, 1)]
set_option maxRecDepth 100000 in
theorem xi_ok142_3 : xi_ok cX6_isBridge xi_142_3 = true := by decide +kernel
def xi_142_4 : XIs := [(119, .iaload, 1), (120, .iconst 1, 1), (121, .iload 4, 2), (123, .ishl, 1), (124, .iconst (-1), 1), (125, .ixor, 1), (126, .iand, 1), (127, .iconst 1, 1), (128, .iload_n 3, 1), (129, .ishl, 1), (130, .iconst (-1), 1), (131, .ixor, 1), (132, .invokestatic 36, 3), (135, .istore 5, 2), (137, .iload 5, 2), (139, .iload 4, 2)]
set_option maxRecDepth 100000 in
theorem xi_ok142_4 : xi_ok cX6_isBridge xi_142_4 = true := by decide +kernel
def xi_142_5 : XIs := [(141, .ishr, 1), (142, .iconst 1, 1), (143, .iand, 1), (144, .ifCond .ne 7, 3), (147, .iconst 1, 1), (148, .goto 4, 3), (151, .iconst 0, 1), (152, .ireturn, 1)]
set_option maxRecDepth 100000 in
theorem xi_ok142_5 : xi_ok cX6_isBridge xi_142_5 = true := by decide +kernel
def xi_142 (pc : Nat) : XIs := cond (Nat.blt pc 88) (cond (Nat.blt pc 25) (xi_142_0) (cond (Nat.blt pc 58) (xi_142_1) (xi_142_2))) (cond (Nat.blt pc 119) (xi_142_3) (cond (Nat.blt pc 141) (xi_142_4) (xi_142_5)))
theorem xi_ok142 (pc : Nat) : xi_ok cX6_isBridge (xi_142 pc) = true := xi_c (xi_c (xi_ok142_0) (xi_c (xi_ok142_1) (xi_ok142_2))) (xi_c (xi_ok142_3) (xi_c (xi_ok142_4) (xi_ok142_5)))
def xi_143_0 : XIs := [(0, .aload_n 1, 1), (1, .invokevirtual 28, 3), (4, .aload_n 1, 1), (5, .getfield 47, 3), (8, .iload_n 2, 1), (9, .iaload, 1), (10, .istore_n 3, 1), (11, .aload_n 1, 1), (12, .getfield 47, 3), (15, .iload_n 3, 1), (16, .iload_n 3, 1), (17, .ineg, 1), (18, .iand, 1), (19, .iconst 1, 1), (20, .iload_n 2, 1), (21, .ishl, 1)]
set_option maxRecDepth 100000 in
theorem xi_ok143_0 : xi_ok cX6_isCut xi_143_0 = true := by decide +kernel
def xi_143_1 : XIs := [(22, .iconst (-1), 1), (23, .ixor, 1), (24, .invokestatic 36, 3), (27, .istore 4, 2), (29, .iload_n 3, 1), (30, .iload 4, 2), (32, .iconst (-1), 1), (33, .ixor, 1), (34, .iand, 1), (35, .ifCond .eq 7, 3), (38, .iconst 1, 1), (39, .goto 4, 3), (42, .iconst 0, 1), (43, .ireturn, 1)]
set_option maxRecDepth 100000 in
theorem xi_ok143_1 : xi_ok cX6_isCut xi_143_1 = true := by decide +kernel
def xi_143 (pc : Nat) : XIs := cond (Nat.blt pc 22) (xi_143_0) (xi_143_1)
theorem xi_ok143 (pc : Nat) : xi_ok cX6_isCut (xi_143 pc) = true := xi_c (xi_ok143_0) (xi_ok143_1)
def xi_144_0 : XIs := [(0, .aload_n 0, 1), (1, .getfield 9, 3), (4, .aload_n 1, 1), (5, .getfield 63, 3), (8, .if_icmp .eq 16, 3), (11, .aload_n 0, 1), (12, .aload_n 1, 1), (13, .getfield 63, 3), (16, .putfield 9, 3), (19, .aload_n 0, 1), (20, .aload_n 1, 1), (21, .invokevirtual 66, 3), (24, .iload_n 2, 1), (25, .aload_n 0, 1), (26, .getfield 70, 3), (29, .if_icmp .ge 12, 3)]
set_option maxRecDepth 100000 in
theorem xi_ok144_0 : xi_ok cX6_ordered xi_144_0 = true := by decide +kernel
def xi_144_1 : XIs := [(32, .aload_n 0, 1), (33, .getfield 15, 3), (36, .iload_n 2, 1), (37, .iaload, 1), (38, .goto 4, 3), (41, .iconst (-1), 1), (42, .ireturn, 1)]
set_option maxRecDepth 100000 in
theorem xi_ok144_1 : xi_ok cX6_ordered xi_144_1 = true := by decide +kernel
def xi_144 (pc : Nat) : XIs := cond (Nat.blt pc 32) (xi_144_0) (xi_144_1)
theorem xi_ok144 (pc : Nat) : xi_ok cX6_ordered (xi_144 pc) = true := xi_c (xi_ok144_0) (xi_ok144_1)
def xi_145_0 : XIs := [(0, .aload_n 1, 1), (1, .invokevirtual 28, 3), (4, .aload_n 1, 1), (5, .invokevirtual 73, 3), (8, .istore_n 2, 1), (9, .iconst 0, 1), (10, .istore_n 3, 1), (11, .iload_n 3, 1), (12, .aload_n 1, 1), (13, .getfield 77, 3), (16, .if_icmp .ge 45, 3), (19, .aload_n 1, 1), (20, .iload_n 2, 1), (21, .invokestatic 80, 3), (24, .istore 4, 2), (26, .iload 4, 2)]
set_option maxRecDepth 100000 in
theorem xi_ok145_0 : xi_ok cX6_makeOrder xi_145_0 = true := by decide +kernel
def xi_145_1 : XIs := [(28, .iconst (-1), 1), (29, .if_icmp .ne 9, 3), (32, .aload_n 0, 1), (33, .iconst 0, 1), (34, .putfield 70, 3), (37, .return_, 1), (38, .aload_n 0, 1), (39, .getfield 15, 3), (42, .iload_n 3, 1), (43, .iload 4, 2), (45, .iastore, 1), (46, .iload_n 2, 1), (47, .iconst 1, 1), (48, .iload 4, 2), (50, .ishl, 1), (51, .iconst (-1), 1)]
set_option maxRecDepth 100000 in
theorem xi_ok145_1 : xi_ok cX6_makeOrder xi_145_1 = true := by decide +kernel
def xi_145_2 : XIs := [(52, .ixor, 1), (53, .iand, 1), (54, .istore_n 2, 1), (55, .iinc 3 1, 3), (58, .goto (-47), 3), (61, .aload_n 0, 1), (62, .aload_n 1, 1), (63, .getfield 77, 3), (66, .putfield 70, 3), (69, .return_, 1)]
set_option maxRecDepth 100000 in
theorem xi_ok145_2 : xi_ok cX6_makeOrder xi_145_2 = true := by decide +kernel
def xi_145 (pc : Nat) : XIs := cond (Nat.blt pc 28) (xi_145_0) (cond (Nat.blt pc 52) (xi_145_1) (xi_145_2))
theorem xi_ok145 (pc : Nat) : xi_ok cX6_makeOrder (xi_145 pc) = true := xi_c (xi_ok145_0) (xi_c (xi_ok145_1) (xi_ok145_2))
def xi_146_0 : XIs := [(0, .iload_n 1, 1), (1, .istore_n 2, 1), (2, .iload_n 2, 1), (3, .ifCond .eq 31, 3), (6, .aload_n 0, 1), (7, .getfield 40, 3), (10, .iload_n 2, 1), (11, .invokestatic 43, 3), (14, .iaload, 1), (15, .iload_n 1, 1), (16, .iand, 1), (17, .ifCond .ne 8, 3), (20, .iload_n 2, 1), (21, .invokestatic 43, 3), (24, .ireturn, 1), (25, .iload_n 2, 1)]
set_option maxRecDepth 100000 in
theorem xi_ok146_0 : xi_ok cX6_firstFree xi_146_0 = true := by decide +kernel
def xi_146_1 : XIs := [(26, .iload_n 2, 1), (27, .iconst 1, 1), (28, .isub, 1), (29, .iand, 1), (30, .istore_n 2, 1), (31, .goto (-29), 3), (34, .iconst (-1), 1), (35, .ireturn, 1)]
set_option maxRecDepth 100000 in
theorem xi_ok146_1 : xi_ok cX6_firstFree xi_146_1 = true := by decide +kernel
def xi_146 (pc : Nat) : XIs := cond (Nat.blt pc 26) (xi_146_0) (xi_146_1)
theorem xi_ok146 (pc : Nat) : xi_ok cX6_firstFree (xi_146 pc) = true := xi_c (xi_ok146_0) (xi_ok146_1)
def xi_147_0 : XIs := [(0, .aload_n 0, 1), (1, .getfield 19, 3), (4, .aload_n 1, 1), (5, .getfield 63, 3), (8, .if_icmp .eq 16, 3), (11, .aload_n 0, 1), (12, .aload_n 1, 1), (13, .getfield 63, 3), (16, .putfield 19, 3), (19, .aload_n 0, 1), (20, .aload_n 1, 1), (21, .invokevirtual 84, 3), (24, .aload_n 0, 1), (25, .getfield 22, 3), (28, .iload_n 2, 1), (29, .iaload, 1)]
set_option maxRecDepth 100000 in
theorem xi_ok147_0 : xi_ok cX6_coreOf xi_147_0 = true := by decide +kernel
def xi_147_1 : XIs := [(30, .ireturn, 1)]
set_option maxRecDepth 100000 in
theorem xi_ok147_1 : xi_ok cX6_coreOf xi_147_1 = true := by decide +kernel
def xi_147 (pc : Nat) : XIs := cond (Nat.blt pc 30) (xi_147_0) (xi_147_1)
theorem xi_ok147 (pc : Nat) : xi_ok cX6_coreOf (xi_147 pc) = true := xi_c (xi_ok147_0) (xi_ok147_1)
def xi_148_0 : XIs := [(0, .aload_n 1, 1), (1, .invokevirtual 28, 3), (4, .aload_n 1, 1), (5, .invokevirtual 73, 3), (8, .istore_n 2, 1), (9, .iconst 0, 1), (10, .istore_n 3, 1), (11, .aload_n 1, 1), (12, .aload_n 0, 1), (13, .getfield 25, 3), (16, .invokevirtual 87, 3), (19, .iconst 0, 1), (20, .istore 4, 2), (22, .iload 4, 2), (24, .aload_n 1, 1), (25, .getfield 77, 3)]
set_option maxRecDepth 100000 in
theorem xi_ok148_0 : xi_ok cX6_peel xi_148_0 = true := by decide +kernel
def xi_148_1 : XIs := [(28, .if_icmp .ge 52, 3), (31, .aload_n 0, 1), (32, .iload_n 2, 1), (33, .invokevirtual 91, 3), (36, .istore 5, 2), (38, .iload_n 3, 1), (39, .aload_n 0, 1), (40, .getfield 25, 3), (43, .iload 5, 2), (45, .iaload, 1), (46, .invokestatic 94, 3), (49, .istore_n 3, 1), (50, .aload_n 0, 1), (51, .getfield 22, 3), (54, .iload 5, 2), (56, .iload_n 3, 1)]
set_option maxRecDepth 100000 in
theorem xi_ok148_1 : xi_ok cX6_peel xi_148_1 = true := by decide +kernel
def xi_148_2 : XIs := [(57, .iastore, 1), (58, .iload_n 2, 1), (59, .iconst 1, 1), (60, .iload 5, 2), (62, .ishl, 1), (63, .iconst (-1), 1), (64, .ixor, 1), (65, .iand, 1), (66, .istore_n 2, 1), (67, .aload_n 0, 1), (68, .aload_n 1, 1), (69, .iload 5, 2), (71, .invokevirtual 100, 3), (74, .iinc 4 1, 3), (77, .goto (-55), 3), (80, .return_, 1)]
set_option maxRecDepth 100000 in
theorem xi_ok148_2 : xi_ok cX6_peel xi_148_2 = true := by decide +kernel
def xi_148 (pc : Nat) : XIs := cond (Nat.blt pc 28) (xi_148_0) (cond (Nat.blt pc 57) (xi_148_1) (xi_148_2))
theorem xi_ok148 (pc : Nat) : xi_ok cX6_peel (xi_148 pc) = true := xi_c (xi_ok148_0) (xi_c (xi_ok148_1) (xi_ok148_2))
def xi_149_0 : XIs := [(0, .iload_n 1, 1), (1, .invokestatic 43, 3), (4, .istore_n 2, 1), (5, .iload_n 1, 1), (6, .istore_n 3, 1), (7, .iload_n 3, 1), (8, .ifCond .eq 35, 3), (11, .aload_n 0, 1), (12, .getfield 25, 3), (15, .iload_n 3, 1), (16, .invokestatic 43, 3), (19, .iaload, 1), (20, .aload_n 0, 1), (21, .getfield 25, 3), (24, .iload_n 2, 1), (25, .iaload, 1)]
set_option maxRecDepth 100000 in
theorem xi_ok149_0 : xi_ok cX6_loosest xi_149_0 = true := by decide +kernel
def xi_149_1 : XIs := [(26, .if_icmp .ge 8, 3), (29, .iload_n 3, 1), (30, .invokestatic 43, 3), (33, .istore_n 2, 1), (34, .iload_n 3, 1), (35, .iload_n 3, 1), (36, .iconst 1, 1), (37, .isub, 1), (38, .iand, 1), (39, .istore_n 3, 1), (40, .goto (-33), 3), (43, .iload_n 2, 1), (44, .ireturn, 1)]
set_option maxRecDepth 100000 in
theorem xi_ok149_1 : xi_ok cX6_loosest xi_149_1 = true := by decide +kernel
def xi_149 (pc : Nat) : XIs := cond (Nat.blt pc 26) (xi_149_0) (xi_149_1)
theorem xi_ok149 (pc : Nat) : xi_ok cX6_loosest (xi_149 pc) = true := xi_c (xi_ok149_0) (xi_ok149_1)
def xi_150_0 : XIs := [(0, .aload_n 1, 1), (1, .getfield 104, 3), (4, .iload_n 2, 1), (5, .iaload, 1), (6, .istore_n 3, 1), (7, .iload_n 3, 1), (8, .aload_n 1, 1), (9, .getfield 104, 3), (12, .iload_n 2, 1), (13, .iconst 1, 1), (14, .iadd, 1), (15, .iaload, 1), (16, .if_icmp .ge 29, 3), (19, .aload_n 0, 1), (20, .getfield 25, 3), (23, .aload_n 1, 1)]
set_option maxRecDepth 100000 in
theorem xi_ok150_0 : xi_ok cX6_loosen xi_150_0 = true := by decide +kernel
def xi_150_1 : XIs := [(24, .getfield 57, 3), (27, .aload_n 1, 1), (28, .getfield 107, 3), (31, .iload_n 3, 1), (32, .iaload, 1), (33, .iaload, 1), (34, .dup2, 1), (35, .iaload, 1), (36, .iconst 1, 1), (37, .isub, 1), (38, .iastore, 1), (39, .iinc 3 1, 3), (42, .goto (-35), 3), (45, .aload_n 1, 1), (46, .getfield 110, 3), (49, .iload_n 2, 1)]
set_option maxRecDepth 100000 in
theorem xi_ok150_1 : xi_ok cX6_loosen xi_150_1 = true := by decide +kernel
def xi_150_2 : XIs := [(50, .iaload, 1), (51, .istore_n 3, 1), (52, .iload_n 3, 1), (53, .aload_n 1, 1), (54, .getfield 110, 3), (57, .iload_n 2, 1), (58, .iconst 1, 1), (59, .iadd, 1), (60, .iaload, 1), (61, .if_icmp .ge 29, 3), (64, .aload_n 0, 1), (65, .getfield 25, 3), (68, .aload_n 1, 1), (69, .getfield 54, 3), (72, .aload_n 1, 1), (73, .getfield 113, 3)]
set_option maxRecDepth 100000 in
theorem xi_ok150_2 : xi_ok cX6_loosen xi_150_2 = true := by decide +kernel
def xi_150_3 : XIs := [(76, .iload_n 3, 1), (77, .iaload, 1), (78, .iaload, 1), (79, .dup2, 1), (80, .iaload, 1), (81, .iconst 1, 1), (82, .isub, 1), (83, .iastore, 1), (84, .iinc 3 1, 3), (87, .goto (-35), 3), (90, .return_, 1)]
set_option maxRecDepth 100000 in
theorem xi_ok150_3 : xi_ok cX6_loosen xi_150_3 = true := by decide +kernel
def xi_150 (pc : Nat) : XIs := cond (Nat.blt pc 50) (cond (Nat.blt pc 24) (xi_150_0) (xi_150_1)) (cond (Nat.blt pc 76) (xi_150_2) (xi_150_3))
theorem xi_ok150 (pc : Nat) : xi_ok cX6_loosen (xi_150 pc) = true := xi_c (xi_c (xi_ok150_0) (xi_ok150_1)) (xi_c (xi_ok150_2) (xi_ok150_3))
def xi_151_0 : XIs := [(0, .aload_n 1, 1), (1, .invokevirtual 28, 3), (4, .lconst 0, 1), (5, .lstore_n 2, 1), (6, .iconst 0, 1), (7, .istore 4, 2), (9, .iload 4, 2), (11, .aload_n 1, 1), (12, .getfield 77, 3), (15, .if_icmp .ge 60, 3), (18, .aload_n 1, 1), (19, .getfield 47, 3), (22, .iload 4, 2), (24, .iaload, 1), (25, .istore 5, 2), (27, .iload 5, 2)]
set_option maxRecDepth 100000 in
theorem xi_ok151_0 : xi_ok cX6_triangles xi_151_0 = true := by decide +kernel
def xi_151_1 : XIs := [(29, .ifCond .eq 40, 3), (32, .lload_n 2, 1), (33, .aload_n 1, 1), (34, .getfield 47, 3), (37, .iload 4, 2), (39, .iaload, 1), (40, .aload_n 1, 1), (41, .getfield 47, 3), (44, .iload 5, 2), (46, .invokestatic 43, 3), (49, .iaload, 1), (50, .iand, 1), (51, .invokestatic 116, 3), (54, .i2l, 1), (55, .ladd, 1), (56, .lstore_n 2, 1)]
set_option maxRecDepth 100000 in
theorem xi_ok151_1 : xi_ok cX6_triangles xi_151_1 = true := by decide +kernel
def xi_151_2 : XIs := [(57, .iload 5, 2), (59, .iload 5, 2), (61, .iconst 1, 1), (62, .isub, 1), (63, .iand, 1), (64, .istore 5, 2), (66, .goto (-39), 3), (69, .iinc 4 1, 3), (72, .goto (-63), 3), (75, .lload_n 2, 1), (76, .ldc2_w 121, 3), (79, .ldiv, 1), (80, .lreturn, 1)]
set_option maxRecDepth 100000 in
theorem xi_ok151_2 : xi_ok cX6_triangles xi_151_2 = true := by decide +kernel
def xi_151 (pc : Nat) : XIs := cond (Nat.blt pc 29) (xi_151_0) (cond (Nat.blt pc 57) (xi_151_1) (xi_151_2))
theorem xi_ok151 (pc : Nat) : xi_ok cX6_triangles (xi_151 pc) = true := xi_c (xi_ok151_0) (xi_c (xi_ok151_1) (xi_ok151_2))
def xi_152_0 : XIs := [(0, .aload_n 1, 1), (1, .invokevirtual 28, 3), (4, .lconst 0, 1), (5, .lstore_n 2, 1), (6, .iconst 0, 1), (7, .istore 4, 2), (9, .iload 4, 2), (11, .aload_n 1, 1), (12, .getfield 77, 3), (15, .if_icmp .ge 63, 3), (18, .iload 4, 2), (20, .iconst 1, 1), (21, .iadd, 1), (22, .istore 5, 2), (24, .iload 5, 2), (26, .aload_n 1, 1)]
set_option maxRecDepth 100000 in
theorem xi_ok152_0 : xi_ok cX6_squares xi_152_0 = true := by decide +kernel
def xi_152_1 : XIs := [(27, .getfield 77, 3), (30, .if_icmp .ge 42, 3), (33, .aload_n 1, 1), (34, .getfield 47, 3), (37, .iload 4, 2), (39, .iaload, 1), (40, .aload_n 1, 1), (41, .getfield 47, 3), (44, .iload 5, 2), (46, .iaload, 1), (47, .iand, 1), (48, .invokestatic 116, 3), (51, .istore 6, 2), (53, .lload_n 2, 1), (54, .iload 6, 2), (56, .iload 6, 2)]
set_option maxRecDepth 100000 in
theorem xi_ok152_1 : xi_ok cX6_squares xi_152_1 = true := by decide +kernel
def xi_152_2 : XIs := [(58, .iconst 1, 1), (59, .isub, 1), (60, .imul, 1), (61, .iconst 2, 1), (62, .idiv, 1), (63, .i2l, 1), (64, .ladd, 1), (65, .lstore_n 2, 1), (66, .iinc 5 1, 3), (69, .goto (-45), 3), (72, .iinc 4 1, 3), (75, .goto (-66), 3), (78, .lload_n 2, 1), (79, .ldc2_w 123, 3), (82, .ldiv, 1), (83, .lreturn, 1)]
set_option maxRecDepth 100000 in
theorem xi_ok152_2 : xi_ok cX6_squares xi_152_2 = true := by decide +kernel
def xi_152 (pc : Nat) : XIs := cond (Nat.blt pc 27) (xi_152_0) (cond (Nat.blt pc 58) (xi_152_1) (xi_152_2))
theorem xi_ok152 (pc : Nat) : xi_ok cX6_squares (xi_152 pc) = true := xi_c (xi_ok152_0) (xi_c (xi_ok152_1) (xi_ok152_2))
def xi_153_0 : XIs := [(0, .aload_n 0, 1), (1, .invokespecial 3, 3), (4, .aload_n 0, 1), (5, .lconst 1, 1), (6, .putfield 9, 3), (9, .aload_n 0, 1), (10, .lconst 1, 1), (11, .putfield 15, 3), (14, .aload_n 0, 1), (15, .bipush 61, 2), (17, .newarray .long, 2), (19, .putfield 18, 3), (22, .aload_n 0, 1), (23, .bipush 26, 2), (25, .newarray .long, 2), (27, .putfield 22, 3)]
set_option maxRecDepth 100000 in
theorem xi_ok153_0 : xi_ok cX7_init xi_153_0 = true := by decide +kernel
def xi_153_1 : XIs := [(30, .aload_n 0, 1), (31, .bipush 11, 2), (33, .newarray .int, 2), (35, .putfield 25, 3), (38, .aload_n 0, 1), (39, .bipush 11, 2), (41, .newarray .long, 2), (43, .putfield 29, 3), (46, .aload_n 0, 1), (47, .bipush 32, 2), (49, .newarray .long, 2), (51, .putfield 32, 3), (54, .aload_n 0, 1), (55, .bipush 32, 2), (57, .newarray .long, 2), (59, .putfield 35, 3)]
set_option maxRecDepth 100000 in
theorem xi_ok153_1 : xi_ok cX7_init xi_153_1 = true := by decide +kernel
def xi_153_2 : XIs := [(62, .aload_n 0, 1), (63, .bipush 32, 2), (65, .newarray .long, 2), (67, .putfield 38, 3), (70, .return_, 1)]
set_option maxRecDepth 100000 in
theorem xi_ok153_2 : xi_ok cX7_init xi_153_2 = true := by decide +kernel
def xi_153 (pc : Nat) : XIs := cond (Nat.blt pc 30) (xi_153_0) (cond (Nat.blt pc 62) (xi_153_1) (xi_153_2))
theorem xi_ok153 (pc : Nat) : xi_ok cX7_init (xi_153 pc) = true := xi_c (xi_ok153_0) (xi_c (xi_ok153_1) (xi_ok153_2))
def xi_154_0 : XIs := [(0, .aload_n 1, 1), (1, .invokevirtual 41, 3), (4, .aload_n 1, 1), (5, .getfield 46, 3), (8, .bipush 60, 2), (10, .if_icmp .le 11, 3), (13, .aload_n 1, 1), (14, .iconst 2, 1), (15, .bipush 60, 2), (17, .invokevirtual 50, 3), (20, .ireturn, 1), (21, .aload_n 1, 1), (22, .invokestatic 54, 3), (25, .ifCond .ne 5, 3), (28, .iconst 0, 1), (29, .ireturn, 1)]
set_option maxRecDepth 100000 in
theorem xi_ok154_0 : xi_ok cX7_adopt xi_154_0 = true := by decide +kernel
def xi_154_1 : XIs := [(30, .aload_n 0, 1), (31, .aload_n 1, 1), (32, .invokevirtual 58, 3), (35, .iconst 1, 1), (36, .ireturn, 1)]
set_option maxRecDepth 100000 in
theorem xi_ok154_1 : xi_ok cX7_adopt xi_154_1 = true := by decide +kernel
def xi_154 (pc : Nat) : XIs := cond (Nat.blt pc 30) (xi_154_0) (xi_154_1)
theorem xi_ok154 (pc : Nat) : xi_ok cX7_adopt (xi_154 pc) = true := xi_c (xi_ok154_0) (xi_ok154_1)
def xi_155_0 : XIs := [(0, .iconst 0, 1), (1, .istore_n 1, 1), (2, .iconst 0, 1), (3, .istore_n 2, 1), (4, .iconst 0, 1), (5, .istore_n 3, 1), (6, .iload_n 3, 1), (7, .aload_n 0, 1), (8, .getfield 46, 3), (11, .if_icmp .ge 81, 3), (14, .aload_n 0, 1), (15, .getfield 62, 3), (18, .iload_n 3, 1), (19, .caload, 1), (20, .istore 4, 2), (22, .iload 4, 2)]
set_option maxRecDepth 100000 in
theorem xi_ok155_0 : xi_ok cX7_isGood xi_155_0 = true := by decide +kernel
def xi_155_1 : XIs := [(24, .iload_n 2, 1), (25, .iload_n 1, 1), (26, .invokestatic 66, 3), (29, .istore 5, 2), (31, .iload 5, 2), (33, .iconst (-1), 1), (34, .if_icmp .eq 11, 3), (37, .aload_n 0, 1), (38, .iload 5, 2), (40, .iload_n 3, 1), (41, .invokevirtual 50, 3), (44, .ireturn, 1), (45, .iload 4, 2), (47, .bipush 40, 2), (49, .if_icmp .ne 6, 3), (52, .iinc 1 1, 3)]
set_option maxRecDepth 100000 in
theorem xi_ok155_1 : xi_ok cX7_isGood xi_155_1 = true := by decide +kernel
def xi_155_2 : XIs := [(55, .iload 4, 2), (57, .bipush 41, 2), (59, .if_icmp .ne 6, 3), (62, .iinc 1 (-1), 3), (65, .iload 4, 2), (67, .bipush 41, 2), (69, .if_icmp .eq 11, 3), (72, .iload 4, 2), (74, .invokestatic 70, 3), (77, .ifCond .eq 7, 3), (80, .iconst 1, 1), (81, .goto 4, 3), (84, .iconst 0, 1), (85, .istore_n 2, 1), (86, .iinc 3 1, 3), (89, .goto (-83), 3)]
set_option maxRecDepth 100000 in
theorem xi_ok155_2 : xi_ok cX7_isGood xi_155_2 = true := by decide +kernel
def xi_155_3 : XIs := [(92, .iload_n 1, 1), (93, .ifCond .eq 15, 3), (96, .aload_n 0, 1), (97, .iconst 2, 1), (98, .aload_n 0, 1), (99, .getfield 46, 3), (102, .invokevirtual 50, 3), (105, .ifCond .eq 7, 3), (108, .iconst 1, 1), (109, .goto 4, 3), (112, .iconst 0, 1), (113, .ireturn, 1)]
set_option maxRecDepth 100000 in
theorem xi_ok155_3 : xi_ok cX7_isGood xi_155_3 = true := by decide +kernel
def xi_155 (pc : Nat) : XIs := cond (Nat.blt pc 55) (cond (Nat.blt pc 24) (xi_155_0) (xi_155_1)) (cond (Nat.blt pc 92) (xi_155_2) (xi_155_3))
theorem xi_ok155 (pc : Nat) : xi_ok cX7_isGood (xi_155 pc) = true := xi_c (xi_c (xi_ok155_0) (xi_ok155_1)) (xi_c (xi_ok155_2) (xi_ok155_3))
def xi_156_0 : XIs := [(0, .iload_n 0, 1), (1, .lookupswitch 93 #[(40, 69), (41, 81), (42, 59), (43, 59), (63, 59), (124, 91)], 59), (60, .iload_n 1, 1), (61, .ifCond .eq 7, 3), (64, .iconst (-1), 1), (65, .goto 4, 3), (68, .iconst 2, 1), (69, .ireturn, 1), (70, .iload_n 2, 1), (71, .bipush 10, 2), (73, .if_icmp .ge 7, 3), (76, .iconst (-1), 1), (77, .goto 4, 3), (80, .iconst 3, 1), (81, .ireturn, 1), (82, .iload_n 2, 1)]
set_option maxRecDepth 100000 in
theorem xi_ok156_0 : xi_ok cX7_judge xi_156_0 = true := by decide +kernel
def xi_156_1 : XIs := [(83, .ifCond .le 7, 3), (86, .iconst (-1), 1), (87, .goto 4, 3), (90, .iconst 2, 1), (91, .ireturn, 1), (92, .iconst (-1), 1), (93, .ireturn, 1), (94, .iload_n 0, 1), (95, .invokestatic 70, 3), (98, .ifCond .eq 7, 3), (101, .iconst (-1), 1), (102, .goto 4, 3), (105, .iconst 1, 1), (106, .ireturn, 1)]
set_option maxRecDepth 100000 in
theorem xi_ok156_1 : xi_ok cX7_judge xi_156_1 = true := by decide +kernel
def xi_156 (pc : Nat) : XIs := cond (Nat.blt pc 83) (xi_156_0) (xi_156_1)
theorem xi_ok156 (pc : Nat) : xi_ok cX7_judge (xi_156 pc) = true := xi_c (xi_ok156_0) (xi_ok156_1)
def xi_157_0 : XIs := [(0, .iload_n 0, 1), (1, .bipush 46, 2), (3, .if_icmp .eq 15, 3), (6, .iload_n 0, 1), (7, .bipush 97, 2), (9, .if_icmp .lt 13, 3), (12, .iload_n 0, 1), (13, .bipush 122, 2), (15, .if_icmp .gt 7, 3), (18, .iconst 1, 1), (19, .goto 4, 3), (22, .iconst 0, 1), (23, .ireturn, 1)]
set_option maxRecDepth 100000 in
theorem xi_ok157_0 : xi_ok cX7_isAtom xi_157_0 = true := by decide +kernel
def xi_157 (pc : Nat) : XIs := xi_157_0
theorem xi_ok157 (pc : Nat) : xi_ok cX7_isAtom (xi_157 pc) = true := xi_ok157_0
def xi_158_0 : XIs := [(0, .aload_n 0, 1), (1, .getfield 18, 3), (4, .lconst 0, 1), (5, .invokestatic 74, 3), (8, .aload_n 0, 1), (9, .getfield 22, 3), (12, .lconst 0, 1), (13, .invokestatic 74, 3), (16, .aload_n 0, 1), (17, .lconst 1, 1), (18, .putfield 9, 3), (21, .aload_n 0, 1), (22, .lconst 1, 1), (23, .aload_n 1, 1), (24, .getfield 46, 3), (27, .lshl, 1)]
set_option maxRecDepth 100000 in
theorem xi_ok158_0 : xi_ok cX7_build xi_158_0 = true := by decide +kernel
def xi_158_1 : XIs := [(28, .putfield 15, 3), (31, .aload_n 0, 1), (32, .getfield 29, 3), (35, .iconst 0, 1), (36, .lconst 0, 1), (37, .lastore, 1), (38, .iconst 0, 1), (39, .istore_n 2, 1), (40, .iconst 0, 1), (41, .istore_n 3, 1), (42, .iload_n 3, 1), (43, .aload_n 1, 1), (44, .getfield 46, 3), (47, .if_icmp .ge 123, 3), (50, .aload_n 1, 1), (51, .getfield 62, 3)]
set_option maxRecDepth 100000 in
theorem xi_ok158_1 : xi_ok cX7_build xi_158_1 = true := by decide +kernel
def xi_158_2 : XIs := [(54, .iload_n 3, 1), (55, .caload, 1), (56, .istore 4, 2), (58, .iload_n 3, 1), (59, .istore 5, 2), (61, .iload 4, 2), (63, .bipush 40, 2), (65, .if_icmp .ne 29, 3), (68, .iload_n 2, 1), (69, .bipush 10, 2), (71, .if_icmp .ge 23, 3), (74, .iinc 2 1, 3), (77, .aload_n 0, 1), (78, .getfield 25, 3), (81, .iload_n 2, 1), (82, .iload_n 3, 1)]
set_option maxRecDepth 100000 in
theorem xi_ok158_2 : xi_ok cX7_build xi_158_2 = true := by decide +kernel
def xi_158_3 : XIs := [(83, .iastore, 1), (84, .aload_n 0, 1), (85, .getfield 29, 3), (88, .iload_n 2, 1), (89, .lconst 0, 1), (90, .lastore, 1), (91, .goto 38, 3), (94, .iload 4, 2), (96, .bipush 41, 2), (98, .if_icmp .ne 31, 3), (101, .iload_n 2, 1), (102, .ifCond .le 27, 3), (105, .aload_n 0, 1), (106, .getfield 25, 3), (109, .iload_n 2, 1), (110, .iaload, 1)]
set_option maxRecDepth 100000 in
theorem xi_ok158_3 : xi_ok cX7_build xi_158_3 = true := by decide +kernel
def xi_158_4 : XIs := [(111, .istore 5, 2), (113, .aload_n 0, 1), (114, .aload_n 0, 1), (115, .getfield 29, 3), (118, .iload_n 2, 1), (119, .laload, 1), (120, .lconst 1, 1), (121, .iload_n 3, 1), (122, .lshl, 1), (123, .invokevirtual 80, 3), (126, .iinc 2 (-1), 3), (129, .aload_n 0, 1), (130, .iload 4, 2), (132, .iload_n 3, 1), (133, .iload_n 2, 1), (134, .invokevirtual 84, 3)]
set_option maxRecDepth 100000 in
theorem xi_ok158_4 : xi_ok cX7_build xi_158_4 = true := by decide +kernel
def xi_158_5 : XIs := [(137, .iload_n 3, 1), (138, .iconst 1, 1), (139, .iadd, 1), (140, .aload_n 1, 1), (141, .getfield 46, 3), (144, .if_icmp .ge 20, 3), (147, .aload_n 0, 1), (148, .aload_n 1, 1), (149, .getfield 62, 3), (152, .iload_n 3, 1), (153, .iconst 1, 1), (154, .iadd, 1), (155, .caload, 1), (156, .iload 5, 2), (158, .iload_n 3, 1), (159, .iconst 1, 1)]
set_option maxRecDepth 100000 in
theorem xi_ok158_5 : xi_ok cX7_build xi_158_5 = true := by decide +kernel
def xi_158_6 : XIs := [(160, .iadd, 1), (161, .invokevirtual 88, 3), (164, .iinc 3 1, 3), (167, .goto (-125), 3), (170, .aload_n 0, 1), (171, .aload_n 0, 1), (172, .getfield 29, 3), (175, .iconst 0, 1), (176, .laload, 1), (177, .aload_n 0, 1), (178, .getfield 15, 3), (181, .invokevirtual 80, 3), (184, .aload_n 0, 1), (185, .aload_n 1, 1), (186, .getfield 46, 3), (189, .invokevirtual 91, 3)]
set_option maxRecDepth 100000 in
theorem xi_ok158_6 : xi_ok cX7_build xi_158_6 = true := by decide +kernel
def xi_158_7 : XIs := [(192, .return_, 1)]
set_option maxRecDepth 100000 in
theorem xi_ok158_7 : xi_ok cX7_build xi_158_7 = true := by decide +kernel
def xi_158 (pc : Nat) : XIs := cond (Nat.blt pc 111) (cond (Nat.blt pc 54) (cond (Nat.blt pc 28) (xi_158_0) (xi_158_1)) (cond (Nat.blt pc 83) (xi_158_2) (xi_158_3))) (cond (Nat.blt pc 160) (cond (Nat.blt pc 137) (xi_158_4) (xi_158_5)) (cond (Nat.blt pc 192) (xi_158_6) (xi_158_7)))
theorem xi_ok158 (pc : Nat) : xi_ok cX7_build (xi_158 pc) = true := xi_c (xi_c (xi_c (xi_ok158_0) (xi_ok158_1)) (xi_c (xi_ok158_2) (xi_ok158_3))) (xi_c (xi_c (xi_ok158_4) (xi_ok158_5)) (xi_c (xi_ok158_6) (xi_ok158_7)))
def xi_159_0 : XIs := [(0, .lload_n 1, 1), (1, .lstore 5, 2), (3, .lload 5, 2), (5, .lconst 0, 1), (6, .lcmp, 1), (7, .ifCond .eq 29, 3), (10, .aload_n 0, 1), (11, .getfield 18, 3), (14, .lload 5, 2), (16, .invokestatic 95, 3), (19, .dup2, 1), (20, .laload, 1), (21, .lload_n 3, 1), (22, .lor, 1), (23, .lastore, 1), (24, .lload 5, 2)]
set_option maxRecDepth 100000 in
theorem xi_ok159_0 : xi_ok cX7_closeBars xi_159_0 = true := by decide +kernel
def xi_159_1 : XIs := [(26, .lload 5, 2), (28, .lconst 1, 1), (29, .lsub, 1), (30, .land, 1), (31, .lstore 5, 2), (33, .goto (-30), 3), (36, .return_, 1)]
set_option maxRecDepth 100000 in
theorem xi_ok159_1 : xi_ok cX7_closeBars xi_159_1 = true := by decide +kernel
def xi_159 (pc : Nat) : XIs := cond (Nat.blt pc 26) (xi_159_0) (xi_159_1)
theorem xi_ok159 (pc : Nat) : xi_ok cX7_closeBars (xi_159 pc) = true := xi_c (xi_ok159_0) (xi_ok159_1)
def xi_160_0 : XIs := [(0, .lconst 1, 1), (1, .iload_n 2, 1), (2, .iconst 1, 1), (3, .iadd, 1), (4, .lshl, 1), (5, .lstore 4, 2), (7, .iload_n 1, 1), (8, .bipush 46, 2), (10, .if_icmp .ne 35, 3), (13, .iconst 0, 1), (14, .istore 6, 2), (16, .iload 6, 2), (18, .bipush 26, 2), (20, .if_icmp .ge 22, 3), (23, .aload_n 0, 1), (24, .getfield 22, 3)]
set_option maxRecDepth 100000 in
theorem xi_ok160_0 : xi_ok cX7_layPlace xi_160_0 = true := by decide +kernel
def xi_160_1 : XIs := [(27, .iload 6, 2), (29, .dup2, 1), (30, .laload, 1), (31, .lconst 1, 1), (32, .iload_n 2, 1), (33, .lshl, 1), (34, .lor, 1), (35, .lastore, 1), (36, .iinc 6 1, 3), (39, .goto (-23), 3), (42, .goto 94, 3), (45, .iload_n 1, 1), (46, .invokestatic 70, 3), (49, .ifCond .eq 21, 3), (52, .aload_n 0, 1), (53, .getfield 22, 3)]
set_option maxRecDepth 100000 in
theorem xi_ok160_1 : xi_ok cX7_layPlace xi_160_1 = true := by decide +kernel
def xi_160_2 : XIs := [(56, .iload_n 1, 1), (57, .bipush 97, 2), (59, .isub, 1), (60, .dup2, 1), (61, .laload, 1), (62, .lconst 1, 1), (63, .iload_n 2, 1), (64, .lshl, 1), (65, .lor, 1), (66, .lastore, 1), (67, .goto 69, 3), (70, .iload_n 1, 1), (71, .bipush 124, 2), (73, .if_icmp .eq 17, 3), (76, .aload_n 0, 1), (77, .getfield 18, 3)]
set_option maxRecDepth 100000 in
theorem xi_ok160_2 : xi_ok cX7_layPlace xi_160_2 = true := by decide +kernel
def xi_160_3 : XIs := [(80, .iload_n 2, 1), (81, .dup2, 1), (82, .laload, 1), (83, .lload 4, 2), (85, .lor, 1), (86, .lastore, 1), (87, .goto 49, 3), (90, .aload_n 0, 1), (91, .getfield 29, 3), (94, .iload_n 3, 1), (95, .dup2, 1), (96, .laload, 1), (97, .lconst 1, 1), (98, .iload_n 2, 1), (99, .lshl, 1), (100, .lor, 1)]
set_option maxRecDepth 100000 in
theorem xi_ok160_3 : xi_ok cX7_layPlace xi_160_3 = true := by decide +kernel
def xi_160_4 : XIs := [(101, .lastore, 1), (102, .iload_n 3, 1), (103, .ifCond .ne 17, 3), (106, .aload_n 0, 1), (107, .dup, 1), (108, .getfield 9, 3), (111, .lload 4, 2), (113, .lor, 1), (114, .putfield 9, 3), (117, .goto 19, 3), (120, .aload_n 0, 1), (121, .getfield 18, 3), (124, .aload_n 0, 1), (125, .getfield 25, 3), (128, .iload_n 3, 1), (129, .iaload, 1)]
set_option maxRecDepth 100000 in
theorem xi_ok160_4 : xi_ok cX7_layPlace xi_160_4 = true := by decide +kernel
def xi_160_5 : XIs := [(130, .dup2, 1), (131, .laload, 1), (132, .lload 4, 2), (134, .lor, 1), (135, .lastore, 1), (136, .return_, 1)]
set_option maxRecDepth 100000 in
theorem xi_ok160_5 : xi_ok cX7_layPlace xi_160_5 = true := by decide +kernel
def xi_160 (pc : Nat) : XIs := cond (Nat.blt pc 80) (cond (Nat.blt pc 27) (xi_160_0) (cond (Nat.blt pc 56) (xi_160_1) (xi_160_2))) (cond (Nat.blt pc 101) (xi_160_3) (cond (Nat.blt pc 130) (xi_160_4) (xi_160_5)))
theorem xi_ok160 (pc : Nat) : xi_ok cX7_layPlace (xi_160 pc) = true := xi_c (xi_c (xi_ok160_0) (xi_c (xi_ok160_1) (xi_ok160_2))) (xi_c (xi_ok160_3) (xi_c (xi_ok160_4) (xi_ok160_5)))
def xi_161_0 : XIs := [(0, .iload_n 1, 1), (1, .bipush 42, 2), (3, .if_icmp .eq 9, 3), (6, .iload_n 1, 1), (7, .bipush 43, 2), (9, .if_icmp .ne 15, 3), (12, .aload_n 0, 1), (13, .getfield 18, 3), (16, .iload_n 3, 1), (17, .dup2, 1), (18, .laload, 1), (19, .lconst 1, 1), (20, .iload_n 2, 1), (21, .lshl, 1), (22, .lor, 1), (23, .lastore, 1)]
set_option maxRecDepth 100000 in
theorem xi_ok161_0 : xi_ok cX7_layRepeat xi_161_0 = true := by decide +kernel
def xi_161_1 : XIs := [(24, .iload_n 1, 1), (25, .bipush 42, 2), (27, .if_icmp .eq 9, 3), (30, .iload_n 1, 1), (31, .bipush 63, 2), (33, .if_icmp .ne 15, 3), (36, .aload_n 0, 1), (37, .getfield 18, 3), (40, .iload_n 2, 1), (41, .dup2, 1), (42, .laload, 1), (43, .lconst 1, 1), (44, .iload_n 3, 1), (45, .lshl, 1), (46, .lor, 1), (47, .lastore, 1)]
set_option maxRecDepth 100000 in
theorem xi_ok161_1 : xi_ok cX7_layRepeat xi_161_1 = true := by decide +kernel
def xi_161_2 : XIs := [(48, .return_, 1)]
set_option maxRecDepth 100000 in
theorem xi_ok161_2 : xi_ok cX7_layRepeat xi_161_2 = true := by decide +kernel
def xi_161 (pc : Nat) : XIs := cond (Nat.blt pc 24) (xi_161_0) (cond (Nat.blt pc 48) (xi_161_1) (xi_161_2))
theorem xi_ok161 (pc : Nat) : xi_ok cX7_layRepeat (xi_161 pc) = true := xi_c (xi_ok161_0) (xi_c (xi_ok161_1) (xi_ok161_2))
def xi_162_0 : XIs := [(0, .iconst 0, 1), (1, .istore_n 2, 1), (2, .iload_n 2, 1), (3, .iload_n 1, 1), (4, .if_icmp .gt 21, 3), (7, .aload_n 0, 1), (8, .getfield 18, 3), (11, .iload_n 2, 1), (12, .dup2, 1), (13, .laload, 1), (14, .lconst 1, 1), (15, .iload_n 2, 1), (16, .lshl, 1), (17, .lor, 1), (18, .lastore, 1), (19, .iinc 2 1, 3)]
set_option maxRecDepth 100000 in
theorem xi_ok162_0 : xi_ok cX7_close xi_162_0 = true := by decide +kernel
def xi_162_1 : XIs := [(22, .goto (-20), 3), (25, .iconst 0, 1), (26, .istore_n 2, 1), (27, .iload_n 2, 1), (28, .iload_n 1, 1), (29, .if_icmp .gt 52, 3), (32, .iconst 0, 1), (33, .istore_n 3, 1), (34, .iload_n 3, 1), (35, .iload_n 1, 1), (36, .if_icmp .gt 39, 3), (39, .aload_n 0, 1), (40, .getfield 18, 3), (43, .iload_n 3, 1), (44, .laload, 1), (45, .iload_n 2, 1)]
set_option maxRecDepth 100000 in
theorem xi_ok162_1 : xi_ok cX7_close xi_162_1 = true := by decide +kernel
def xi_162_2 : XIs := [(46, .lshr, 1), (47, .lconst 1, 1), (48, .land, 1), (49, .lconst 0, 1), (50, .lcmp, 1), (51, .ifCond .eq 18, 3), (54, .aload_n 0, 1), (55, .getfield 18, 3), (58, .iload_n 3, 1), (59, .dup2, 1), (60, .laload, 1), (61, .aload_n 0, 1), (62, .getfield 18, 3), (65, .iload_n 2, 1), (66, .laload, 1), (67, .lor, 1)]
set_option maxRecDepth 100000 in
theorem xi_ok162_2 : xi_ok cX7_close xi_162_2 = true := by decide +kernel
def xi_162_3 : XIs := [(68, .lastore, 1), (69, .iinc 3 1, 3), (72, .goto (-38), 3), (75, .iinc 2 1, 3), (78, .goto (-51), 3), (81, .aload_n 0, 1), (82, .getfield 15, 3), (85, .lstore_n 2, 1), (86, .iconst 0, 1), (87, .istore 4, 2), (89, .iload 4, 2), (91, .bipush 26, 2), (93, .if_icmp .ge 19, 3), (96, .lload_n 2, 1), (97, .aload_n 0, 1), (98, .getfield 22, 3)]
set_option maxRecDepth 100000 in
theorem xi_ok162_3 : xi_ok cX7_close xi_162_3 = true := by decide +kernel
def xi_162_4 : XIs := [(101, .iload 4, 2), (103, .laload, 1), (104, .lor, 1), (105, .lstore_n 2, 1), (106, .iinc 4 1, 3), (109, .goto (-20), 3), (112, .iconst 0, 1), (113, .istore 4, 2), (115, .iload 4, 2), (117, .iload_n 1, 1), (118, .if_icmp .gt 20, 3), (121, .aload_n 0, 1), (122, .getfield 18, 3), (125, .iload 4, 2), (127, .dup2, 1), (128, .laload, 1)]
set_option maxRecDepth 100000 in
theorem xi_ok162_4 : xi_ok cX7_close xi_162_4 = true := by decide +kernel
def xi_162_5 : XIs := [(129, .lload_n 2, 1), (130, .land, 1), (131, .lastore, 1), (132, .iinc 4 1, 3), (135, .goto (-20), 3), (138, .lconst 0, 1), (139, .lstore 4, 2), (141, .aload_n 0, 1), (142, .getfield 9, 3), (145, .lstore 6, 2), (147, .lload 6, 2), (149, .lconst 0, 1), (150, .lcmp, 1), (151, .ifCond .eq 30, 3), (154, .lload 4, 2), (156, .aload_n 0, 1)]
set_option maxRecDepth 100000 in
theorem xi_ok162_5 : xi_ok cX7_close xi_162_5 = true := by decide +kernel
def xi_162_6 : XIs := [(157, .getfield 18, 3), (160, .lload 6, 2), (162, .invokestatic 95, 3), (165, .laload, 1), (166, .lor, 1), (167, .lstore 4, 2), (169, .lload 6, 2), (171, .lload 6, 2), (173, .lconst 1, 1), (174, .lsub, 1), (175, .land, 1), (176, .lstore 6, 2), (178, .goto (-31), 3), (181, .aload_n 0, 1), (182, .lload 4, 2), (184, .putfield 9, 3)]
set_option maxRecDepth 100000 in
theorem xi_ok162_6 : xi_ok cX7_close xi_162_6 = true := by decide +kernel
def xi_162_7 : XIs := [(187, .return_, 1)]
set_option maxRecDepth 100000 in
theorem xi_ok162_7 : xi_ok cX7_close xi_162_7 = true := by decide +kernel
def xi_162 (pc : Nat) : XIs := cond (Nat.blt pc 101) (cond (Nat.blt pc 46) (cond (Nat.blt pc 22) (xi_162_0) (xi_162_1)) (cond (Nat.blt pc 68) (xi_162_2) (xi_162_3))) (cond (Nat.blt pc 157) (cond (Nat.blt pc 129) (xi_162_4) (xi_162_5)) (cond (Nat.blt pc 187) (xi_162_6) (xi_162_7)))
theorem xi_ok162 (pc : Nat) : xi_ok cX7_close (xi_162 pc) = true := xi_c (xi_c (xi_c (xi_ok162_0) (xi_ok162_1)) (xi_c (xi_ok162_2) (xi_ok162_3))) (xi_c (xi_c (xi_ok162_4) (xi_ok162_5)) (xi_c (xi_ok162_6) (xi_ok162_7)))
def xi_163_0 : XIs := [(0, .aload_n 1, 1), (1, .invokevirtual 99, 3), (4, .aload_n 0, 1), (5, .getfield 32, 3), (8, .lconst 0, 1), (9, .invokestatic 74, 3), (12, .aload_n 0, 1), (13, .getfield 38, 3), (16, .lconst 0, 1), (17, .invokestatic 74, 3), (20, .aload_n 0, 1), (21, .getfield 32, 3), (24, .iload_n 2, 1), (25, .aload_n 0, 1), (26, .getfield 9, 3), (29, .lastore, 1)]
set_option maxRecDepth 100000 in
theorem xi_ok163_0 : xi_ok cX7_leastFit xi_163_0 = true := by decide +kernel
def xi_163_1 : XIs := [(30, .aload_n 0, 1), (31, .getfield 38, 3), (34, .iload_n 2, 1), (35, .aload_n 0, 1), (36, .getfield 9, 3), (39, .lastore, 1), (40, .iconst 0, 1), (41, .istore 4, 2), (43, .iload 4, 2), (45, .sipush 1952, 3), (48, .if_icmp .gt 38, 3), (51, .aload_n 0, 1), (52, .getfield 38, 3), (55, .iload_n 3, 1), (56, .laload, 1), (57, .aload_n 0, 1)]
set_option maxRecDepth 100000 in
theorem xi_ok163_1 : xi_ok cX7_leastFit xi_163_1 = true := by decide +kernel
def xi_163_2 : XIs := [(58, .getfield 15, 3), (61, .land, 1), (62, .lconst 0, 1), (63, .lcmp, 1), (64, .ifCond .eq 6, 3), (67, .iload 4, 2), (69, .ireturn, 1), (70, .aload_n 0, 1), (71, .aload_n 1, 1), (72, .invokevirtual 104, 3), (75, .ifCond .ne 5, 3), (78, .iconst (-1), 1), (79, .ireturn, 1), (80, .iinc 4 1, 3), (83, .goto (-40), 3), (86, .iconst (-1), 1)]
set_option maxRecDepth 100000 in
theorem xi_ok163_2 : xi_ok cX7_leastFit xi_163_2 = true := by decide +kernel
def xi_163_3 : XIs := [(87, .ireturn, 1)]
set_option maxRecDepth 100000 in
theorem xi_ok163_3 : xi_ok cX7_leastFit xi_163_3 = true := by decide +kernel
def xi_163 (pc : Nat) : XIs := cond (Nat.blt pc 58) (cond (Nat.blt pc 30) (xi_163_0) (xi_163_1)) (cond (Nat.blt pc 87) (xi_163_2) (xi_163_3))
theorem xi_ok163 (pc : Nat) : xi_ok cX7_leastFit (xi_163 pc) = true := xi_c (xi_c (xi_ok163_0) (xi_ok163_1)) (xi_c (xi_ok163_2) (xi_ok163_3))
def xi_164_0 : XIs := [(0, .iconst 0, 1), (1, .istore_n 2, 1), (2, .aload_n 0, 1), (3, .getfield 35, 3), (6, .lconst 0, 1), (7, .invokestatic 74, 3), (10, .iconst 0, 1), (11, .istore_n 3, 1), (12, .iload_n 3, 1), (13, .aload_n 1, 1), (14, .getfield 108, 3), (17, .if_icmp .ge 141, 3), (20, .aload_n 1, 1), (21, .getfield 111, 3), (24, .iload_n 3, 1), (25, .iaload, 1)]
set_option maxRecDepth 100000 in
theorem xi_ok164_0 : xi_ok cX7_step xi_164_0 = true := by decide +kernel
def xi_164_1 : XIs := [(26, .istore 4, 2), (28, .iload 4, 2), (30, .aload_n 1, 1), (31, .getfield 111, 3), (34, .iload_n 3, 1), (35, .iconst 1, 1), (36, .iadd, 1), (37, .iaload, 1), (38, .if_icmp .ge 114, 3), (41, .aload_n 0, 1), (42, .getfield 32, 3), (45, .iload_n 3, 1), (46, .laload, 1), (47, .lconst 0, 1), (48, .lcmp, 1), (49, .ifCond .eq 103, 3)]
set_option maxRecDepth 100000 in
theorem xi_ok164_1 : xi_ok cX7_step xi_164_1 = true := by decide +kernel
def xi_164_2 : XIs := [(52, .aload_n 1, 1), (53, .getfield 114, 3), (56, .iload 4, 2), (58, .iaload, 1), (59, .istore 5, 2), (61, .aload_n 1, 1), (62, .getfield 117, 3), (65, .iload 5, 2), (67, .iaload, 1), (68, .istore 6, 2), (70, .aload_n 0, 1), (71, .aload_n 0, 1), (72, .getfield 32, 3), (75, .iload_n 3, 1), (76, .laload, 1), (77, .aload_n 0, 1)]
set_option maxRecDepth 100000 in
theorem xi_ok164_2 : xi_ok cX7_step xi_164_2 = true := by decide +kernel
def xi_164_3 : XIs := [(78, .getfield 22, 3), (81, .aload_n 1, 1), (82, .getfield 120, 3), (85, .iload 5, 2), (87, .iaload, 1), (88, .laload, 1), (89, .land, 1), (90, .invokevirtual 123, 3), (93, .aload_n 0, 1), (94, .getfield 38, 3), (97, .iload 6, 2), (99, .laload, 1), (100, .ldc2_w 127, 3), (103, .lxor, 1), (104, .land, 1), (105, .lstore 7, 2)]
set_option maxRecDepth 100000 in
theorem xi_ok164_3 : xi_ok cX7_step xi_164_3 = true := by decide +kernel
def xi_164_4 : XIs := [(107, .aload_n 0, 1), (108, .getfield 35, 3), (111, .iload 6, 2), (113, .dup2, 1), (114, .laload, 1), (115, .lload 7, 2), (117, .lor, 1), (118, .lastore, 1), (119, .aload_n 0, 1), (120, .getfield 38, 3), (123, .iload 6, 2), (125, .dup2, 1), (126, .laload, 1), (127, .lload 7, 2), (129, .lor, 1), (130, .lastore, 1)]
set_option maxRecDepth 100000 in
theorem xi_ok164_4 : xi_ok cX7_step xi_164_4 = true := by decide +kernel
def xi_164_5 : XIs := [(131, .iload_n 2, 1), (132, .lload 7, 2), (134, .lconst 0, 1), (135, .lcmp, 1), (136, .ifCond .eq 7, 3), (139, .iconst 1, 1), (140, .goto 4, 3), (143, .iconst 0, 1), (144, .ior, 1), (145, .istore_n 2, 1), (146, .iinc 4 1, 3), (149, .goto (-121), 3), (152, .iinc 3 1, 3), (155, .goto (-143), 3), (158, .aload_n 0, 1), (159, .getfield 35, 3)]
set_option maxRecDepth 100000 in
theorem xi_ok164_5 : xi_ok cX7_step xi_164_5 = true := by decide +kernel
def xi_164_6 : XIs := [(162, .iconst 0, 1), (163, .aload_n 0, 1), (164, .getfield 32, 3), (167, .iconst 0, 1), (168, .bipush 32, 2), (170, .invokestatic 129, 3), (173, .iload_n 2, 1), (174, .ireturn, 1)]
set_option maxRecDepth 100000 in
theorem xi_ok164_6 : xi_ok cX7_step xi_164_6 = true := by decide +kernel
def xi_164 (pc : Nat) : XIs := cond (Nat.blt pc 78) (cond (Nat.blt pc 26) (xi_164_0) (cond (Nat.blt pc 52) (xi_164_1) (xi_164_2))) (cond (Nat.blt pc 131) (cond (Nat.blt pc 107) (xi_164_3) (xi_164_4)) (cond (Nat.blt pc 162) (xi_164_5) (xi_164_6)))
theorem xi_ok164 (pc : Nat) : xi_ok cX7_step (xi_164 pc) = true := xi_c (xi_c (xi_ok164_0) (xi_c (xi_ok164_1) (xi_ok164_2))) (xi_c (xi_c (xi_ok164_3) (xi_ok164_4)) (xi_c (xi_ok164_5) (xi_ok164_6)))
def xi_165_0 : XIs := [(0, .lconst 0, 1), (1, .lstore_n 3, 1), (2, .lload_n 1, 1), (3, .lstore 5, 2), (5, .lload 5, 2), (7, .lconst 0, 1), (8, .lcmp, 1), (9, .ifCond .eq 30, 3), (12, .lload_n 3, 1), (13, .aload_n 0, 1), (14, .getfield 18, 3), (17, .lload 5, 2), (19, .invokestatic 95, 3), (22, .iconst 1, 1), (23, .iadd, 1), (24, .laload, 1)]
set_option maxRecDepth 100000 in
theorem xi_ok165_0 : xi_ok cX7_behind xi_165_0 = true := by decide +kernel
def xi_165_1 : XIs := [(25, .lor, 1), (26, .lstore_n 3, 1), (27, .lload 5, 2), (29, .lload 5, 2), (31, .lconst 1, 1), (32, .lsub, 1), (33, .land, 1), (34, .lstore 5, 2), (36, .goto (-31), 3), (39, .lload_n 3, 1), (40, .lreturn, 1)]
set_option maxRecDepth 100000 in
theorem xi_ok165_1 : xi_ok cX7_behind xi_165_1 = true := by decide +kernel
def xi_165 (pc : Nat) : XIs := cond (Nat.blt pc 25) (xi_165_0) (xi_165_1)
theorem xi_ok165 (pc : Nat) : xi_ok cX7_behind (xi_165 pc) = true := xi_c (xi_ok165_0) (xi_ok165_1)
def xi_166_0 : XIs := [(0, .aload_n 0, 1), (1, .invokespecial 3, 3), (4, .aload_n 0, 1), (5, .sipush 1000, 3), (8, .newarray .char, 2), (10, .putfield 9, 3), (13, .aload_n 0, 1), (14, .iconst (-1), 1), (15, .putfield 15, 3), (18, .aload_n 0, 1), (19, .iconst (-1), 1), (20, .putfield 19, 3), (23, .aload_n 0, 1), (24, .sipush 4608, 3), (27, .newarray .char, 2), (29, .putfield 22, 3)]
set_option maxRecDepth 100000 in
theorem xi_ok166_0 : xi_ok cX8_init xi_166_0 = true := by decide +kernel
def xi_166_1 : XIs := [(32, .return_, 1)]
set_option maxRecDepth 100000 in
theorem xi_ok166_1 : xi_ok cX8_init xi_166_1 = true := by decide +kernel
def xi_166 (pc : Nat) : XIs := cond (Nat.blt pc 32) (xi_166_0) (xi_166_1)
theorem xi_ok166 (pc : Nat) : xi_ok cX8_init (xi_166 pc) = true := xi_c (xi_ok166_0) (xi_ok166_1)
def xi_167_0 : XIs := [(0, .aload_n 0, 1), (1, .iconst 0, 1), (2, .putfield 25, 3), (5, .aload_n 0, 1), (6, .iconst (-1), 1), (7, .putfield 15, 3), (10, .aload_n 0, 1), (11, .iconst (-1), 1), (12, .putfield 19, 3), (15, .return_, 1)]
set_option maxRecDepth 100000 in
theorem xi_ok167_0 : xi_ok cX8_begin xi_167_0 = true := by decide +kernel
def xi_167 (pc : Nat) : XIs := xi_167_0
theorem xi_ok167 (pc : Nat) : xi_ok cX8_begin (xi_167 pc) = true := xi_ok167_0
def xi_168_0 : XIs := [(0, .aload_n 0, 1), (1, .iload_n 1, 1), (2, .putfield 15, 3), (5, .aload_n 0, 1), (6, .iload_n 2, 1), (7, .putfield 19, 3), (10, .iconst 0, 1), (11, .ireturn, 1)]
set_option maxRecDepth 100000 in
theorem xi_ok168_0 : xi_ok cX8_accuse xi_168_0 = true := by decide +kernel
def xi_168 (pc : Nat) : XIs := xi_168_0
theorem xi_ok168 (pc : Nat) : xi_ok cX8_accuse (xi_168 pc) = true := xi_ok168_0
def xi_169_0 : XIs := [(0, .aload_n 0, 1), (1, .getfield 28, 3), (4, .iconst 4, 1), (5, .if_icmp .ne 13, 3), (8, .aload_n 0, 1), (9, .iconst 1, 1), (10, .aload_n 0, 1), (11, .getfield 31, 3), (14, .invokevirtual 34, 3), (17, .ireturn, 1), (18, .aload_n 0, 1), (19, .aload_n 0, 1), (20, .getfield 28, 3), (23, .iconst 5, 1), (24, .if_icmp .ne 7, 3), (27, .iload_n 2, 1)]
set_option maxRecDepth 100000 in
theorem xi_ok169_0 : xi_ok cX8_refuse xi_169_0 = true := by decide +kernel
def xi_169_1 : XIs := [(28, .goto 4, 3), (31, .iload_n 1, 1), (32, .aload_n 0, 1), (33, .getfield 31, 3), (36, .invokevirtual 34, 3), (39, .ireturn, 1)]
set_option maxRecDepth 100000 in
theorem xi_ok169_1 : xi_ok cX8_refuse xi_169_1 = true := by decide +kernel
def xi_169 (pc : Nat) : XIs := cond (Nat.blt pc 28) (xi_169_0) (xi_169_1)
theorem xi_ok169 (pc : Nat) : xi_ok cX8_refuse (xi_169 pc) = true := xi_c (xi_ok169_0) (xi_ok169_1)
def xi_170_0 : XIs := [(0, .aload_n 0, 1), (1, .getfield 28, 3), (4, .iconst 3, 1), (5, .if_icmp .ne 15, 3), (8, .aload_n 0, 1), (9, .getfield 38, 3), (12, .iload_n 1, 1), (13, .if_icmp .ne 7, 3), (16, .iconst 1, 1), (17, .goto 4, 3), (20, .iconst 0, 1), (21, .ireturn, 1)]
set_option maxRecDepth 100000 in
theorem xi_ok170_0 : xi_ok cX8_isAt xi_170_0 = true := by decide +kernel
def xi_170 (pc : Nat) : XIs := xi_170_0
theorem xi_ok170 (pc : Nat) : xi_ok cX8_isAt (xi_170 pc) = true := xi_ok170_0
def xi_171_0 : XIs := [(0, .aload_n 0, 1), (1, .getfield 25, 3), (4, .aload_n 0, 1), (5, .getfield 41, 3), (8, .if_icmp .ge 30, 3), (11, .aload_n 0, 1), (12, .getfield 9, 3), (15, .aload_n 0, 1), (16, .getfield 25, 3), (19, .caload, 1), (20, .bipush 32, 2), (22, .if_icmp .ne 16, 3), (25, .aload_n 0, 1), (26, .dup, 1), (27, .getfield 25, 3), (30, .iconst 1, 1)]
set_option maxRecDepth 100000 in
theorem xi_ok171_0 : xi_ok cX8_next xi_171_0 = true := by decide +kernel
def xi_171_1 : XIs := [(31, .iadd, 1), (32, .putfield 25, 3), (35, .goto (-35), 3), (38, .aload_n 0, 1), (39, .aload_n 0, 1), (40, .getfield 25, 3), (43, .putfield 31, 3), (46, .aload_n 0, 1), (47, .iconst 0, 1), (48, .putfield 28, 3), (51, .aload_n 0, 1), (52, .getfield 25, 3), (55, .aload_n 0, 1), (56, .getfield 41, 3), (59, .if_icmp .lt 4, 3), (62, .return_, 1)]
set_option maxRecDepth 100000 in
theorem xi_ok171_1 : xi_ok cX8_next xi_171_1 = true := by decide +kernel
def xi_171_2 : XIs := [(63, .aload_n 0, 1), (64, .getfield 9, 3), (67, .aload_n 0, 1), (68, .getfield 25, 3), (71, .caload, 1), (72, .istore_n 3, 1), (73, .iload_n 2, 1), (74, .ifCond .eq 13, 3), (77, .iload_n 3, 1), (78, .bipush 45, 2), (80, .if_icmp .ne 7, 3), (83, .iconst 1, 1), (84, .goto 4, 3), (87, .iconst 0, 1), (88, .istore 4, 2), (90, .aload_n 0, 1)]
set_option maxRecDepth 100000 in
theorem xi_ok171_2 : xi_ok cX8_next xi_171_2 = true := by decide +kernel
def xi_171_3 : XIs := [(91, .iload 4, 2), (93, .ifCond .eq 12, 3), (96, .aload_n 0, 1), (97, .getfield 25, 3), (100, .iconst 1, 1), (101, .iadd, 1), (102, .goto 7, 3), (105, .aload_n 0, 1), (106, .getfield 25, 3), (109, .invokevirtual 44, 3), (112, .ifCond .eq 11, 3), (115, .aload_n 0, 1), (116, .iload 4, 2), (118, .iload_n 1, 1), (119, .invokevirtual 48, 3), (122, .return_, 1)]
set_option maxRecDepth 100000 in
theorem xi_ok171_3 : xi_ok cX8_next xi_171_3 = true := by decide +kernel
def xi_171_4 : XIs := [(123, .aload_n 0, 1), (124, .dup, 1), (125, .getfield 25, 3), (128, .iconst 1, 1), (129, .iadd, 1), (130, .putfield 25, 3), (133, .iload_n 3, 1), (134, .bipush 97, 2), (136, .if_icmp .lt 23, 3), (139, .iload_n 3, 1), (140, .bipush 122, 2), (142, .if_icmp .gt 17, 3), (145, .aload_n 0, 1), (146, .iconst 1, 1), (147, .putfield 28, 3), (150, .aload_n 0, 1)]
set_option maxRecDepth 100000 in
theorem xi_ok171_4 : xi_ok cX8_next xi_171_4 = true := by decide +kernel
def xi_171_5 : XIs := [(151, .iload_n 3, 1), (152, .bipush 97, 2), (154, .isub, 1), (155, .putfield 38, 3), (158, .return_, 1), (159, .aload_n 0, 1), (160, .iload_n 3, 1), (161, .iload_n 2, 1), (162, .invokestatic 52, 3), (165, .ifCond .eq 7, 3), (168, .iconst 3, 1), (169, .goto 4, 3), (172, .iconst 4, 1), (173, .putfield 28, 3), (176, .aload_n 0, 1), (177, .iload_n 3, 1)]
set_option maxRecDepth 100000 in
theorem xi_ok171_5 : xi_ok cX8_next xi_171_5 = true := by decide +kernel
def xi_171_6 : XIs := [(178, .putfield 38, 3), (181, .return_, 1)]
set_option maxRecDepth 100000 in
theorem xi_ok171_6 : xi_ok cX8_next xi_171_6 = true := by decide +kernel
def xi_171 (pc : Nat) : XIs := cond (Nat.blt pc 91) (cond (Nat.blt pc 31) (xi_171_0) (cond (Nat.blt pc 63) (xi_171_1) (xi_171_2))) (cond (Nat.blt pc 151) (cond (Nat.blt pc 123) (xi_171_3) (xi_171_4)) (cond (Nat.blt pc 178) (xi_171_5) (xi_171_6)))
theorem xi_ok171 (pc : Nat) : xi_ok cX8_next (xi_171 pc) = true := xi_c (xi_c (xi_ok171_0) (xi_c (xi_ok171_1) (xi_ok171_2))) (xi_c (xi_c (xi_ok171_3) (xi_ok171_4)) (xi_c (xi_ok171_5) (xi_ok171_6)))
def xi_172_0 : XIs := [(0, .iload_n 1, 1), (1, .aload_n 0, 1), (2, .getfield 41, 3), (5, .if_icmp .ge 29, 3), (8, .aload_n 0, 1), (9, .getfield 9, 3), (12, .iload_n 1, 1), (13, .caload, 1), (14, .bipush 48, 2), (16, .if_icmp .lt 18, 3), (19, .aload_n 0, 1), (20, .getfield 9, 3), (23, .iload_n 1, 1), (24, .caload, 1), (25, .bipush 57, 2), (27, .if_icmp .gt 7, 3)]
set_option maxRecDepth 100000 in
theorem xi_ok172_0 : xi_ok cX8_isDigit xi_172_0 = true := by decide +kernel
def xi_172_1 : XIs := [(30, .iconst 1, 1), (31, .goto 4, 3), (34, .iconst 0, 1), (35, .ireturn, 1)]
set_option maxRecDepth 100000 in
theorem xi_ok172_1 : xi_ok cX8_isDigit xi_172_1 = true := by decide +kernel
def xi_172 (pc : Nat) : XIs := cond (Nat.blt pc 30) (xi_172_0) (xi_172_1)
theorem xi_ok172 (pc : Nat) : xi_ok cX8_isDigit (xi_172 pc) = true := xi_c (xi_ok172_0) (xi_ok172_1)
def xi_173_0 : XIs := [(0, .iconst 0, 1), (1, .istore_n 3, 1), (2, .iconst 0, 1), (3, .istore 4, 2), (5, .aload_n 0, 1), (6, .iload_n 1, 1), (7, .ifCond .eq 12, 3), (10, .aload_n 0, 1), (11, .getfield 25, 3), (14, .iconst 1, 1), (15, .iadd, 1), (16, .goto 7, 3), (19, .aload_n 0, 1), (20, .getfield 25, 3), (23, .putfield 25, 3), (26, .aload_n 0, 1)]
set_option maxRecDepth 100000 in
theorem xi_ok173_0 : xi_ok cX8_readNumber xi_173_0 = true := by decide +kernel
def xi_173_1 : XIs := [(27, .getfield 25, 3), (30, .aload_n 0, 1), (31, .getfield 41, 3), (34, .if_icmp .ge 55, 3), (37, .aload_n 0, 1), (38, .aload_n 0, 1), (39, .getfield 25, 3), (42, .invokevirtual 44, 3), (45, .ifCond .eq 44, 3), (48, .iinc 3 1, 3), (51, .iload_n 3, 1), (52, .iload_n 2, 1), (53, .if_icmp .gt 23, 3), (56, .iload 4, 2), (58, .bipush 10, 2), (60, .imul, 1)]
set_option maxRecDepth 100000 in
theorem xi_ok173_1 : xi_ok cX8_readNumber xi_173_1 = true := by decide +kernel
def xi_173_2 : XIs := [(61, .aload_n 0, 1), (62, .getfield 9, 3), (65, .aload_n 0, 1), (66, .getfield 25, 3), (69, .caload, 1), (70, .bipush 48, 2), (72, .isub, 1), (73, .iadd, 1), (74, .istore 4, 2), (76, .aload_n 0, 1), (77, .dup, 1), (78, .getfield 25, 3), (81, .iconst 1, 1), (82, .iadd, 1), (83, .putfield 25, 3), (86, .goto (-60), 3)]
set_option maxRecDepth 100000 in
theorem xi_ok173_2 : xi_ok cX8_readNumber xi_173_2 = true := by decide +kernel
def xi_173_3 : XIs := [(89, .aload_n 0, 1), (90, .iload_n 1, 1), (91, .ifCond .eq 9, 3), (94, .iload 4, 2), (96, .ineg, 1), (97, .goto 5, 3), (100, .iload 4, 2), (102, .putfield 38, 3), (105, .aload_n 0, 1), (106, .iload_n 3, 1), (107, .iload_n 2, 1), (108, .if_icmp .le 7, 3), (111, .iconst 5, 1), (112, .goto 4, 3), (115, .iconst 2, 1), (116, .putfield 28, 3)]
set_option maxRecDepth 100000 in
theorem xi_ok173_3 : xi_ok cX8_readNumber xi_173_3 = true := by decide +kernel
def xi_173_4 : XIs := [(119, .return_, 1)]
set_option maxRecDepth 100000 in
theorem xi_ok173_4 : xi_ok cX8_readNumber xi_173_4 = true := by decide +kernel
def xi_173 (pc : Nat) : XIs := cond (Nat.blt pc 61) (cond (Nat.blt pc 27) (xi_173_0) (xi_173_1)) (cond (Nat.blt pc 89) (xi_173_2) (cond (Nat.blt pc 119) (xi_173_3) (xi_173_4)))
theorem xi_ok173 (pc : Nat) : xi_ok cX8_readNumber (xi_173 pc) = true := xi_c (xi_c (xi_ok173_0) (xi_ok173_1)) (xi_c (xi_ok173_2) (xi_c (xi_ok173_3) (xi_ok173_4)))
def xi_174_0 : XIs := [(0, .iload_n 0, 1), (1, .bipush 59, 2), (3, .if_icmp .eq 16, 3), (6, .iload_n 1, 1), (7, .ifCond .ne 16, 3), (10, .ldc 56, 2), (12, .iload_n 0, 1), (13, .invokevirtual 58, 3), (16, .ifCond .lt 7, 3), (19, .iconst 1, 1), (20, .goto 4, 3), (23, .iconst 0, 1), (24, .ireturn, 1)]
set_option maxRecDepth 100000 in
theorem xi_ok174_0 : xi_ok cX8_isSign xi_174_0 = true := by decide +kernel
def xi_174 (pc : Nat) : XIs := xi_174_0
theorem xi_ok174 (pc : Nat) : xi_ok cX8_isSign (xi_174 pc) = true := xi_ok174_0
def xi_175_0 : XIs := [(0, .aload_n 0, 1), (1, .iconst 0, 1), (2, .putfield 64, 3), (5, .iconst 0, 1), (6, .istore_n 2, 1), (7, .iload_n 2, 1), (8, .aload_n 1, 1), (9, .getfield 67, 3), (12, .if_icmp .ge 25, 3), (15, .aload_n 0, 1), (16, .bipush 110, 2), (18, .invokevirtual 72, 3), (21, .aload_n 0, 1), (22, .aload_n 1, 1), (23, .getfield 76, 3), (26, .iload_n 2, 1)]
set_option maxRecDepth 100000 in
theorem xi_ok175_0 : xi_ok cX8_write xi_175_0 = true := by decide +kernel
def xi_175_1 : XIs := [(27, .iaload, 1), (28, .invokevirtual 80, 3), (31, .iinc 2 1, 3), (34, .goto (-27), 3), (37, .iconst 0, 1), (38, .istore_n 2, 1), (39, .iload_n 2, 1), (40, .aload_n 1, 1), (41, .getfield 84, 3), (44, .if_icmp .ge 75, 3), (47, .aload_n 1, 1), (48, .getfield 87, 3), (51, .iload_n 2, 1), (52, .iaload, 1), (53, .iconst (-1), 1), (54, .if_icmp .eq 59, 3)]
set_option maxRecDepth 100000 in
theorem xi_ok175_1 : xi_ok cX8_write xi_175_1 = true := by decide +kernel
def xi_175_2 : XIs := [(57, .aload_n 0, 1), (58, .bipush 97, 2), (60, .invokevirtual 72, 3), (63, .aload_n 0, 1), (64, .aload_n 1, 1), (65, .getfield 87, 3), (68, .iload_n 2, 1), (69, .iaload, 1), (70, .invokevirtual 90, 3), (73, .aload_n 0, 1), (74, .aload_n 1, 1), (75, .getfield 93, 3), (78, .iload_n 2, 1), (79, .iaload, 1), (80, .invokevirtual 90, 3), (83, .aload_n 0, 1)]
set_option maxRecDepth 100000 in
theorem xi_ok175_2 : xi_ok cX8_write xi_175_2 = true := by decide +kernel
def xi_175_3 : XIs := [(84, .aload_n 1, 1), (85, .getfield 96, 3), (88, .iload_n 2, 1), (89, .iaload, 1), (90, .invokevirtual 90, 3), (93, .aload_n 0, 1), (94, .aload_n 1, 1), (95, .getfield 99, 3), (98, .iload_n 2, 1), (99, .iaload, 1), (100, .invokevirtual 90, 3), (103, .aload_n 0, 1), (104, .aload_n 1, 1), (105, .getfield 102, 3), (108, .iload_n 2, 1), (109, .iaload, 1)]
set_option maxRecDepth 100000 in
theorem xi_ok175_3 : xi_ok cX8_write xi_175_3 = true := by decide +kernel
def xi_175_4 : XIs := [(110, .invokevirtual 80, 3), (113, .iinc 2 1, 3), (116, .goto (-77), 3), (119, .aload_n 0, 1), (120, .getfield 64, 3), (123, .ireturn, 1)]
set_option maxRecDepth 100000 in
theorem xi_ok175_4 : xi_ok cX8_write xi_175_4 = true := by decide +kernel
def xi_175 (pc : Nat) : XIs := cond (Nat.blt pc 57) (cond (Nat.blt pc 27) (xi_175_0) (xi_175_1)) (cond (Nat.blt pc 84) (xi_175_2) (cond (Nat.blt pc 110) (xi_175_3) (xi_175_4)))
theorem xi_ok175 (pc : Nat) : xi_ok cX8_write (xi_175 pc) = true := xi_c (xi_c (xi_ok175_0) (xi_ok175_1)) (xi_c (xi_ok175_2) (xi_c (xi_ok175_3) (xi_ok175_4)))
def xi_176_0 : XIs := [(0, .aload_n 0, 1), (1, .bipush 32, 2), (3, .invokevirtual 72, 3), (6, .aload_n 0, 1), (7, .bipush 97, 2), (9, .iload_n 1, 1), (10, .iadd, 1), (11, .i2c, 1), (12, .invokevirtual 72, 3), (15, .aload_n 0, 1), (16, .bipush 59, 2), (18, .invokevirtual 72, 3), (21, .return_, 1)]
set_option maxRecDepth 100000 in
theorem xi_ok176_0 : xi_ok cX8_endCommand xi_176_0 = true := by decide +kernel
def xi_176 (pc : Nat) : XIs := xi_176_0
theorem xi_ok176 (pc : Nat) : xi_ok cX8_endCommand (xi_176 pc) = true := xi_ok176_0
def xi_177_0 : XIs := [(0, .aload_n 0, 1), (1, .getfield 64, 3), (4, .aload_n 0, 1), (5, .getfield 22, 3), (8, .arraylength, 1), (9, .if_icmp .ge 23, 3), (12, .aload_n 0, 1), (13, .getfield 22, 3), (16, .aload_n 0, 1), (17, .getfield 64, 3), (20, .iload_n 1, 1), (21, .castore, 1), (22, .aload_n 0, 1), (23, .dup, 1), (24, .getfield 64, 3), (27, .iconst 1, 1)]
set_option maxRecDepth 100000 in
theorem xi_ok177_0 : xi_ok cX8_put xi_177_0 = true := by decide +kernel
def xi_177_1 : XIs := [(28, .iadd, 1), (29, .putfield 64, 3), (32, .return_, 1)]
set_option maxRecDepth 100000 in
theorem xi_ok177_1 : xi_ok cX8_put xi_177_1 = true := by decide +kernel
def xi_177 (pc : Nat) : XIs := cond (Nat.blt pc 28) (xi_177_0) (xi_177_1)
theorem xi_ok177 (pc : Nat) : xi_ok cX8_put (xi_177 pc) = true := xi_c (xi_ok177_0) (xi_ok177_1)
def xi_178_0 : XIs := [(0, .aload_n 0, 1), (1, .bipush 32, 2), (3, .invokevirtual 72, 3), (6, .iload_n 1, 1), (7, .ifCond .ge 9, 3), (10, .aload_n 0, 1), (11, .bipush 45, 2), (13, .invokevirtual 72, 3), (16, .iload_n 1, 1), (17, .invokestatic 105, 3), (20, .istore_n 2, 1), (21, .iconst 1, 1), (22, .istore_n 3, 1), (23, .iconst 0, 1), (24, .istore 4, 2), (26, .iload 4, 2)]
set_option maxRecDepth 100000 in
theorem xi_ok178_0 : xi_ok cX8_putNumber xi_178_0 = true := by decide +kernel
def xi_178_1 : XIs := [(28, .bipush 7, 2), (30, .if_icmp .ge 22, 3), (33, .iload_n 2, 1), (34, .iload_n 3, 1), (35, .idiv, 1), (36, .bipush 10, 2), (38, .if_icmp .lt 14, 3), (41, .iload_n 3, 1), (42, .bipush 10, 2), (44, .imul, 1), (45, .istore_n 3, 1), (46, .iinc 4 1, 3), (49, .goto (-23), 3), (52, .iload_n 3, 1), (53, .ifCond .le 25, 3), (56, .aload_n 0, 1)]
set_option maxRecDepth 100000 in
theorem xi_ok178_1 : xi_ok cX8_putNumber xi_178_1 = true := by decide +kernel
def xi_178_2 : XIs := [(57, .bipush 48, 2), (59, .iload_n 2, 1), (60, .iload_n 3, 1), (61, .idiv, 1), (62, .bipush 10, 2), (64, .irem, 1), (65, .iadd, 1), (66, .i2c, 1), (67, .invokevirtual 72, 3), (70, .iload_n 3, 1), (71, .bipush 10, 2), (73, .idiv, 1), (74, .istore_n 3, 1), (75, .goto (-23), 3), (78, .return_, 1)]
set_option maxRecDepth 100000 in
theorem xi_ok178_2 : xi_ok cX8_putNumber xi_178_2 = true := by decide +kernel
def xi_178 (pc : Nat) : XIs := cond (Nat.blt pc 28) (xi_178_0) (cond (Nat.blt pc 57) (xi_178_1) (xi_178_2))
theorem xi_ok178 (pc : Nat) : xi_ok cX8_putNumber (xi_178 pc) = true := xi_c (xi_ok178_0) (xi_c (xi_ok178_1) (xi_ok178_2))
def xi_179_0 : XIs := [(0, .aload_n 0, 1), (1, .invokespecial 3, 3), (4, .aload_n 0, 1), (5, .sipush 160, 3), (8, .newarray .int, 2), (10, .putfield 9, 3), (13, .aload_n 0, 1), (14, .sipush 160, 3), (17, .newarray .int, 2), (19, .putfield 15, 3), (22, .aload_n 0, 1), (23, .sipush 160, 3), (26, .newarray .long, 2), (28, .putfield 18, 3), (31, .aload_n 0, 1), (32, .bipush 32, 2)]
set_option maxRecDepth 100000 in
theorem xi_ok179_0 : xi_ok cX9_init xi_179_0 = true := by decide +kernel
def xi_179_1 : XIs := [(34, .newarray .long, 2), (36, .putfield 22, 3), (39, .aload_n 0, 1), (40, .bipush 32, 2), (42, .newarray .int, 2), (44, .putfield 25, 3), (47, .aload_n 0, 1), (48, .bipush 32, 2), (50, .newarray .int, 2), (52, .putfield 28, 3), (55, .aload_n 0, 1), (56, .bipush 32, 2), (58, .newarray .int, 2), (60, .putfield 31, 3), (63, .aload_n 0, 1), (64, .bipush 32, 2)]
set_option maxRecDepth 100000 in
theorem xi_ok179_1 : xi_ok cX9_init xi_179_1 = true := by decide +kernel
def xi_179_2 : XIs := [(66, .newarray .int, 2), (68, .putfield 34, 3), (71, .aload_n 0, 1), (72, .iconst (-1), 1), (73, .putfield 37, 3), (76, .aload_n 0, 1), (77, .sipush 1024, 3), (80, .newarray .long, 2), (82, .putfield 41, 3), (85, .return_, 1)]
set_option maxRecDepth 100000 in
theorem xi_ok179_2 : xi_ok cX9_init xi_179_2 = true := by decide +kernel
def xi_179 (pc : Nat) : XIs := cond (Nat.blt pc 34) (xi_179_0) (cond (Nat.blt pc 66) (xi_179_1) (xi_179_2))
theorem xi_ok179 (pc : Nat) : xi_ok cX9_init (xi_179 pc) = true := xi_c (xi_ok179_0) (xi_c (xi_ok179_1) (xi_ok179_2))
def xi_180_0 : XIs := [(0, .aload_n 0, 1), (1, .aload_n 1, 1), (2, .invokevirtual 44, 3), (5, .lconst 0, 1), (6, .lstore_n 3, 1), (7, .aload_n 1, 1), (8, .getfield 48, 3), (11, .istore 5, 2), (13, .iload_n 2, 1), (14, .istore 6, 2), (16, .iconst 0, 1), (17, .istore 7, 2), (19, .iload 7, 2), (21, .bipush 32, 2), (23, .if_icmp .ge 94, 3), (26, .aload_n 0, 1)]
set_option maxRecDepth 100000 in
theorem xi_ok180_0 : xi_ok cX9_leastRooted xi_180_0 = true := by decide +kernel
def xi_180_1 : XIs := [(27, .iload 5, 2), (29, .iload 6, 2), (31, .invokevirtual 53, 3), (34, .ifCond .ne 7, 3), (37, .ldc2_w 57, 3), (40, .lreturn, 1), (41, .iconst 0, 1), (42, .istore 8, 2), (44, .iload 8, 2), (46, .iload 5, 2), (48, .if_icmp .ge 19, 3), (51, .lload_n 3, 1), (52, .aload_n 0, 1), (53, .getfield 22, 3), (56, .iload 8, 2), (58, .laload, 1)]
set_option maxRecDepth 100000 in
theorem xi_ok180_1 : xi_ok cX9_leastRooted xi_180_1 = true := by decide +kernel
def xi_180_2 : XIs := [(59, .ladd, 1), (60, .lstore_n 3, 1), (61, .iinc 8 1, 3), (64, .goto (-20), 3), (67, .aload_n 0, 1), (68, .iload 5, 2), (70, .iload 6, 2), (72, .invokevirtual 59, 3), (75, .istore 8, 2), (77, .iload 8, 2), (79, .ifCond .ne 5, 3), (82, .lload_n 3, 1), (83, .lreturn, 1), (84, .aload_n 0, 1), (85, .iload 5, 2), (87, .iload 8, 2)]
set_option maxRecDepth 100000 in
theorem xi_ok180_2 : xi_ok cX9_leastRooted xi_180_2 = true := by decide +kernel
def xi_180_3 : XIs := [(89, .invokevirtual 63, 3), (92, .istore 9, 2), (94, .aload_n 0, 1), (95, .invokevirtual 66, 3), (98, .aload_n 0, 1), (99, .getfield 31, 3), (102, .iload 6, 2), (104, .iaload, 1), (105, .istore 6, 2), (107, .iload 9, 2), (109, .istore 5, 2), (111, .iinc 7 1, 3), (114, .goto (-95), 3), (117, .lload_n 3, 1), (118, .lreturn, 1)]
set_option maxRecDepth 100000 in
theorem xi_ok180_3 : xi_ok cX9_leastRooted xi_180_3 = true := by decide +kernel
def xi_180 (pc : Nat) : XIs := cond (Nat.blt pc 59) (cond (Nat.blt pc 27) (xi_180_0) (xi_180_1)) (cond (Nat.blt pc 89) (xi_180_2) (xi_180_3))
theorem xi_ok180 (pc : Nat) : xi_ok cX9_leastRooted (xi_180 pc) = true := xi_c (xi_c (xi_ok180_0) (xi_ok180_1)) (xi_c (xi_ok180_2) (xi_ok180_3))
def xi_181_0 : XIs := [(0, .aload_n 0, 1), (1, .iconst 0, 1), (2, .putfield 69, 3), (5, .iconst 0, 1), (6, .istore_n 2, 1), (7, .iload_n 2, 1), (8, .aload_n 1, 1), (9, .getfield 72, 3), (12, .if_icmp .ge 73, 3), (15, .aload_n 1, 1), (16, .iload_n 2, 1), (17, .invokevirtual 75, 3), (20, .ifCond .eq 59, 3), (23, .aload_n 0, 1), (24, .getfield 9, 3), (27, .aload_n 0, 1)]
set_option maxRecDepth 100000 in
theorem xi_ok181_0 : xi_ok cX9_copyArcs xi_181_0 = true := by decide +kernel
def xi_181_1 : XIs := [(28, .getfield 69, 3), (31, .aload_n 1, 1), (32, .getfield 79, 3), (35, .iload_n 2, 1), (36, .iaload, 1), (37, .iastore, 1), (38, .aload_n 0, 1), (39, .getfield 15, 3), (42, .aload_n 0, 1), (43, .getfield 69, 3), (46, .aload_n 1, 1), (47, .getfield 82, 3), (50, .iload_n 2, 1), (51, .iaload, 1), (52, .iastore, 1), (53, .aload_n 0, 1)]
set_option maxRecDepth 100000 in
theorem xi_ok181_1 : xi_ok cX9_copyArcs xi_181_1 = true := by decide +kernel
def xi_181_2 : XIs := [(54, .getfield 18, 3), (57, .aload_n 0, 1), (58, .getfield 69, 3), (61, .aload_n 1, 1), (62, .getfield 85, 3), (65, .iload_n 2, 1), (66, .iaload, 1), (67, .i2l, 1), (68, .lastore, 1), (69, .aload_n 0, 1), (70, .dup, 1), (71, .getfield 69, 3), (74, .iconst 1, 1), (75, .iadd, 1), (76, .putfield 69, 3), (79, .iinc 2 1, 3)]
set_option maxRecDepth 100000 in
theorem xi_ok181_2 : xi_ok cX9_copyArcs xi_181_2 = true := by decide +kernel
def xi_181_3 : XIs := [(82, .goto (-75), 3), (85, .return_, 1)]
set_option maxRecDepth 100000 in
theorem xi_ok181_3 : xi_ok cX9_copyArcs xi_181_3 = true := by decide +kernel
def xi_181 (pc : Nat) : XIs := cond (Nat.blt pc 54) (cond (Nat.blt pc 28) (xi_181_0) (xi_181_1)) (cond (Nat.blt pc 82) (xi_181_2) (xi_181_3))
theorem xi_ok181 (pc : Nat) : xi_ok cX9_copyArcs (xi_181 pc) = true := xi_c (xi_c (xi_ok181_0) (xi_ok181_1)) (xi_c (xi_ok181_2) (xi_ok181_3))
def xi_182_0 : XIs := [(0, .aload_n 0, 1), (1, .getfield 22, 3), (4, .ldc2_w 88, 3), (7, .invokestatic 90, 3), (10, .iconst 0, 1), (11, .istore_n 3, 1), (12, .iload_n 3, 1), (13, .aload_n 0, 1), (14, .getfield 69, 3), (17, .if_icmp .ge 79, 3), (20, .aload_n 0, 1), (21, .getfield 9, 3), (24, .iload_n 3, 1), (25, .iaload, 1), (26, .aload_n 0, 1), (27, .getfield 15, 3)]
set_option maxRecDepth 100000 in
theorem xi_ok182_0 : xi_ok cX9_takeCheapest xi_182_0 = true := by decide +kernel
def xi_182_1 : XIs := [(30, .iload_n 3, 1), (31, .iaload, 1), (32, .if_icmp .eq 58, 3), (35, .aload_n 0, 1), (36, .getfield 18, 3), (39, .iload_n 3, 1), (40, .laload, 1), (41, .aload_n 0, 1), (42, .getfield 22, 3), (45, .aload_n 0, 1), (46, .getfield 15, 3), (49, .iload_n 3, 1), (50, .iaload, 1), (51, .laload, 1), (52, .lcmp, 1), (53, .ifCond .ge 37, 3)]
set_option maxRecDepth 100000 in
theorem xi_ok182_1 : xi_ok cX9_takeCheapest xi_182_1 = true := by decide +kernel
def xi_182_2 : XIs := [(56, .aload_n 0, 1), (57, .getfield 22, 3), (60, .aload_n 0, 1), (61, .getfield 15, 3), (64, .iload_n 3, 1), (65, .iaload, 1), (66, .aload_n 0, 1), (67, .getfield 18, 3), (70, .iload_n 3, 1), (71, .laload, 1), (72, .lastore, 1), (73, .aload_n 0, 1), (74, .getfield 25, 3), (77, .aload_n 0, 1), (78, .getfield 15, 3), (81, .iload_n 3, 1)]
set_option maxRecDepth 100000 in
theorem xi_ok182_2 : xi_ok cX9_takeCheapest xi_182_2 = true := by decide +kernel
def xi_182_3 : XIs := [(82, .iaload, 1), (83, .aload_n 0, 1), (84, .getfield 9, 3), (87, .iload_n 3, 1), (88, .iaload, 1), (89, .iastore, 1), (90, .iinc 3 1, 3), (93, .goto (-81), 3), (96, .aload_n 0, 1), (97, .getfield 22, 3), (100, .iload_n 2, 1), (101, .lconst 0, 1), (102, .lastore, 1), (103, .iconst 0, 1), (104, .istore_n 3, 1), (105, .iload_n 3, 1)]
set_option maxRecDepth 100000 in
theorem xi_ok182_3 : xi_ok cX9_takeCheapest xi_182_3 = true := by decide +kernel
def xi_182_4 : XIs := [(106, .iload_n 1, 1), (107, .if_icmp .ge 24, 3), (110, .aload_n 0, 1), (111, .getfield 22, 3), (114, .iload_n 3, 1), (115, .laload, 1), (116, .ldc2_w 88, 3), (119, .lcmp, 1), (120, .ifCond .ne 5, 3), (123, .iconst 0, 1), (124, .ireturn, 1), (125, .iinc 3 1, 3), (128, .goto (-23), 3), (131, .iconst 1, 1), (132, .ireturn, 1)]
set_option maxRecDepth 100000 in
theorem xi_ok182_4 : xi_ok cX9_takeCheapest xi_182_4 = true := by decide +kernel
def xi_182 (pc : Nat) : XIs := cond (Nat.blt pc 56) (cond (Nat.blt pc 30) (xi_182_0) (xi_182_1)) (cond (Nat.blt pc 82) (xi_182_2) (cond (Nat.blt pc 106) (xi_182_3) (xi_182_4)))
theorem xi_ok182 (pc : Nat) : xi_ok cX9_takeCheapest (xi_182 pc) = true := xi_c (xi_c (xi_ok182_0) (xi_ok182_1)) (xi_c (xi_ok182_2) (xi_c (xi_ok182_3) (xi_ok182_4)))
