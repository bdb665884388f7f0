def xi_81_0 : XIs := [(0, .aload_n 0, 1), (1, .getfield 119, 3), (4, .sipush 160, 3), (7, .if_icmp .ge 64, 3), (10, .aload_n 0, 1), (11, .getfield 25, 3), (14, .aload_n 0, 1), (15, .getfield 119, 3), (18, .iload_n 1, 1), (19, .iastore, 1), (20, .aload_n 0, 1), (21, .getfield 28, 3), (24, .aload_n 0, 1), (25, .getfield 119, 3), (28, .iload_n 2, 1), (29, .iastore, 1)]
set_option maxRecDepth 100000 in
theorem xi_ok81_0 : xi_ok cX2_lay xi_81_0 = true := by decide +kernel
def xi_81_1 : XIs := [(30, .aload_n 0, 1), (31, .getfield 31, 3), (34, .aload_n 0, 1), (35, .getfield 119, 3), (38, .iload_n 3, 1), (39, .iastore, 1), (40, .aload_n 0, 1), (41, .getfield 34, 3), (44, .aload_n 0, 1), (45, .getfield 119, 3), (48, .iload 4, 2), (50, .iastore, 1), (51, .aload_n 0, 1), (52, .getfield 37, 3), (55, .aload_n 0, 1), (56, .getfield 119, 3)]
set_option maxRecDepth 100000 in
theorem xi_ok81_1 : xi_ok cX2_lay xi_81_1 = true := by decide +kernel
def xi_81_2 : XIs := [(59, .iconst 0, 1), (60, .iastore, 1), (61, .aload_n 0, 1), (62, .dup, 1), (63, .getfield 119, 3), (66, .iconst 1, 1), (67, .iadd, 1), (68, .putfield 119, 3), (71, .return_, 1)]
set_option maxRecDepth 100000 in
theorem xi_ok81_2 : xi_ok cX2_lay xi_81_2 = true := by decide +kernel
def xi_81 (pc : Nat) : XIs := cond (Nat.blt pc 30) (xi_81_0) (cond (Nat.blt pc 59) (xi_81_1) (xi_81_2))
theorem xi_ok81 (pc : Nat) : xi_ok cX2_lay (xi_81 pc) = true := xi_c (xi_ok81_0) (xi_c (xi_ok81_1) (xi_ok81_2))
def xi_82_0 : XIs := [(0, .iconst 0, 1), (1, .istore_n 2, 1), (2, .iload_n 2, 1), (3, .iload_n 1, 1), (4, .if_icmp .ge 38, 3), (7, .aload_n 0, 1), (8, .getfield 43, 3), (11, .iload_n 2, 1), (12, .aload_n 0, 1), (13, .getfield 40, 3), (16, .iload_n 2, 1), (17, .iaload, 1), (18, .ifCond .le 7, 3), (21, .lconst 0, 1), (22, .goto 6, 3), (25, .ldc2_w 143, 3)]
set_option maxRecDepth 100000 in
theorem xi_ok82_0 : xi_ok cX2_nearestLack xi_82_0 = true := by decide +kernel
def xi_82_1 : XIs := [(28, .lastore, 1), (29, .aload_n 0, 1), (30, .getfield 22, 3), (33, .iload_n 2, 1), (34, .iconst (-1), 1), (35, .iastore, 1), (36, .iinc 2 1, 3), (39, .goto (-37), 3), (42, .iconst 1, 1), (43, .istore_n 2, 1), (44, .iconst 0, 1), (45, .istore_n 3, 1), (46, .iload_n 3, 1), (47, .iload_n 1, 1), (48, .if_icmp .gt 42, 3), (51, .iload_n 2, 1)]
set_option maxRecDepth 100000 in
theorem xi_ok82_1 : xi_ok cX2_nearestLack xi_82_1 = true := by decide +kernel
def xi_82_2 : XIs := [(52, .ifCond .eq 38, 3), (55, .iconst 0, 1), (56, .istore_n 2, 1), (57, .iconst 0, 1), (58, .istore 4, 2), (60, .iload 4, 2), (62, .aload_n 0, 1), (63, .getfield 119, 3), (66, .if_icmp .ge 18, 3), (69, .iload_n 2, 1), (70, .aload_n 0, 1), (71, .iload 4, 2), (73, .invokevirtual 145, 3), (76, .ior, 1), (77, .istore_n 2, 1), (78, .iinc 4 1, 3)]
set_option maxRecDepth 100000 in
theorem xi_ok82_2 : xi_ok cX2_nearestLack xi_82_2 = true := by decide +kernel
def xi_82_3 : XIs := [(81, .goto (-21), 3), (84, .iinc 3 1, 3), (87, .goto (-41), 3), (90, .iconst (-1), 1), (91, .istore_n 3, 1), (92, .iconst 0, 1), (93, .istore 4, 2), (95, .iload 4, 2), (97, .iload_n 1, 1), (98, .if_icmp .ge 58, 3), (101, .aload_n 0, 1), (102, .getfield 40, 3), (105, .iload 4, 2), (107, .iaload, 1), (108, .ifCond .ge 42, 3), (111, .aload_n 0, 1)]
set_option maxRecDepth 100000 in
theorem xi_ok82_3 : xi_ok cX2_nearestLack xi_82_3 = true := by decide +kernel
def xi_82_4 : XIs := [(112, .getfield 43, 3), (115, .iload 4, 2), (117, .laload, 1), (118, .ldc2_w 143, 3), (121, .lcmp, 1), (122, .ifCond .eq 28, 3), (125, .iload_n 3, 1), (126, .iconst (-1), 1), (127, .if_icmp .eq 20, 3), (130, .aload_n 0, 1), (131, .getfield 43, 3), (134, .iload 4, 2), (136, .laload, 1), (137, .aload_n 0, 1), (138, .getfield 43, 3), (141, .iload_n 3, 1)]
set_option maxRecDepth 100000 in
theorem xi_ok82_4 : xi_ok cX2_nearestLack xi_82_4 = true := by decide +kernel
def xi_82_5 : XIs := [(142, .laload, 1), (143, .lcmp, 1), (144, .ifCond .ge 6, 3), (147, .iload 4, 2), (149, .istore_n 3, 1), (150, .iinc 4 1, 3), (153, .goto (-58), 3), (156, .iload_n 3, 1), (157, .ireturn, 1)]
set_option maxRecDepth 100000 in
theorem xi_ok82_5 : xi_ok cX2_nearestLack xi_82_5 = true := by decide +kernel
def xi_82 (pc : Nat) : XIs := cond (Nat.blt pc 81) (cond (Nat.blt pc 28) (xi_82_0) (cond (Nat.blt pc 52) (xi_82_1) (xi_82_2))) (cond (Nat.blt pc 112) (xi_82_3) (cond (Nat.blt pc 142) (xi_82_4) (xi_82_5)))
theorem xi_ok82 (pc : Nat) : xi_ok cX2_nearestLack (xi_82 pc) = true := xi_c (xi_c (xi_ok82_0) (xi_c (xi_ok82_1) (xi_ok82_2))) (xi_c (xi_ok82_3) (xi_c (xi_ok82_4) (xi_ok82_5)))
def xi_83_0 : XIs := [(0, .aload_n 0, 1), (1, .getfield 25, 3), (4, .iload_n 1, 1), (5, .iaload, 1), (6, .istore_n 2, 1), (7, .aload_n 0, 1), (8, .getfield 28, 3), (11, .iload_n 1, 1), (12, .iaload, 1), (13, .istore_n 3, 1), (14, .aload_n 0, 1), (15, .getfield 37, 3), (18, .iload_n 1, 1), (19, .iaload, 1), (20, .aload_n 0, 1), (21, .getfield 34, 3)]
set_option maxRecDepth 100000 in
theorem xi_ok83_0 : xi_ok cX2_relaxPipe xi_83_0 = true := by decide +kernel
def xi_83_1 : XIs := [(24, .iload_n 1, 1), (25, .iaload, 1), (26, .if_icmp .ge 71, 3), (29, .aload_n 0, 1), (30, .getfield 43, 3), (33, .iload_n 2, 1), (34, .laload, 1), (35, .ldc2_w 143, 3), (38, .lcmp, 1), (39, .ifCond .eq 58, 3), (42, .aload_n 0, 1), (43, .getfield 43, 3), (46, .iload_n 2, 1), (47, .laload, 1), (48, .aload_n 0, 1), (49, .getfield 31, 3)]
set_option maxRecDepth 100000 in
theorem xi_ok83_1 : xi_ok cX2_relaxPipe xi_83_1 = true := by decide +kernel
def xi_83_2 : XIs := [(52, .iload_n 1, 1), (53, .iaload, 1), (54, .i2l, 1), (55, .ladd, 1), (56, .aload_n 0, 1), (57, .getfield 43, 3), (60, .iload_n 3, 1), (61, .laload, 1), (62, .lcmp, 1), (63, .ifCond .ge 34, 3), (66, .aload_n 0, 1), (67, .getfield 43, 3), (70, .iload_n 3, 1), (71, .aload_n 0, 1), (72, .getfield 43, 3), (75, .iload_n 2, 1)]
set_option maxRecDepth 100000 in
theorem xi_ok83_2 : xi_ok cX2_relaxPipe xi_83_2 = true := by decide +kernel
def xi_83_3 : XIs := [(76, .laload, 1), (77, .aload_n 0, 1), (78, .getfield 31, 3), (81, .iload_n 1, 1), (82, .iaload, 1), (83, .i2l, 1), (84, .ladd, 1), (85, .lastore, 1), (86, .aload_n 0, 1), (87, .getfield 22, 3), (90, .iload_n 3, 1), (91, .iconst 2, 1), (92, .iload_n 1, 1), (93, .imul, 1), (94, .iastore, 1), (95, .iconst 1, 1)]
set_option maxRecDepth 100000 in
theorem xi_ok83_3 : xi_ok cX2_relaxPipe xi_83_3 = true := by decide +kernel
def xi_83_4 : XIs := [(96, .ireturn, 1), (97, .aload_n 0, 1), (98, .getfield 37, 3), (101, .iload_n 1, 1), (102, .iaload, 1), (103, .ifCond .le 73, 3), (106, .aload_n 0, 1), (107, .getfield 43, 3), (110, .iload_n 3, 1), (111, .laload, 1), (112, .ldc2_w 143, 3), (115, .lcmp, 1), (116, .ifCond .eq 60, 3), (119, .aload_n 0, 1), (120, .getfield 43, 3), (123, .iload_n 3, 1)]
set_option maxRecDepth 100000 in
theorem xi_ok83_4 : xi_ok cX2_relaxPipe xi_83_4 = true := by decide +kernel
def xi_83_5 : XIs := [(124, .laload, 1), (125, .aload_n 0, 1), (126, .getfield 31, 3), (129, .iload_n 1, 1), (130, .iaload, 1), (131, .i2l, 1), (132, .lsub, 1), (133, .aload_n 0, 1), (134, .getfield 43, 3), (137, .iload_n 2, 1), (138, .laload, 1), (139, .lcmp, 1), (140, .ifCond .ge 36, 3), (143, .aload_n 0, 1), (144, .getfield 43, 3), (147, .iload_n 2, 1)]
set_option maxRecDepth 100000 in
theorem xi_ok83_5 : xi_ok cX2_relaxPipe xi_83_5 = true := by decide +kernel
def xi_83_6 : XIs := [(148, .aload_n 0, 1), (149, .getfield 43, 3), (152, .iload_n 3, 1), (153, .laload, 1), (154, .aload_n 0, 1), (155, .getfield 31, 3), (158, .iload_n 1, 1), (159, .iaload, 1), (160, .i2l, 1), (161, .lsub, 1), (162, .lastore, 1), (163, .aload_n 0, 1), (164, .getfield 22, 3), (167, .iload_n 2, 1), (168, .iconst 2, 1), (169, .iload_n 1, 1)]
set_option maxRecDepth 100000 in
theorem xi_ok83_6 : xi_ok cX2_relaxPipe xi_83_6 = true := by decide +kernel
def xi_83_7 : XIs := [(170, .imul, 1), (171, .iconst 1, 1), (172, .iadd, 1), (173, .iastore, 1), (174, .iconst 1, 1), (175, .ireturn, 1), (176, .iconst 0, 1), (177, .ireturn, 1)]
set_option maxRecDepth 100000 in
theorem xi_ok83_7 : xi_ok cX2_relaxPipe xi_83_7 = true := by decide +kernel
def xi_83 (pc : Nat) : XIs := cond (Nat.blt pc 96) (cond (Nat.blt pc 52) (cond (Nat.blt pc 24) (xi_83_0) (xi_83_1)) (cond (Nat.blt pc 76) (xi_83_2) (xi_83_3))) (cond (Nat.blt pc 148) (cond (Nat.blt pc 124) (xi_83_4) (xi_83_5)) (cond (Nat.blt pc 170) (xi_83_6) (xi_83_7)))
theorem xi_ok83 (pc : Nat) : xi_ok cX2_relaxPipe (xi_83 pc) = true := xi_c (xi_c (xi_c (xi_ok83_0) (xi_ok83_1)) (xi_c (xi_ok83_2) (xi_ok83_3))) (xi_c (xi_c (xi_ok83_4) (xi_ok83_5)) (xi_c (xi_ok83_6) (xi_ok83_7)))
def xi_84_0 : XIs := [(0, .aload_n 0, 1), (1, .getfield 40, 3), (4, .iload_n 1, 1), (5, .iaload, 1), (6, .ineg, 1), (7, .istore_n 2, 1), (8, .iload_n 1, 1), (9, .istore_n 3, 1), (10, .iconst 0, 1), (11, .istore 4, 2), (13, .iload 4, 2), (15, .bipush 32, 2), (17, .if_icmp .ge 105, 3), (20, .aload_n 0, 1), (21, .getfield 22, 3), (24, .iload_n 3, 1)]
set_option maxRecDepth 100000 in
theorem xi_ok84_0 : xi_ok cX2_carryTo xi_84_0 = true := by decide +kernel
def xi_84_1 : XIs := [(25, .iaload, 1), (26, .iconst (-1), 1), (27, .if_icmp .eq 95, 3), (30, .aload_n 0, 1), (31, .getfield 22, 3), (34, .iload_n 3, 1), (35, .iaload, 1), (36, .iconst 1, 1), (37, .ishr, 1), (38, .istore 5, 2), (40, .aload_n 0, 1), (41, .getfield 22, 3), (44, .iload_n 3, 1), (45, .iaload, 1), (46, .iconst 1, 1), (47, .iand, 1)]
set_option maxRecDepth 100000 in
theorem xi_ok84_1 : xi_ok cX2_carryTo xi_84_1 = true := by decide +kernel
def xi_84_2 : XIs := [(48, .ifCond .ne 7, 3), (51, .iconst 1, 1), (52, .goto 4, 3), (55, .iconst 0, 1), (56, .istore 6, 2), (58, .iload_n 2, 1), (59, .iload 6, 2), (61, .ifCond .eq 21, 3), (64, .aload_n 0, 1), (65, .getfield 34, 3), (68, .iload 5, 2), (70, .iaload, 1), (71, .aload_n 0, 1), (72, .getfield 37, 3), (75, .iload 5, 2), (77, .iaload, 1)]
set_option maxRecDepth 100000 in
theorem xi_ok84_2 : xi_ok cX2_carryTo xi_84_2 = true := by decide +kernel
def xi_84_3 : XIs := [(78, .isub, 1), (79, .goto 10, 3), (82, .aload_n 0, 1), (83, .getfield 37, 3), (86, .iload 5, 2), (88, .iaload, 1), (89, .invokestatic 108, 3), (92, .istore_n 2, 1), (93, .iload 6, 2), (95, .ifCond .eq 13, 3), (98, .aload_n 0, 1), (99, .getfield 25, 3), (102, .iload 5, 2), (104, .iaload, 1), (105, .goto 10, 3), (108, .aload_n 0, 1)]
set_option maxRecDepth 100000 in
theorem xi_ok84_3 : xi_ok cX2_carryTo xi_84_3 = true := by decide +kernel
def xi_84_4 : XIs := [(109, .getfield 28, 3), (112, .iload 5, 2), (114, .iaload, 1), (115, .istore_n 3, 1), (116, .iinc 4 1, 3), (119, .goto (-106), 3), (122, .iload_n 2, 1), (123, .aload_n 0, 1), (124, .getfield 40, 3), (127, .iload_n 3, 1), (128, .iaload, 1), (129, .invokestatic 108, 3), (132, .istore_n 2, 1), (133, .aload_n 0, 1), (134, .getfield 40, 3), (137, .iload_n 3, 1)]
set_option maxRecDepth 100000 in
theorem xi_ok84_4 : xi_ok cX2_carryTo xi_84_4 = true := by decide +kernel
def xi_84_5 : XIs := [(138, .dup2, 1), (139, .iaload, 1), (140, .iload_n 2, 1), (141, .isub, 1), (142, .iastore, 1), (143, .aload_n 0, 1), (144, .getfield 40, 3), (147, .iload_n 1, 1), (148, .dup2, 1), (149, .iaload, 1), (150, .iload_n 2, 1), (151, .iadd, 1), (152, .iastore, 1), (153, .iload_n 1, 1), (154, .istore_n 3, 1), (155, .iconst 0, 1)]
set_option maxRecDepth 100000 in
theorem xi_ok84_5 : xi_ok cX2_carryTo xi_84_5 = true := by decide +kernel
def xi_84_6 : XIs := [(156, .istore 4, 2), (158, .iload 4, 2), (160, .bipush 32, 2), (162, .if_icmp .ge 91, 3), (165, .aload_n 0, 1), (166, .getfield 22, 3), (169, .iload_n 3, 1), (170, .iaload, 1), (171, .iconst (-1), 1), (172, .if_icmp .eq 81, 3), (175, .aload_n 0, 1), (176, .getfield 22, 3), (179, .iload_n 3, 1), (180, .iaload, 1), (181, .iconst 1, 1), (182, .ishr, 1)]
set_option maxRecDepth 100000 in
theorem xi_ok84_6 : xi_ok cX2_carryTo xi_84_6 = true := by decide +kernel
def xi_84_7 : XIs := [(183, .istore 5, 2), (185, .aload_n 0, 1), (186, .getfield 22, 3), (189, .iload_n 3, 1), (190, .iaload, 1), (191, .iconst 1, 1), (192, .iand, 1), (193, .ifCond .ne 7, 3), (196, .iconst 1, 1), (197, .goto 4, 3), (200, .iconst 0, 1), (201, .istore 6, 2), (203, .aload_n 0, 1), (204, .getfield 37, 3), (207, .iload 5, 2), (209, .dup2, 1)]
set_option maxRecDepth 100000 in
theorem xi_ok84_7 : xi_ok cX2_carryTo xi_84_7 = true := by decide +kernel
def xi_84_8 : XIs := [(210, .iaload, 1), (211, .iload 6, 2), (213, .ifCond .eq 7, 3), (216, .iload_n 2, 1), (217, .goto 5, 3), (220, .iload_n 2, 1), (221, .ineg, 1), (222, .iadd, 1), (223, .iastore, 1), (224, .iload 6, 2), (226, .ifCond .eq 13, 3), (229, .aload_n 0, 1), (230, .getfield 25, 3), (233, .iload 5, 2), (235, .iaload, 1), (236, .goto 10, 3)]
set_option maxRecDepth 100000 in
theorem xi_ok84_8 : xi_ok cX2_carryTo xi_84_8 = true := by decide +kernel
def xi_84_9 : XIs := [(239, .aload_n 0, 1), (240, .getfield 28, 3), (243, .iload 5, 2), (245, .iaload, 1), (246, .istore_n 3, 1), (247, .iinc 4 1, 3), (250, .goto (-92), 3), (253, .aload_n 0, 1), (254, .getfield 43, 3), (257, .iload_n 1, 1), (258, .laload, 1), (259, .iload_n 2, 1), (260, .i2l, 1), (261, .lmul, 1), (262, .lreturn, 1)]
set_option maxRecDepth 100000 in
theorem xi_ok84_9 : xi_ok cX2_carryTo xi_84_9 = true := by decide +kernel
def xi_84 (pc : Nat) : XIs := cond (Nat.blt pc 138) (cond (Nat.blt pc 48) (cond (Nat.blt pc 25) (xi_84_0) (xi_84_1)) (cond (Nat.blt pc 78) (xi_84_2) (cond (Nat.blt pc 109) (xi_84_3) (xi_84_4)))) (cond (Nat.blt pc 183) (cond (Nat.blt pc 156) (xi_84_5) (xi_84_6)) (cond (Nat.blt pc 210) (xi_84_7) (cond (Nat.blt pc 239) (xi_84_8) (xi_84_9))))
theorem xi_ok84 (pc : Nat) : xi_ok cX2_carryTo (xi_84 pc) = true := xi_c (xi_c (xi_c (xi_ok84_0) (xi_ok84_1)) (xi_c (xi_ok84_2) (xi_c (xi_ok84_3) (xi_ok84_4)))) (xi_c (xi_c (xi_ok84_5) (xi_ok84_6)) (xi_c (xi_ok84_7) (xi_c (xi_ok84_8) (xi_ok84_9))))
def xi_85_0 : XIs := [(0, .aload_n 0, 1), (1, .getfield 47, 3), (4, .aload_n 1, 1), (5, .getfield 50, 3), (8, .if_icmp .ne 4, 3), (11, .return_, 1), (12, .aload_n 0, 1), (13, .aload_n 1, 1), (14, .getfield 50, 3), (17, .putfield 47, 3), (20, .aload_n 0, 1), (21, .iconst 0, 1), (22, .putfield 148, 3), (25, .aload_n 0, 1), (26, .lconst 0, 1), (27, .putfield 151, 3)]
set_option maxRecDepth 100000 in
theorem xi_ok85_0 : xi_ok cX2_pair xi_85_0 = true := by decide +kernel
def xi_85_1 : XIs := [(30, .aload_n 0, 1), (31, .iconst 0, 1), (32, .putfield 119, 3), (35, .iconst 0, 1), (36, .istore_n 2, 1), (37, .iload_n 2, 1), (38, .aload_n 1, 1), (39, .getfield 126, 3), (42, .if_icmp .ge 28, 3), (45, .aload_n 0, 1), (46, .getfield 40, 3), (49, .iload_n 2, 1), (50, .aload_n 1, 1), (51, .iload_n 2, 1), (52, .invokestatic 154, 3), (55, .ifCond .eq 7, 3)]
set_option maxRecDepth 100000 in
theorem xi_ok85_1 : xi_ok cX2_pair xi_85_1 = true := by decide +kernel
def xi_85_2 : XIs := [(58, .iconst 1, 1), (59, .goto 4, 3), (62, .iconst (-1), 1), (63, .iastore, 1), (64, .iinc 2 1, 3), (67, .goto (-30), 3), (70, .iconst 0, 1), (71, .istore_n 2, 1), (72, .iload_n 2, 1), (73, .aload_n 1, 1), (74, .getfield 84, 3), (77, .if_icmp .ge 100, 3), (80, .aload_n 1, 1), (81, .iload_n 2, 1), (82, .invokevirtual 87, 3), (85, .ifCond .eq 86, 3)]
set_option maxRecDepth 100000 in
theorem xi_ok85_2 : xi_ok cX2_pair xi_85_2 = true := by decide +kernel
def xi_85_3 : XIs := [(88, .aload_n 1, 1), (89, .aload_n 1, 1), (90, .getfield 94, 3), (93, .iload_n 2, 1), (94, .iaload, 1), (95, .invokestatic 154, 3), (98, .aload_n 1, 1), (99, .aload_n 1, 1), (100, .getfield 97, 3), (103, .iload_n 2, 1), (104, .iaload, 1), (105, .invokestatic 154, 3), (108, .if_icmp .eq 63, 3), (111, .aload_n 1, 1), (112, .aload_n 1, 1), (113, .getfield 94, 3)]
set_option maxRecDepth 100000 in
theorem xi_ok85_3 : xi_ok cX2_pair xi_85_3 = true := by decide +kernel
def xi_85_4 : XIs := [(116, .iload_n 2, 1), (117, .iaload, 1), (118, .invokestatic 154, 3), (121, .istore_n 3, 1), (122, .aload_n 0, 1), (123, .iload_n 3, 1), (124, .ifCond .eq 12, 3), (127, .aload_n 1, 1), (128, .getfield 94, 3), (131, .iload_n 2, 1), (132, .iaload, 1), (133, .goto 9, 3), (136, .aload_n 1, 1), (137, .getfield 97, 3), (140, .iload_n 2, 1), (141, .iaload, 1)]
set_option maxRecDepth 100000 in
theorem xi_ok85_4 : xi_ok cX2_pair xi_85_4 = true := by decide +kernel
def xi_85_5 : XIs := [(142, .iload_n 3, 1), (143, .ifCond .eq 12, 3), (146, .aload_n 1, 1), (147, .getfield 97, 3), (150, .iload_n 2, 1), (151, .iaload, 1), (152, .goto 9, 3), (155, .aload_n 1, 1), (156, .getfield 94, 3), (159, .iload_n 2, 1), (160, .iaload, 1), (161, .aload_n 1, 1), (162, .getfield 136, 3), (165, .iload_n 2, 1), (166, .iaload, 1), (167, .iconst 1, 1)]
set_option maxRecDepth 100000 in
theorem xi_ok85_5 : xi_ok cX2_pair xi_85_5 = true := by decide +kernel
def xi_85_6 : XIs := [(168, .invokevirtual 139, 3), (171, .iinc 2 1, 3), (174, .goto (-102), 3), (177, .iconst 0, 1), (178, .istore_n 2, 1), (179, .iload_n 2, 1), (180, .bipush 32, 2), (182, .if_icmp .ge 48, 3), (185, .aload_n 0, 1), (186, .aload_n 1, 1), (187, .getfield 126, 3), (190, .invokevirtual 129, 3), (193, .istore_n 3, 1), (194, .iload_n 3, 1), (195, .iconst (-1), 1), (196, .if_icmp .ne 4, 3)]
set_option maxRecDepth 100000 in
theorem xi_ok85_6 : xi_ok cX2_pair xi_85_6 = true := by decide +kernel
def xi_85_7 : XIs := [(199, .return_, 1), (200, .aload_n 0, 1), (201, .dup, 1), (202, .getfield 151, 3), (205, .aload_n 0, 1), (206, .iload_n 3, 1), (207, .invokevirtual 132, 3), (210, .ladd, 1), (211, .putfield 151, 3), (214, .aload_n 0, 1), (215, .dup, 1), (216, .getfield 148, 3), (219, .iconst 1, 1), (220, .iadd, 1), (221, .putfield 148, 3), (224, .iinc 2 1, 3)]
set_option maxRecDepth 100000 in
theorem xi_ok85_7 : xi_ok cX2_pair xi_85_7 = true := by decide +kernel
def xi_85_8 : XIs := [(227, .goto (-48), 3), (230, .return_, 1)]
set_option maxRecDepth 100000 in
theorem xi_ok85_8 : xi_ok cX2_pair xi_85_8 = true := by decide +kernel
def xi_85 (pc : Nat) : XIs := cond (Nat.blt pc 116) (cond (Nat.blt pc 58) (cond (Nat.blt pc 30) (xi_85_0) (xi_85_1)) (cond (Nat.blt pc 88) (xi_85_2) (xi_85_3))) (cond (Nat.blt pc 168) (cond (Nat.blt pc 142) (xi_85_4) (xi_85_5)) (cond (Nat.blt pc 199) (xi_85_6) (cond (Nat.blt pc 227) (xi_85_7) (xi_85_8))))
theorem xi_ok85 (pc : Nat) : xi_ok cX2_pair (xi_85 pc) = true := xi_c (xi_c (xi_c (xi_ok85_0) (xi_ok85_1)) (xi_c (xi_ok85_2) (xi_ok85_3))) (xi_c (xi_c (xi_ok85_4) (xi_ok85_5)) (xi_c (xi_ok85_6) (xi_c (xi_ok85_7) (xi_ok85_8))))
def xi_86_0 : XIs := [(0, .aload_n 0, 1), (1, .getfield 158, 3), (4, .iload_n 1, 1), (5, .iaload, 1), (6, .bipush 13, 2), (8, .if_icmp .ge 7, 3), (11, .iconst 1, 1), (12, .goto 4, 3), (15, .iconst 0, 1), (16, .ireturn, 1)]
set_option maxRecDepth 100000 in
theorem xi_ok86_0 : xi_ok cX2_isLow xi_86_0 = true := by decide +kernel
def xi_86 (pc : Nat) : XIs := xi_86_0
theorem xi_ok86 (pc : Nat) : xi_ok cX2_isLow (xi_86 pc) = true := xi_ok86_0
def xi_87_0 : XIs := [(0, .aload_n 0, 1), (1, .invokespecial 3, 3), (4, .aload_n 0, 1), (5, .bipush 32, 2), (7, .newarray .int, 2), (9, .putfield 9, 3), (12, .aload_n 0, 1), (13, .sipush 160, 3), (16, .newarray .int, 2), (18, .putfield 15, 3), (21, .aload_n 0, 1), (22, .sipush 160, 3), (25, .newarray .int, 2), (27, .putfield 18, 3), (30, .aload_n 0, 1), (31, .sipush 160, 3)]
set_option maxRecDepth 100000 in
theorem xi_ok87_0 : xi_ok cX3_init xi_87_0 = true := by decide +kernel
def xi_87_1 : XIs := [(34, .newarray .int, 2), (36, .putfield 21, 3), (39, .aload_n 0, 1), (40, .sipush 160, 3), (43, .newarray .int, 2), (45, .putfield 24, 3), (48, .aload_n 0, 1), (49, .sipush 160, 3), (52, .newarray .int, 2), (54, .putfield 27, 3), (57, .aload_n 0, 1), (58, .bipush 32, 2), (60, .newarray .int, 2), (62, .putfield 30, 3), (65, .aload_n 0, 1), (66, .bipush 32, 2)]
set_option maxRecDepth 100000 in
theorem xi_ok87_1 : xi_ok cX3_init xi_87_1 = true := by decide +kernel
def xi_87_2 : XIs := [(68, .newarray .int, 2), (70, .putfield 33, 3), (73, .aload_n 0, 1), (74, .bipush 32, 2), (76, .newarray .int, 2), (78, .putfield 36, 3), (81, .aload_n 0, 1), (82, .bipush 33, 2), (84, .newarray .int, 2), (86, .putfield 39, 3), (89, .aload_n 0, 1), (90, .sipush 160, 3), (93, .newarray .int, 2), (95, .putfield 42, 3), (98, .aload_n 0, 1), (99, .bipush 33, 2)]
set_option maxRecDepth 100000 in
theorem xi_ok87_2 : xi_ok cX3_init xi_87_2 = true := by decide +kernel
def xi_87_3 : XIs := [(101, .newarray .int, 2), (103, .putfield 45, 3), (106, .aload_n 0, 1), (107, .sipush 160, 3), (110, .newarray .int, 2), (112, .putfield 48, 3), (115, .aload_n 0, 1), (116, .iconst (-1), 1), (117, .putfield 51, 3), (120, .aload_n 0, 1), (121, .getfield 15, 3), (124, .iconst (-1), 1), (125, .invokestatic 55, 3), (128, .return_, 1)]
set_option maxRecDepth 100000 in
theorem xi_ok87_3 : xi_ok cX3_init xi_87_3 = true := by decide +kernel
def xi_87 (pc : Nat) : XIs := cond (Nat.blt pc 68) (cond (Nat.blt pc 34) (xi_87_0) (xi_87_1)) (cond (Nat.blt pc 101) (xi_87_2) (xi_87_3))
theorem xi_ok87 (pc : Nat) : xi_ok cX3_init (xi_87 pc) = true := xi_c (xi_c (xi_ok87_0) (xi_ok87_1)) (xi_c (xi_ok87_2) (xi_ok87_3))
def xi_88_0 : XIs := [(0, .aload_n 0, 1), (1, .iconst 0, 1), (2, .putfield 61, 3), (5, .aload_n 0, 1), (6, .iconst 0, 1), (7, .putfield 64, 3), (10, .aload_n 0, 1), (11, .iconst 0, 1), (12, .putfield 67, 3), (15, .aload_n 0, 1), (16, .iconst 0, 1), (17, .putfield 70, 3), (20, .aload_n 0, 1), (21, .iconst (-1), 1), (22, .putfield 51, 3), (25, .aload_n 0, 1)]
set_option maxRecDepth 100000 in
theorem xi_ok88_0 : xi_ok cX3_clear xi_88_0 = true := by decide +kernel
def xi_88_1 : XIs := [(26, .getfield 15, 3), (29, .iconst (-1), 1), (30, .invokestatic 55, 3), (33, .return_, 1)]
set_option maxRecDepth 100000 in
theorem xi_ok88_1 : xi_ok cX3_clear xi_88_1 = true := by decide +kernel
def xi_88 (pc : Nat) : XIs := cond (Nat.blt pc 26) (xi_88_0) (xi_88_1)
theorem xi_ok88 (pc : Nat) : xi_ok cX3_clear (xi_88 pc) = true := xi_c (xi_ok88_0) (xi_ok88_1)
def xi_89_0 : XIs := [(0, .aload_n 0, 1), (1, .aload_n 1, 1), (2, .getfield 61, 3), (5, .putfield 61, 3), (8, .aload_n 0, 1), (9, .aload_n 1, 1), (10, .getfield 64, 3), (13, .putfield 64, 3), (16, .aload_n 0, 1), (17, .aload_n 1, 1), (18, .getfield 67, 3), (21, .putfield 67, 3), (24, .aload_n 0, 1), (25, .aload_n 1, 1), (26, .getfield 70, 3), (29, .putfield 70, 3)]
set_option maxRecDepth 100000 in
theorem xi_ok89_0 : xi_ok cX3_copyOf xi_89_0 = true := by decide +kernel
def xi_89_1 : XIs := [(32, .aload_n 0, 1), (33, .iconst (-1), 1), (34, .putfield 51, 3), (37, .aload_n 1, 1), (38, .getfield 9, 3), (41, .iconst 0, 1), (42, .aload_n 0, 1), (43, .getfield 9, 3), (46, .iconst 0, 1), (47, .bipush 32, 2), (49, .invokestatic 73, 3), (52, .aload_n 1, 1), (53, .getfield 15, 3), (56, .iconst 0, 1), (57, .aload_n 0, 1), (58, .getfield 15, 3)]
set_option maxRecDepth 100000 in
theorem xi_ok89_1 : xi_ok cX3_copyOf xi_89_1 = true := by decide +kernel
def xi_89_2 : XIs := [(61, .iconst 0, 1), (62, .sipush 160, 3), (65, .invokestatic 73, 3), (68, .aload_n 1, 1), (69, .getfield 18, 3), (72, .iconst 0, 1), (73, .aload_n 0, 1), (74, .getfield 18, 3), (77, .iconst 0, 1), (78, .sipush 160, 3), (81, .invokestatic 73, 3), (84, .aload_n 1, 1), (85, .getfield 21, 3), (88, .iconst 0, 1), (89, .aload_n 0, 1), (90, .getfield 21, 3)]
set_option maxRecDepth 100000 in
theorem xi_ok89_2 : xi_ok cX3_copyOf xi_89_2 = true := by decide +kernel
def xi_89_3 : XIs := [(93, .iconst 0, 1), (94, .sipush 160, 3), (97, .invokestatic 73, 3), (100, .aload_n 1, 1), (101, .getfield 24, 3), (104, .iconst 0, 1), (105, .aload_n 0, 1), (106, .getfield 24, 3), (109, .iconst 0, 1), (110, .sipush 160, 3), (113, .invokestatic 73, 3), (116, .aload_n 1, 1), (117, .getfield 27, 3), (120, .iconst 0, 1), (121, .aload_n 0, 1), (122, .getfield 27, 3)]
set_option maxRecDepth 100000 in
theorem xi_ok89_3 : xi_ok cX3_copyOf xi_89_3 = true := by decide +kernel
def xi_89_4 : XIs := [(125, .iconst 0, 1), (126, .sipush 160, 3), (129, .invokestatic 73, 3), (132, .return_, 1)]
set_option maxRecDepth 100000 in
theorem xi_ok89_4 : xi_ok cX3_copyOf xi_89_4 = true := by decide +kernel
def xi_89 (pc : Nat) : XIs := cond (Nat.blt pc 61) (cond (Nat.blt pc 32) (xi_89_0) (xi_89_1)) (cond (Nat.blt pc 93) (xi_89_2) (cond (Nat.blt pc 125) (xi_89_3) (xi_89_4)))
theorem xi_ok89 (pc : Nat) : xi_ok cX3_copyOf (xi_89 pc) = true := xi_c (xi_c (xi_ok89_0) (xi_ok89_1)) (xi_c (xi_ok89_2) (xi_c (xi_ok89_3) (xi_ok89_4)))
def xi_90_0 : XIs := [(0, .iload_n 1, 1), (1, .ifCond .lt 15, 3), (4, .iload_n 1, 1), (5, .aload_n 0, 1), (6, .getfield 64, 3), (9, .if_icmp .ge 7, 3), (12, .iconst 1, 1), (13, .goto 4, 3), (16, .iconst 0, 1), (17, .ireturn, 1)]
set_option maxRecDepth 100000 in
theorem xi_ok90_0 : xi_ok cX3_hasNode xi_90_0 = true := by decide +kernel
def xi_90 (pc : Nat) : XIs := xi_90_0
theorem xi_ok90 (pc : Nat) : xi_ok cX3_hasNode (xi_90 pc) = true := xi_ok90_0
def xi_91_0 : XIs := [(0, .aload_n 0, 1), (1, .iload_n 1, 1), (2, .invokevirtual 79, 3), (5, .ifCond .eq 20, 3), (8, .aload_n 0, 1), (9, .iload_n 2, 1), (10, .invokevirtual 79, 3), (13, .ifCond .eq 12, 3), (16, .iload_n 1, 1), (17, .iload_n 2, 1), (18, .if_icmp .eq 7, 3), (21, .iconst 1, 1), (22, .goto 4, 3), (25, .iconst 0, 1), (26, .ireturn, 1)]
set_option maxRecDepth 100000 in
theorem xi_ok91_0 : xi_ok cX3_hasTwo xi_91_0 = true := by decide +kernel
def xi_91 (pc : Nat) : XIs := xi_91_0
theorem xi_ok91 (pc : Nat) : xi_ok cX3_hasTwo (xi_91 pc) = true := xi_ok91_0
def xi_92_0 : XIs := [(0, .iload_n 1, 1), (1, .ifCond .lt 25, 3), (4, .iload_n 1, 1), (5, .aload_n 0, 1), (6, .getfield 70, 3), (9, .if_icmp .ge 17, 3), (12, .aload_n 0, 1), (13, .getfield 15, 3), (16, .iload_n 1, 1), (17, .iaload, 1), (18, .iconst (-1), 1), (19, .if_icmp .eq 7, 3), (22, .iconst 1, 1), (23, .goto 4, 3), (26, .iconst 0, 1), (27, .ireturn, 1)]
set_option maxRecDepth 100000 in
theorem xi_ok92_0 : xi_ok cX3_hasArc xi_92_0 = true := by decide +kernel
def xi_92 (pc : Nat) : XIs := xi_92_0
theorem xi_ok92 (pc : Nat) : xi_ok cX3_hasArc (xi_92 pc) = true := xi_ok92_0
def xi_93_0 : XIs := [(0, .aload_n 0, 1), (1, .getfield 15, 3), (4, .iload_n 1, 1), (5, .iaload, 1), (6, .iconst (-1), 1), (7, .if_icmp .eq 22, 3), (10, .aload_n 0, 1), (11, .getfield 15, 3), (14, .iload_n 1, 1), (15, .iaload, 1), (16, .aload_n 0, 1), (17, .getfield 18, 3), (20, .iload_n 1, 1), (21, .iaload, 1), (22, .if_icmp .eq 7, 3), (25, .iconst 1, 1)]
set_option maxRecDepth 100000 in
theorem xi_ok93_0 : xi_ok cX3_isJoint xi_93_0 = true := by decide +kernel
def xi_93_1 : XIs := [(26, .goto 4, 3), (29, .iconst 0, 1), (30, .ireturn, 1)]
set_option maxRecDepth 100000 in
theorem xi_ok93_1 : xi_ok cX3_isJoint xi_93_1 = true := by decide +kernel
def xi_93 (pc : Nat) : XIs := cond (Nat.blt pc 26) (xi_93_0) (xi_93_1)
theorem xi_ok93 (pc : Nat) : xi_ok cX3_isJoint (xi_93 pc) = true := xi_c (xi_ok93_0) (xi_ok93_1)
def xi_94_0 : XIs := [(0, .iconst 0, 1), (1, .istore_n 1, 1), (2, .iconst 0, 1), (3, .istore_n 2, 1), (4, .iload_n 2, 1), (5, .aload_n 0, 1), (6, .getfield 70, 3), (9, .if_icmp .ge 20, 3), (12, .aload_n 0, 1), (13, .iload_n 2, 1), (14, .invokevirtual 83, 3), (17, .ifCond .eq 6, 3), (20, .iinc 1 1, 3), (23, .iinc 2 1, 3), (26, .goto (-22), 3), (29, .iload_n 1, 1)]
set_option maxRecDepth 100000 in
theorem xi_ok94_0 : xi_ok cX3_joints xi_94_0 = true := by decide +kernel
def xi_94_1 : XIs := [(30, .ireturn, 1)]
set_option maxRecDepth 100000 in
theorem xi_ok94_1 : xi_ok cX3_joints xi_94_1 = true := by decide +kernel
def xi_94 (pc : Nat) : XIs := cond (Nat.blt pc 30) (xi_94_0) (xi_94_1)
theorem xi_ok94 (pc : Nat) : xi_ok cX3_joints (xi_94 pc) = true := xi_c (xi_ok94_0) (xi_ok94_1)
def xi_95_0 : XIs := [(0, .aload_n 1, 1), (1, .iconst 0, 1), (2, .invokestatic 55, 3), (5, .iconst 0, 1), (6, .istore_n 2, 1), (7, .iload_n 2, 1), (8, .aload_n 0, 1), (9, .getfield 70, 3), (12, .if_icmp .ge 41, 3), (15, .aload_n 0, 1), (16, .iload_n 2, 1), (17, .invokevirtual 83, 3), (20, .ifCond .eq 27, 3), (23, .aload_n 1, 1), (24, .aload_n 0, 1), (25, .getfield 15, 3)]
set_option maxRecDepth 100000 in
theorem xi_ok95_0 : xi_ok cX3_countJoints xi_95_0 = true := by decide +kernel
def xi_95_1 : XIs := [(28, .iload_n 2, 1), (29, .iaload, 1), (30, .dup2, 1), (31, .iaload, 1), (32, .iconst 1, 1), (33, .iadd, 1), (34, .iastore, 1), (35, .aload_n 1, 1), (36, .aload_n 0, 1), (37, .getfield 18, 3), (40, .iload_n 2, 1), (41, .iaload, 1), (42, .dup2, 1), (43, .iaload, 1), (44, .iconst 1, 1), (45, .iadd, 1)]
set_option maxRecDepth 100000 in
theorem xi_ok95_1 : xi_ok cX3_countJoints xi_95_1 = true := by decide +kernel
def xi_95_2 : XIs := [(46, .iastore, 1), (47, .iinc 2 1, 3), (50, .goto (-43), 3), (53, .return_, 1)]
set_option maxRecDepth 100000 in
theorem xi_ok95_2 : xi_ok cX3_countJoints xi_95_2 = true := by decide +kernel
def xi_95 (pc : Nat) : XIs := cond (Nat.blt pc 28) (xi_95_0) (cond (Nat.blt pc 46) (xi_95_1) (xi_95_2))
theorem xi_ok95 (pc : Nat) : xi_ok cX3_countJoints (xi_95 pc) = true := xi_c (xi_ok95_0) (xi_c (xi_ok95_1) (xi_ok95_2))
def xi_96_0 : XIs := [(0, .iload_n 2, 1), (1, .ifCond .ne 10, 3), (4, .aload_n 0, 1), (5, .getfield 21, 3), (8, .iload_n 1, 1), (9, .iaload, 1), (10, .ireturn, 1), (11, .iload_n 2, 1), (12, .iconst 1, 1), (13, .if_icmp .ne 12, 3), (16, .aload_n 0, 1), (17, .getfield 24, 3), (20, .iload_n 1, 1), (21, .iaload, 1), (22, .goto 9, 3), (25, .aload_n 0, 1)]
set_option maxRecDepth 100000 in
theorem xi_ok96_0 : xi_ok cX3_valueOf xi_96_0 = true := by decide +kernel
def xi_96_1 : XIs := [(26, .getfield 27, 3), (29, .iload_n 1, 1), (30, .iaload, 1), (31, .ireturn, 1)]
set_option maxRecDepth 100000 in
theorem xi_ok96_1 : xi_ok cX3_valueOf xi_96_1 = true := by decide +kernel
def xi_96 (pc : Nat) : XIs := cond (Nat.blt pc 26) (xi_96_0) (xi_96_1)
theorem xi_ok96 (pc : Nat) : xi_ok cX3_valueOf (xi_96 pc) = true := xi_c (xi_ok96_0) (xi_ok96_1)
def xi_97_0 : XIs := [(0, .iconst 0, 1), (1, .istore_n 1, 1), (2, .iload_n 1, 1), (3, .sipush 160, 3), (6, .if_icmp .ge 21, 3), (9, .aload_n 0, 1), (10, .getfield 15, 3), (13, .iload_n 1, 1), (14, .iaload, 1), (15, .iconst (-1), 1), (16, .if_icmp .ne 5, 3), (19, .iload_n 1, 1), (20, .ireturn, 1), (21, .iinc 1 1, 3), (24, .goto (-22), 3), (27, .iconst (-1), 1)]
set_option maxRecDepth 100000 in
theorem xi_ok97_0 : xi_ok cX3_freePlace xi_97_0 = true := by decide +kernel
def xi_97_1 : XIs := [(28, .ireturn, 1)]
set_option maxRecDepth 100000 in
theorem xi_ok97_1 : xi_ok cX3_freePlace xi_97_1 = true := by decide +kernel
def xi_97 (pc : Nat) : XIs := cond (Nat.blt pc 28) (xi_97_0) (xi_97_1)
theorem xi_ok97 (pc : Nat) : xi_ok cX3_freePlace (xi_97 pc) = true := xi_c (xi_ok97_0) (xi_ok97_1)
def xi_98_0 : XIs := [(0, .aload_n 0, 1), (1, .getfield 64, 3), (4, .bipush 32, 2), (6, .if_icmp .lt 7, 3), (9, .iconst (-1), 1), (10, .goto 11, 3), (13, .iconst 1, 1), (14, .aload_n 0, 1), (15, .getfield 64, 3), (18, .ishl, 1), (19, .iconst 1, 1), (20, .isub, 1), (21, .ireturn, 1)]
set_option maxRecDepth 100000 in
theorem xi_ok98_0 : xi_ok cX3_allNodes xi_98_0 = true := by decide +kernel
def xi_98 (pc : Nat) : XIs := xi_98_0
theorem xi_ok98 (pc : Nat) : xi_ok cX3_allNodes (xi_98 pc) = true := xi_ok98_0
def xi_99_0 : XIs := [(0, .aload_n 0, 1), (1, .getfield 39, 3), (4, .iload_n 1, 1), (5, .iconst 1, 1), (6, .iadd, 1), (7, .iaload, 1), (8, .aload_n 0, 1), (9, .getfield 39, 3), (12, .iload_n 1, 1), (13, .iaload, 1), (14, .isub, 1), (15, .ireturn, 1)]
set_option maxRecDepth 100000 in
theorem xi_ok99_0 : xi_ok cX3_outCount xi_99_0 = true := by decide +kernel
def xi_99 (pc : Nat) : XIs := xi_99_0
theorem xi_ok99 (pc : Nat) : xi_ok cX3_outCount (xi_99 pc) = true := xi_ok99_0
def xi_100_0 : XIs := [(0, .aload_n 0, 1), (1, .getfield 45, 3), (4, .iload_n 1, 1), (5, .iconst 1, 1), (6, .iadd, 1), (7, .iaload, 1), (8, .aload_n 0, 1), (9, .getfield 45, 3), (12, .iload_n 1, 1), (13, .iaload, 1), (14, .isub, 1), (15, .ireturn, 1)]
set_option maxRecDepth 100000 in
theorem xi_ok100_0 : xi_ok cX3_inCount xi_100_0 = true := by decide +kernel
def xi_100 (pc : Nat) : XIs := xi_100_0
theorem xi_ok100 (pc : Nat) : xi_ok cX3_inCount (xi_100 pc) = true := xi_ok100_0
def xi_101_0 : XIs := [(0, .aload_n 0, 1), (1, .getfield 15, 3), (4, .iload_n 1, 1), (5, .iconst (-1), 1), (6, .iastore, 1), (7, .aload_n 0, 1), (8, .dup, 1), (9, .getfield 67, 3), (12, .iconst 1, 1), (13, .isub, 1), (14, .putfield 67, 3), (17, .aload_n 0, 1), (18, .getfield 70, 3), (21, .ifCond .le 31, 3), (24, .aload_n 0, 1), (25, .getfield 15, 3)]
set_option maxRecDepth 100000 in
theorem xi_ok101_0 : xi_ok cX3_dropAt xi_101_0 = true := by decide +kernel
def xi_101_1 : XIs := [(28, .aload_n 0, 1), (29, .getfield 70, 3), (32, .iconst 1, 1), (33, .isub, 1), (34, .iaload, 1), (35, .iconst (-1), 1), (36, .if_icmp .ne 16, 3), (39, .aload_n 0, 1), (40, .dup, 1), (41, .getfield 70, 3), (44, .iconst 1, 1), (45, .isub, 1), (46, .putfield 70, 3), (49, .goto (-32), 3), (52, .return_, 1)]
set_option maxRecDepth 100000 in
theorem xi_ok101_1 : xi_ok cX3_dropAt xi_101_1 = true := by decide +kernel
def xi_101 (pc : Nat) : XIs := cond (Nat.blt pc 28) (xi_101_0) (xi_101_1)
theorem xi_ok101 (pc : Nat) : xi_ok cX3_dropAt (xi_101 pc) = true := xi_c (xi_ok101_0) (xi_ok101_1)
def xi_102_0 : XIs := [(0, .aload_n 0, 1), (1, .getfield 51, 3), (4, .aload_n 0, 1), (5, .getfield 61, 3), (8, .if_icmp .ne 4, 3), (11, .return_, 1), (12, .aload_n 0, 1), (13, .aload_n 0, 1), (14, .getfield 61, 3), (17, .putfield 51, 3), (20, .aload_n 0, 1), (21, .getfield 30, 3), (24, .iconst 0, 1), (25, .invokestatic 55, 3), (28, .aload_n 0, 1), (29, .getfield 33, 3)]
set_option maxRecDepth 100000 in
theorem xi_ok102_0 : xi_ok cX3_tie xi_102_0 = true := by decide +kernel
def xi_102_1 : XIs := [(32, .iconst 0, 1), (33, .invokestatic 55, 3), (36, .aload_n 0, 1), (37, .getfield 36, 3), (40, .iconst 0, 1), (41, .invokestatic 55, 3), (44, .aload_n 0, 1), (45, .getfield 39, 3), (48, .iconst 0, 1), (49, .invokestatic 55, 3), (52, .aload_n 0, 1), (53, .getfield 45, 3), (56, .iconst 0, 1), (57, .invokestatic 55, 3), (60, .iconst 0, 1), (61, .istore_n 1, 1)]
set_option maxRecDepth 100000 in
theorem xi_ok102_1 : xi_ok cX3_tie xi_102_1 = true := by decide +kernel
def xi_102_2 : XIs := [(62, .iload_n 1, 1), (63, .aload_n 0, 1), (64, .getfield 70, 3), (67, .if_icmp .ge 35, 3), (70, .aload_n 0, 1), (71, .getfield 15, 3), (74, .iload_n 1, 1), (75, .iaload, 1), (76, .iconst (-1), 1), (77, .if_icmp .eq 19, 3), (80, .aload_n 0, 1), (81, .aload_n 0, 1), (82, .getfield 15, 3), (85, .iload_n 1, 1), (86, .iaload, 1), (87, .aload_n 0, 1)]
set_option maxRecDepth 100000 in
theorem xi_ok102_2 : xi_ok cX3_tie xi_102_2 = true := by decide +kernel
def xi_102_3 : XIs := [(88, .getfield 18, 3), (91, .iload_n 1, 1), (92, .iaload, 1), (93, .invokevirtual 86, 3), (96, .iinc 1 1, 3), (99, .goto (-37), 3), (102, .iconst 1, 1), (103, .istore_n 1, 1), (104, .iload_n 1, 1), (105, .bipush 32, 2), (107, .if_icmp .gt 43, 3), (110, .aload_n 0, 1), (111, .getfield 39, 3), (114, .iload_n 1, 1), (115, .dup2, 1), (116, .iaload, 1)]
set_option maxRecDepth 100000 in
theorem xi_ok102_3 : xi_ok cX3_tie xi_102_3 = true := by decide +kernel
def xi_102_4 : XIs := [(117, .aload_n 0, 1), (118, .getfield 39, 3), (121, .iload_n 1, 1), (122, .iconst 1, 1), (123, .isub, 1), (124, .iaload, 1), (125, .iadd, 1), (126, .iastore, 1), (127, .aload_n 0, 1), (128, .getfield 45, 3), (131, .iload_n 1, 1), (132, .dup2, 1), (133, .iaload, 1), (134, .aload_n 0, 1), (135, .getfield 45, 3), (138, .iload_n 1, 1)]
set_option maxRecDepth 100000 in
theorem xi_ok102_4 : xi_ok cX3_tie xi_102_4 = true := by decide +kernel
def xi_102_5 : XIs := [(139, .iconst 1, 1), (140, .isub, 1), (141, .iaload, 1), (142, .iadd, 1), (143, .iastore, 1), (144, .iinc 1 1, 3), (147, .goto (-43), 3), (150, .aload_n 0, 1), (151, .getfield 70, 3), (154, .iconst 1, 1), (155, .isub, 1), (156, .istore_n 1, 1), (157, .iload_n 1, 1), (158, .ifCond .lt 83, 3), (161, .aload_n 0, 1), (162, .getfield 15, 3)]
set_option maxRecDepth 100000 in
theorem xi_ok102_5 : xi_ok cX3_tie xi_102_5 = true := by decide +kernel
def xi_102_6 : XIs := [(165, .iload_n 1, 1), (166, .iaload, 1), (167, .iconst (-1), 1), (168, .if_icmp .eq 67, 3), (171, .aload_n 0, 1), (172, .getfield 39, 3), (175, .aload_n 0, 1), (176, .getfield 15, 3), (179, .iload_n 1, 1), (180, .iaload, 1), (181, .dup2, 1), (182, .iaload, 1), (183, .iconst 1, 1), (184, .isub, 1), (185, .iastore, 1), (186, .aload_n 0, 1)]
set_option maxRecDepth 100000 in
theorem xi_ok102_6 : xi_ok cX3_tie xi_102_6 = true := by decide +kernel
def xi_102_7 : XIs := [(187, .getfield 42, 3), (190, .aload_n 0, 1), (191, .getfield 39, 3), (194, .aload_n 0, 1), (195, .getfield 15, 3), (198, .iload_n 1, 1), (199, .iaload, 1), (200, .iaload, 1), (201, .iload_n 1, 1), (202, .iastore, 1), (203, .aload_n 0, 1), (204, .getfield 45, 3), (207, .aload_n 0, 1), (208, .getfield 18, 3), (211, .iload_n 1, 1), (212, .iaload, 1)]
set_option maxRecDepth 100000 in
theorem xi_ok102_7 : xi_ok cX3_tie xi_102_7 = true := by decide +kernel
def xi_102_8 : XIs := [(213, .dup2, 1), (214, .iaload, 1), (215, .iconst 1, 1), (216, .isub, 1), (217, .iastore, 1), (218, .aload_n 0, 1), (219, .getfield 48, 3), (222, .aload_n 0, 1), (223, .getfield 45, 3), (226, .aload_n 0, 1), (227, .getfield 18, 3), (230, .iload_n 1, 1), (231, .iaload, 1), (232, .iaload, 1), (233, .iload_n 1, 1), (234, .iastore, 1)]
set_option maxRecDepth 100000 in
theorem xi_ok102_8 : xi_ok cX3_tie xi_102_8 = true := by decide +kernel
def xi_102_9 : XIs := [(235, .iinc 1 (-1), 3), (238, .goto (-81), 3), (241, .return_, 1)]
set_option maxRecDepth 100000 in
theorem xi_ok102_9 : xi_ok cX3_tie xi_102_9 = true := by decide +kernel
def xi_102 (pc : Nat) : XIs := cond (Nat.blt pc 139) (cond (Nat.blt pc 62) (cond (Nat.blt pc 32) (xi_102_0) (xi_102_1)) (cond (Nat.blt pc 88) (xi_102_2) (cond (Nat.blt pc 117) (xi_102_3) (xi_102_4)))) (cond (Nat.blt pc 187) (cond (Nat.blt pc 165) (xi_102_5) (xi_102_6)) (cond (Nat.blt pc 213) (xi_102_7) (cond (Nat.blt pc 235) (xi_102_8) (xi_102_9))))
theorem xi_ok102 (pc : Nat) : xi_ok cX3_tie (xi_102 pc) = true := xi_c (xi_c (xi_c (xi_ok102_0) (xi_ok102_1)) (xi_c (xi_ok102_2) (xi_c (xi_ok102_3) (xi_ok102_4)))) (xi_c (xi_c (xi_ok102_5) (xi_ok102_6)) (xi_c (xi_ok102_7) (xi_c (xi_ok102_8) (xi_ok102_9))))
def xi_103_0 : XIs := [(0, .aload_n 0, 1), (1, .getfield 39, 3), (4, .iload_n 1, 1), (5, .dup2, 1), (6, .iaload, 1), (7, .iconst 1, 1), (8, .iadd, 1), (9, .iastore, 1), (10, .aload_n 0, 1), (11, .getfield 45, 3), (14, .iload_n 2, 1), (15, .dup2, 1), (16, .iaload, 1), (17, .iconst 1, 1), (18, .iadd, 1), (19, .iastore, 1)]
set_option maxRecDepth 100000 in
theorem xi_ok103_0 : xi_ok cX3_tieEnds xi_103_0 = true := by decide +kernel
def xi_103_1 : XIs := [(20, .aload_n 0, 1), (21, .getfield 33, 3), (24, .iload_n 1, 1), (25, .dup2, 1), (26, .iaload, 1), (27, .iconst 1, 1), (28, .iload_n 2, 1), (29, .ishl, 1), (30, .ior, 1), (31, .iastore, 1), (32, .aload_n 0, 1), (33, .getfield 36, 3), (36, .iload_n 2, 1), (37, .dup2, 1), (38, .iaload, 1), (39, .iconst 1, 1)]
set_option maxRecDepth 100000 in
theorem xi_ok103_1 : xi_ok cX3_tieEnds xi_103_1 = true := by decide +kernel
def xi_103_2 : XIs := [(40, .iload_n 1, 1), (41, .ishl, 1), (42, .ior, 1), (43, .iastore, 1), (44, .iload_n 1, 1), (45, .iload_n 2, 1), (46, .if_icmp .eq 27, 3), (49, .aload_n 0, 1), (50, .getfield 30, 3), (53, .iload_n 1, 1), (54, .dup2, 1), (55, .iaload, 1), (56, .iconst 1, 1), (57, .iload_n 2, 1), (58, .ishl, 1), (59, .ior, 1)]
set_option maxRecDepth 100000 in
theorem xi_ok103_2 : xi_ok cX3_tieEnds xi_103_2 = true := by decide +kernel
def xi_103_3 : XIs := [(60, .iastore, 1), (61, .aload_n 0, 1), (62, .getfield 30, 3), (65, .iload_n 2, 1), (66, .dup2, 1), (67, .iaload, 1), (68, .iconst 1, 1), (69, .iload_n 1, 1), (70, .ishl, 1), (71, .ior, 1), (72, .iastore, 1), (73, .return_, 1)]
set_option maxRecDepth 100000 in
theorem xi_ok103_3 : xi_ok cX3_tieEnds xi_103_3 = true := by decide +kernel
def xi_103 (pc : Nat) : XIs := cond (Nat.blt pc 40) (cond (Nat.blt pc 20) (xi_103_0) (xi_103_1)) (cond (Nat.blt pc 60) (xi_103_2) (xi_103_3))
theorem xi_ok103 (pc : Nat) : xi_ok cX3_tieEnds (xi_103 pc) = true := xi_c (xi_c (xi_ok103_0) (xi_ok103_1)) (xi_c (xi_ok103_2) (xi_ok103_3))
def xi_104_0 : XIs := [(0, .aload_n 0, 1), (1, .invokespecial 3, 3), (4, .aload_n 0, 1), (5, .iconst (-1), 1), (6, .putfield 9, 3), (9, .aload_n 0, 1), (10, .bipush 32, 2), (12, .newarray .long, 2), (14, .putfield 15, 3), (17, .aload_n 0, 1), (18, .bipush 32, 2), (20, .newarray .long, 2), (22, .putfield 19, 3), (25, .aload_n 0, 1), (26, .iconst (-1), 1), (27, .putfield 22, 3)]
set_option maxRecDepth 100000 in
theorem xi_ok104_0 : xi_ok cX4_init xi_104_0 = true := by decide +kernel
def xi_104_1 : XIs := [(30, .aload_n 0, 1), (31, .bipush 32, 2), (33, .newarray .int, 2), (35, .putfield 25, 3), (38, .aload_n 0, 1), (39, .bipush 32, 2), (41, .newarray .int, 2), (43, .putfield 29, 3), (46, .aload_n 0, 1), (47, .bipush 32, 2), (49, .newarray .int, 2), (51, .putfield 32, 3), (54, .aload_n 0, 1), (55, .bipush 32, 2), (57, .newarray .int, 2), (59, .putfield 35, 3)]
set_option maxRecDepth 100000 in
theorem xi_ok104_1 : xi_ok cX4_init xi_104_1 = true := by decide +kernel
def xi_104_2 : XIs := [(62, .aload_n 0, 1), (63, .bipush 32, 2), (65, .newarray .int, 2), (67, .putfield 38, 3), (70, .return_, 1)]
set_option maxRecDepth 100000 in
theorem xi_ok104_2 : xi_ok cX4_init xi_104_2 = true := by decide +kernel
def xi_104 (pc : Nat) : XIs := cond (Nat.blt pc 30) (xi_104_0) (cond (Nat.blt pc 62) (xi_104_1) (xi_104_2))
theorem xi_ok104 (pc : Nat) : xi_ok cX4_init (xi_104 pc) = true := xi_c (xi_ok104_0) (xi_c (xi_ok104_1) (xi_ok104_2))
def xi_105_0 : XIs := [(0, .aload_n 0, 1), (1, .getfield 9, 3), (4, .aload_n 1, 1), (5, .getfield 41, 3), (8, .if_icmp .ne 11, 3), (11, .iload_n 3, 1), (12, .aload_n 0, 1), (13, .getfield 46, 3), (16, .if_icmp .ge 26, 3), (19, .aload_n 0, 1), (20, .aload_n 1, 1), (21, .getfield 41, 3), (24, .putfield 9, 3), (27, .aload_n 0, 1), (28, .iconst 0, 1), (29, .putfield 46, 3)]
set_option maxRecDepth 100000 in
theorem xi_ok105_0 : xi_ok cX4_unitsOf xi_105_0 = true := by decide +kernel
def xi_105_1 : XIs := [(32, .aload_n 0, 1), (33, .getfield 15, 3), (36, .ldc2_w 49, 3), (39, .invokestatic 51, 3), (42, .aload_n 1, 1), (43, .invokevirtual 57, 3), (46, .aload_n 0, 1), (47, .getfield 46, 3), (50, .iload_n 3, 1), (51, .if_icmp .ge 21, 3), (54, .aload_n 0, 1), (55, .aload_n 1, 1), (56, .invokevirtual 60, 3), (59, .aload_n 0, 1), (60, .dup, 1), (61, .getfield 46, 3)]
set_option maxRecDepth 100000 in
theorem xi_ok105_1 : xi_ok cX4_unitsOf xi_105_1 = true := by decide +kernel
def xi_105_2 : XIs := [(64, .iconst 1, 1), (65, .iadd, 1), (66, .putfield 46, 3), (69, .goto (-23), 3), (72, .aload_n 0, 1), (73, .getfield 15, 3), (76, .iload_n 2, 1), (77, .laload, 1), (78, .lreturn, 1)]
set_option maxRecDepth 100000 in
theorem xi_ok105_2 : xi_ok cX4_unitsOf xi_105_2 = true := by decide +kernel
def xi_105 (pc : Nat) : XIs := cond (Nat.blt pc 32) (xi_105_0) (cond (Nat.blt pc 64) (xi_105_1) (xi_105_2))
theorem xi_ok105 (pc : Nat) : xi_ok cX4_unitsOf (xi_105 pc) = true := xi_c (xi_ok105_0) (xi_c (xi_ok105_1) (xi_ok105_2))
def xi_106_0 : XIs := [(0, .lconst 0, 1), (1, .lstore_n 2, 1), (2, .aload_n 0, 1), (3, .getfield 19, 3), (6, .lconst 0, 1), (7, .invokestatic 51, 3), (10, .iconst 0, 1), (11, .istore 4, 2), (13, .iload 4, 2), (15, .aload_n 1, 1), (16, .getfield 64, 3), (19, .if_icmp .ge 115, 3), (22, .aload_n 1, 1), (23, .iload 4, 2), (25, .invokevirtual 67, 3), (28, .istore 5, 2)]
set_option maxRecDepth 100000 in
theorem xi_ok106_0 : xi_ok cX4_shareOut xi_106_0 = true := by decide +kernel
def xi_106_1 : XIs := [(30, .iload 5, 2), (32, .ifCond .ne 7, 3), (35, .lconst 0, 1), (36, .goto 22, 3), (39, .aload_n 0, 1), (40, .getfield 15, 3), (43, .iload 4, 2), (45, .laload, 1), (46, .ldc2_w 71, 3), (49, .lmul, 1), (50, .ldc2_w 73, 3), (53, .iload 5, 2), (55, .i2l, 1), (56, .lmul, 1), (57, .ldiv, 1), (58, .lstore 6, 2)]
set_option maxRecDepth 100000 in
theorem xi_ok106_1 : xi_ok cX4_shareOut xi_106_1 = true := by decide +kernel
def xi_106_2 : XIs := [(60, .aload_n 1, 1), (61, .getfield 75, 3), (64, .iload 4, 2), (66, .iaload, 1), (67, .istore 8, 2), (69, .iload 8, 2), (71, .aload_n 1, 1), (72, .getfield 75, 3), (75, .iload 4, 2), (77, .iconst 1, 1), (78, .iadd, 1), (79, .iaload, 1), (80, .if_icmp .ge 31, 3), (83, .aload_n 0, 1), (84, .getfield 19, 3), (87, .aload_n 1, 1)]
set_option maxRecDepth 100000 in
theorem xi_ok106_2 : xi_ok cX4_shareOut xi_106_2 = true := by decide +kernel
def xi_106_3 : XIs := [(88, .getfield 78, 3), (91, .aload_n 1, 1), (92, .getfield 81, 3), (95, .iload 8, 2), (97, .iaload, 1), (98, .iaload, 1), (99, .dup2, 1), (100, .laload, 1), (101, .lload 6, 2), (103, .ladd, 1), (104, .lastore, 1), (105, .iinc 8 1, 3), (108, .goto (-39), 3), (111, .lload_n 2, 1), (112, .aload_n 0, 1), (113, .getfield 15, 3)]
set_option maxRecDepth 100000 in
theorem xi_ok106_3 : xi_ok cX4_shareOut xi_106_3 = true := by decide +kernel
def xi_106_4 : XIs := [(116, .iload 4, 2), (118, .laload, 1), (119, .lload 6, 2), (121, .iload 5, 2), (123, .i2l, 1), (124, .lmul, 1), (125, .lsub, 1), (126, .ladd, 1), (127, .lstore_n 2, 1), (128, .iinc 4 1, 3), (131, .goto (-118), 3), (134, .iconst 0, 1), (135, .istore 4, 2), (137, .iload 4, 2), (139, .aload_n 1, 1), (140, .getfield 64, 3)]
set_option maxRecDepth 100000 in
theorem xi_ok106_4 : xi_ok cX4_shareOut xi_106_4 = true := by decide +kernel
def xi_106_5 : XIs := [(143, .if_icmp .ge 46, 3), (146, .aload_n 0, 1), (147, .getfield 19, 3), (150, .iload 4, 2), (152, .dup2, 1), (153, .laload, 1), (154, .lload_n 2, 1), (155, .aload_n 1, 1), (156, .getfield 64, 3), (159, .i2l, 1), (160, .ldiv, 1), (161, .iload 4, 2), (163, .i2l, 1), (164, .lload_n 2, 1), (165, .aload_n 1, 1), (166, .getfield 64, 3)]
set_option maxRecDepth 100000 in
theorem xi_ok106_5 : xi_ok cX4_shareOut xi_106_5 = true := by decide +kernel
def xi_106_6 : XIs := [(169, .i2l, 1), (170, .lrem, 1), (171, .lcmp, 1), (172, .ifCond .ge 7, 3), (175, .lconst 1, 1), (176, .goto 4, 3), (179, .lconst 0, 1), (180, .ladd, 1), (181, .ladd, 1), (182, .lastore, 1), (183, .iinc 4 1, 3), (186, .goto (-49), 3), (189, .aload_n 0, 1), (190, .getfield 15, 3), (193, .astore 4, 2), (195, .aload_n 0, 1)]
set_option maxRecDepth 100000 in
theorem xi_ok106_6 : xi_ok cX4_shareOut xi_106_6 = true := by decide +kernel
def xi_106_7 : XIs := [(196, .aload_n 0, 1), (197, .getfield 19, 3), (200, .putfield 15, 3), (203, .aload_n 0, 1), (204, .aload 4, 2), (206, .putfield 19, 3), (209, .return_, 1)]
set_option maxRecDepth 100000 in
theorem xi_ok106_7 : xi_ok cX4_shareOut xi_106_7 = true := by decide +kernel
def xi_106 (pc : Nat) : XIs := cond (Nat.blt pc 116) (cond (Nat.blt pc 60) (cond (Nat.blt pc 30) (xi_106_0) (xi_106_1)) (cond (Nat.blt pc 88) (xi_106_2) (xi_106_3))) (cond (Nat.blt pc 169) (cond (Nat.blt pc 143) (xi_106_4) (xi_106_5)) (cond (Nat.blt pc 196) (xi_106_6) (xi_106_7)))
theorem xi_ok106 (pc : Nat) : xi_ok cX4_shareOut (xi_106 pc) = true := xi_c (xi_c (xi_c (xi_ok106_0) (xi_ok106_1)) (xi_c (xi_ok106_2) (xi_ok106_3))) (xi_c (xi_c (xi_ok106_4) (xi_ok106_5)) (xi_c (xi_ok106_6) (xi_ok106_7)))
def xi_107_0 : XIs := [(0, .aload_n 0, 1), (1, .aload_n 1, 1), (2, .invokevirtual 84, 3), (5, .aload_n 0, 1), (6, .getfield 29, 3), (9, .aload_n 0, 1), (10, .getfield 25, 3), (13, .iload_n 2, 1), (14, .iaload, 1), (15, .iaload, 1), (16, .invokestatic 87, 3), (19, .ireturn, 1)]
set_option maxRecDepth 100000 in
theorem xi_ok107_0 : xi_ok cX4_groupOf xi_107_0 = true := by decide +kernel
def xi_107 (pc : Nat) : XIs := xi_107_0
theorem xi_ok107 (pc : Nat) : xi_ok cX4_groupOf (xi_107 pc) = true := xi_ok107_0
def xi_108_0 : XIs := [(0, .aload_n 0, 1), (1, .aload_n 1, 1), (2, .invokevirtual 84, 3), (5, .lconst 0, 1), (6, .lstore_n 2, 1), (7, .iconst 0, 1), (8, .istore 4, 2), (10, .iload 4, 2), (12, .aload_n 1, 1), (13, .getfield 90, 3), (16, .if_icmp .ge 57, 3), (19, .aload_n 1, 1), (20, .iload 4, 2), (22, .invokevirtual 93, 3), (25, .ifCond .eq 42, 3), (28, .aload_n 0, 1)]
set_option maxRecDepth 100000 in
theorem xi_ok108_0 : xi_ok cX4_totalGain xi_108_0 = true := by decide +kernel
def xi_108_1 : XIs := [(29, .getfield 25, 3), (32, .aload_n 1, 1), (33, .getfield 97, 3), (36, .iload 4, 2), (38, .iaload, 1), (39, .iaload, 1), (40, .aload_n 0, 1), (41, .getfield 25, 3), (44, .aload_n 1, 1), (45, .getfield 78, 3), (48, .iload 4, 2), (50, .iaload, 1), (51, .iaload, 1), (52, .if_icmp .ne 15, 3), (55, .lload_n 2, 1), (56, .ldc2_w 100, 3)]
set_option maxRecDepth 100000 in
theorem xi_ok108_1 : xi_ok cX4_totalGain xi_108_1 = true := by decide +kernel
def xi_108_2 : XIs := [(59, .aload_n 0, 1), (60, .getfield 102, 3), (63, .i2l, 1), (64, .lmul, 1), (65, .ladd, 1), (66, .lstore_n 2, 1), (67, .iinc 4 1, 3), (70, .goto (-60), 3), (73, .iconst 0, 1), (74, .istore 4, 2), (76, .iload 4, 2), (78, .aload_n 1, 1), (79, .getfield 64, 3), (82, .if_icmp .ge 42, 3), (85, .lload_n 2, 1), (86, .aload_n 0, 1)]
set_option maxRecDepth 100000 in
theorem xi_ok108_2 : xi_ok cX4_totalGain xi_108_2 = true := by decide +kernel
def xi_108_3 : XIs := [(87, .getfield 32, 3), (90, .iload 4, 2), (92, .iaload, 1), (93, .i2l, 1), (94, .aload_n 0, 1), (95, .getfield 35, 3), (98, .aload_n 0, 1), (99, .getfield 25, 3), (102, .iload 4, 2), (104, .iaload, 1), (105, .iaload, 1), (106, .aload_n 0, 1), (107, .getfield 32, 3), (110, .iload 4, 2), (112, .iaload, 1), (113, .isub, 1)]
set_option maxRecDepth 100000 in
theorem xi_ok108_3 : xi_ok cX4_totalGain xi_108_3 = true := by decide +kernel
def xi_108_4 : XIs := [(114, .i2l, 1), (115, .lmul, 1), (116, .lsub, 1), (117, .lstore_n 2, 1), (118, .iinc 4 1, 3), (121, .goto (-45), 3), (124, .lload_n 2, 1), (125, .lreturn, 1)]
set_option maxRecDepth 100000 in
theorem xi_ok108_4 : xi_ok cX4_totalGain xi_108_4 = true := by decide +kernel
def xi_108 (pc : Nat) : XIs := cond (Nat.blt pc 59) (cond (Nat.blt pc 29) (xi_108_0) (xi_108_1)) (cond (Nat.blt pc 87) (xi_108_2) (cond (Nat.blt pc 114) (xi_108_3) (xi_108_4)))
theorem xi_ok108 (pc : Nat) : xi_ok cX4_totalGain (xi_108 pc) = true := xi_c (xi_c (xi_ok108_0) (xi_ok108_1)) (xi_c (xi_ok108_2) (xi_c (xi_ok108_3) (xi_ok108_4)))
def xi_109_0 : XIs := [(0, .aload_n 0, 1), (1, .getfield 22, 3), (4, .aload_n 1, 1), (5, .getfield 41, 3), (8, .if_icmp .ne 4, 3), (11, .return_, 1), (12, .aload_n 0, 1), (13, .aload_n 1, 1), (14, .getfield 41, 3), (17, .putfield 22, 3), (20, .aload_n 0, 1), (21, .aload_n 1, 1), (22, .invokevirtual 105, 3), (25, .iconst 1, 1), (26, .istore_n 2, 1), (27, .iconst 0, 1)]
set_option maxRecDepth 100000 in
theorem xi_ok109_0 : xi_ok cX4_settle xi_109_0 = true := by decide +kernel
def xi_109_1 : XIs := [(28, .istore_n 3, 1), (29, .iload_n 3, 1), (30, .bipush 20, 2), (32, .if_icmp .ge 43, 3), (35, .iload_n 2, 1), (36, .ifCond .eq 39, 3), (39, .iconst 0, 1), (40, .istore_n 2, 1), (41, .iconst 0, 1), (42, .istore 4, 2), (44, .iload 4, 2), (46, .aload_n 1, 1), (47, .getfield 64, 3), (50, .if_icmp .ge 19, 3), (53, .iload_n 2, 1), (54, .aload_n 0, 1)]
set_option maxRecDepth 100000 in
theorem xi_ok109_1 : xi_ok cX4_settle xi_109_1 = true := by decide +kernel
def xi_109_2 : XIs := [(55, .aload_n 1, 1), (56, .iload 4, 2), (58, .invokevirtual 108, 3), (61, .ior, 1), (62, .istore_n 2, 1), (63, .iinc 4 1, 3), (66, .goto (-22), 3), (69, .iinc 3 1, 3), (72, .goto (-43), 3), (75, .return_, 1)]
set_option maxRecDepth 100000 in
theorem xi_ok109_2 : xi_ok cX4_settle xi_109_2 = true := by decide +kernel
def xi_109 (pc : Nat) : XIs := cond (Nat.blt pc 28) (xi_109_0) (cond (Nat.blt pc 55) (xi_109_1) (xi_109_2))
theorem xi_ok109 (pc : Nat) : xi_ok cX4_settle (xi_109 pc) = true := xi_c (xi_ok109_0) (xi_c (xi_ok109_1) (xi_ok109_2))
def xi_110_0 : XIs := [(0, .aload_n 1, 1), (1, .invokevirtual 57, 3), (4, .aload_n 0, 1), (5, .aload_n 1, 1), (6, .invokevirtual 112, 3), (9, .putfield 102, 3), (12, .aload_n 1, 1), (13, .aload_n 0, 1), (14, .getfield 32, 3), (17, .invokevirtual 115, 3), (20, .aload_n 0, 1), (21, .getfield 29, 3), (24, .iconst 0, 1), (25, .invokestatic 119, 3), (28, .iconst 0, 1), (29, .istore_n 2, 1)]
set_option maxRecDepth 100000 in
theorem xi_ok110_0 : xi_ok cX4_begin xi_110_0 = true := by decide +kernel
def xi_110_1 : XIs := [(30, .iload_n 2, 1), (31, .aload_n 1, 1), (32, .getfield 64, 3), (35, .if_icmp .ge 37, 3), (38, .aload_n 0, 1), (39, .getfield 25, 3), (42, .iload_n 2, 1), (43, .iload_n 2, 1), (44, .iastore, 1), (45, .aload_n 0, 1), (46, .getfield 29, 3), (49, .iload_n 2, 1), (50, .iconst 1, 1), (51, .iload_n 2, 1), (52, .ishl, 1), (53, .iastore, 1)]
set_option maxRecDepth 100000 in
theorem xi_ok110_1 : xi_ok cX4_begin xi_110_1 = true := by decide +kernel
def xi_110_2 : XIs := [(54, .aload_n 0, 1), (55, .getfield 35, 3), (58, .iload_n 2, 1), (59, .aload_n 0, 1), (60, .getfield 32, 3), (63, .iload_n 2, 1), (64, .iaload, 1), (65, .iastore, 1), (66, .iinc 2 1, 3), (69, .goto (-39), 3), (72, .return_, 1)]
set_option maxRecDepth 100000 in
theorem xi_ok110_2 : xi_ok cX4_begin xi_110_2 = true := by decide +kernel
def xi_110 (pc : Nat) : XIs := cond (Nat.blt pc 30) (xi_110_0) (cond (Nat.blt pc 54) (xi_110_1) (xi_110_2))
theorem xi_ok110 (pc : Nat) : xi_ok cX4_begin (xi_110 pc) = true := xi_c (xi_ok110_0) (xi_c (xi_ok110_1) (xi_ok110_2))
def xi_111_0 : XIs := [(0, .aload_n 0, 1), (1, .aload_n 1, 1), (2, .iload_n 2, 1), (3, .invokevirtual 122, 3), (6, .aload_n 0, 1), (7, .getfield 25, 3), (10, .iload_n 2, 1), (11, .iaload, 1), (12, .istore_n 3, 1), (13, .aload_n 0, 1), (14, .iload_n 2, 1), (15, .iload_n 3, 1), (16, .invokevirtual 126, 3), (19, .lstore 4, 2), (21, .iconst (-1), 1), (22, .istore 6, 2)]
set_option maxRecDepth 100000 in
theorem xi_ok111_0 : xi_ok cX4_settleNode xi_111_0 = true := by decide +kernel
def xi_111_1 : XIs := [(24, .iconst 0, 1), (25, .istore 7, 2), (27, .aload_n 1, 1), (28, .getfield 130, 3), (31, .iload_n 2, 1), (32, .iaload, 1), (33, .istore 8, 2), (35, .iload 8, 2), (37, .ifCond .eq 79, 3), (40, .aload_n 0, 1), (41, .getfield 25, 3), (44, .iload 8, 2), (46, .invokestatic 87, 3), (49, .iaload, 1), (50, .istore 9, 2), (52, .iload 9, 2)]
set_option maxRecDepth 100000 in
theorem xi_ok111_1 : xi_ok cX4_settleNode xi_111_1 = true := by decide +kernel
def xi_111_2 : XIs := [(54, .iload_n 3, 1), (55, .if_icmp .eq 49, 3), (58, .iload 7, 2), (60, .iload 9, 2), (62, .ishr, 1), (63, .iconst 1, 1), (64, .iand, 1), (65, .ifCond .ne 39, 3), (68, .iload 7, 2), (70, .iconst 1, 1), (71, .iload 9, 2), (73, .ishl, 1), (74, .ior, 1), (75, .istore 7, 2), (77, .iload 6, 2), (79, .iconst (-1), 1)]
set_option maxRecDepth 100000 in
theorem xi_ok111_2 : xi_ok cX4_settleNode xi_111_2 = true := by decide +kernel
def xi_111_3 : XIs := [(80, .if_icmp .eq 15, 3), (83, .aload_n 0, 1), (84, .iload_n 2, 1), (85, .iload 9, 2), (87, .iload 6, 2), (89, .invokevirtual 133, 3), (92, .ifCond .eq 8, 3), (95, .iload 9, 2), (97, .goto 5, 3), (100, .iload 6, 2), (102, .istore 6, 2), (104, .iload 8, 2), (106, .iload 8, 2), (108, .iconst 1, 1), (109, .isub, 1), (110, .iand, 1)]
set_option maxRecDepth 100000 in
theorem xi_ok111_3 : xi_ok cX4_settleNode xi_111_3 = true := by decide +kernel
def xi_111_4 : XIs := [(111, .istore 8, 2), (113, .goto (-78), 3), (116, .iload 6, 2), (118, .iconst (-1), 1), (119, .if_icmp .eq 15, 3), (122, .aload_n 0, 1), (123, .iload_n 2, 1), (124, .iload 6, 2), (126, .invokevirtual 126, 3), (129, .lconst 0, 1), (130, .lcmp, 1), (131, .ifCond .ge 28, 3), (134, .lconst 0, 1), (135, .lload 4, 2), (137, .lcmp, 1), (138, .ifCond .le 19, 3)]
set_option maxRecDepth 100000 in
theorem xi_ok111_4 : xi_ok cX4_settleNode xi_111_4 = true := by decide +kernel
def xi_111_5 : XIs := [(141, .aload_n 0, 1), (142, .iload_n 2, 1), (143, .aload_n 0, 1), (144, .invokevirtual 137, 3), (147, .invokevirtual 140, 3), (150, .ifCond .eq 7, 3), (153, .iconst 1, 1), (154, .goto 4, 3), (157, .iconst 0, 1), (158, .ireturn, 1), (159, .aload_n 0, 1), (160, .iload_n 2, 1), (161, .iload 6, 2), (163, .invokevirtual 126, 3), (166, .lload 4, 2), (168, .lcmp, 1)]
set_option maxRecDepth 100000 in
theorem xi_ok111_5 : xi_ok cX4_settleNode xi_111_5 = true := by decide +kernel
def xi_111_6 : XIs := [(169, .ifCond .le 17, 3), (172, .aload_n 0, 1), (173, .iload_n 2, 1), (174, .iload 6, 2), (176, .invokevirtual 140, 3), (179, .ifCond .eq 7, 3), (182, .iconst 1, 1), (183, .goto 4, 3), (186, .iconst 0, 1), (187, .ireturn, 1)]
set_option maxRecDepth 100000 in
theorem xi_ok111_6 : xi_ok cX4_settleNode xi_111_6 = true := by decide +kernel
def xi_111 (pc : Nat) : XIs := cond (Nat.blt pc 80) (cond (Nat.blt pc 24) (xi_111_0) (cond (Nat.blt pc 54) (xi_111_1) (xi_111_2))) (cond (Nat.blt pc 141) (cond (Nat.blt pc 111) (xi_111_3) (xi_111_4)) (cond (Nat.blt pc 169) (xi_111_5) (xi_111_6)))
theorem xi_ok111 (pc : Nat) : xi_ok cX4_settleNode (xi_111 pc) = true := xi_c (xi_c (xi_ok111_0) (xi_c (xi_ok111_1) (xi_ok111_2))) (xi_c (xi_c (xi_ok111_3) (xi_ok111_4)) (xi_c (xi_ok111_5) (xi_ok111_6)))
def xi_112_0 : XIs := [(0, .aload_n 0, 1), (1, .iload_n 1, 1), (2, .iload_n 2, 1), (3, .invokevirtual 126, 3), (6, .aload_n 0, 1), (7, .iload_n 1, 1), (8, .iload_n 3, 1), (9, .invokevirtual 126, 3), (12, .lsub, 1), (13, .lstore 4, 2), (15, .lload 4, 2), (17, .lconst 0, 1), (18, .lcmp, 1), (19, .ifCond .gt 31, 3), (22, .lload 4, 2), (24, .lconst 0, 1)]
set_option maxRecDepth 100000 in
theorem xi_ok112_0 : xi_ok cX4_isBetter xi_112_0 = true := by decide +kernel
def xi_112_1 : XIs := [(25, .lcmp, 1), (26, .ifCond .ne 28, 3), (29, .aload_n 0, 1), (30, .getfield 29, 3), (33, .iload_n 2, 1), (34, .iaload, 1), (35, .invokestatic 87, 3), (38, .aload_n 0, 1), (39, .getfield 29, 3), (42, .iload_n 3, 1), (43, .iaload, 1), (44, .invokestatic 87, 3), (47, .if_icmp .ge 7, 3), (50, .iconst 1, 1), (51, .goto 4, 3), (54, .iconst 0, 1)]
set_option maxRecDepth 100000 in
theorem xi_ok112_1 : xi_ok cX4_isBetter xi_112_1 = true := by decide +kernel
def xi_112_2 : XIs := [(55, .ireturn, 1)]
set_option maxRecDepth 100000 in
theorem xi_ok112_2 : xi_ok cX4_isBetter xi_112_2 = true := by decide +kernel
def xi_112 (pc : Nat) : XIs := cond (Nat.blt pc 25) (xi_112_0) (cond (Nat.blt pc 55) (xi_112_1) (xi_112_2))
theorem xi_ok112 (pc : Nat) : xi_ok cX4_isBetter (xi_112 pc) = true := xi_c (xi_ok112_0) (xi_c (xi_ok112_1) (xi_ok112_2))
def xi_113_0 : XIs := [(0, .aload_n 0, 1), (1, .getfield 38, 3), (4, .iconst 0, 1), (5, .invokestatic 119, 3), (8, .aload_n 1, 1), (9, .getfield 75, 3), (12, .iload_n 2, 1), (13, .iaload, 1), (14, .istore_n 3, 1), (15, .iload_n 3, 1), (16, .aload_n 1, 1), (17, .getfield 75, 3), (20, .iload_n 2, 1), (21, .iconst 1, 1), (22, .iadd, 1), (23, .iaload, 1)]
set_option maxRecDepth 100000 in
theorem xi_ok113_0 : xi_ok cX4_countLinks xi_113_0 = true := by decide +kernel
def xi_113_1 : XIs := [(24, .if_icmp .ge 34, 3), (27, .aload_n 0, 1), (28, .getfield 38, 3), (31, .aload_n 0, 1), (32, .getfield 25, 3), (35, .aload_n 1, 1), (36, .getfield 78, 3), (39, .aload_n 1, 1), (40, .getfield 81, 3), (43, .iload_n 3, 1), (44, .iaload, 1), (45, .iaload, 1), (46, .iaload, 1), (47, .dup2, 1), (48, .iaload, 1), (49, .iconst 1, 1)]
set_option maxRecDepth 100000 in
theorem xi_ok113_1 : xi_ok cX4_countLinks xi_113_1 = true := by decide +kernel
def xi_113_2 : XIs := [(50, .iadd, 1), (51, .iastore, 1), (52, .iinc 3 1, 3), (55, .goto (-40), 3), (58, .aload_n 1, 1), (59, .getfield 144, 3), (62, .iload_n 2, 1), (63, .iaload, 1), (64, .istore_n 3, 1), (65, .iload_n 3, 1), (66, .aload_n 1, 1), (67, .getfield 144, 3), (70, .iload_n 2, 1), (71, .iconst 1, 1), (72, .iadd, 1), (73, .iaload, 1)]
set_option maxRecDepth 100000 in
theorem xi_ok113_2 : xi_ok cX4_countLinks xi_113_2 = true := by decide +kernel
def xi_113_3 : XIs := [(74, .if_icmp .ge 34, 3), (77, .aload_n 0, 1), (78, .getfield 38, 3), (81, .aload_n 0, 1), (82, .getfield 25, 3), (85, .aload_n 1, 1), (86, .getfield 97, 3), (89, .aload_n 1, 1), (90, .getfield 147, 3), (93, .iload_n 3, 1), (94, .iaload, 1), (95, .iaload, 1), (96, .iaload, 1), (97, .dup2, 1), (98, .iaload, 1), (99, .iconst 1, 1)]
set_option maxRecDepth 100000 in
theorem xi_ok113_3 : xi_ok cX4_countLinks xi_113_3 = true := by decide +kernel
def xi_113_4 : XIs := [(100, .iadd, 1), (101, .iastore, 1), (102, .iinc 3 1, 3), (105, .goto (-40), 3), (108, .aload_n 1, 1), (109, .getfield 75, 3), (112, .iload_n 2, 1), (113, .iaload, 1), (114, .istore_n 3, 1), (115, .iload_n 3, 1), (116, .aload_n 1, 1), (117, .getfield 75, 3), (120, .iload_n 2, 1), (121, .iconst 1, 1), (122, .iadd, 1), (123, .iaload, 1)]
set_option maxRecDepth 100000 in
theorem xi_ok113_4 : xi_ok cX4_countLinks xi_113_4 = true := by decide +kernel
def xi_113_5 : XIs := [(124, .if_icmp .ge 39, 3), (127, .aload_n 1, 1), (128, .getfield 78, 3), (131, .aload_n 1, 1), (132, .getfield 81, 3), (135, .iload_n 3, 1), (136, .iaload, 1), (137, .iaload, 1), (138, .iload_n 2, 1), (139, .if_icmp .ne 18, 3), (142, .aload_n 0, 1), (143, .getfield 38, 3), (146, .aload_n 0, 1), (147, .getfield 25, 3), (150, .iload_n 2, 1), (151, .iaload, 1)]
set_option maxRecDepth 100000 in
theorem xi_ok113_5 : xi_ok cX4_countLinks xi_113_5 = true := by decide +kernel
def xi_113_6 : XIs := [(152, .dup2, 1), (153, .iaload, 1), (154, .iconst 2, 1), (155, .isub, 1), (156, .iastore, 1), (157, .iinc 3 1, 3), (160, .goto (-45), 3), (163, .return_, 1)]
set_option maxRecDepth 100000 in
theorem xi_ok113_6 : xi_ok cX4_countLinks xi_113_6 = true := by decide +kernel
def xi_113 (pc : Nat) : XIs := cond (Nat.blt pc 74) (cond (Nat.blt pc 24) (xi_113_0) (cond (Nat.blt pc 50) (xi_113_1) (xi_113_2))) (cond (Nat.blt pc 124) (cond (Nat.blt pc 100) (xi_113_3) (xi_113_4)) (cond (Nat.blt pc 152) (xi_113_5) (xi_113_6)))
theorem xi_ok113 (pc : Nat) : xi_ok cX4_countLinks (xi_113 pc) = true := xi_c (xi_c (xi_ok113_0) (xi_c (xi_ok113_1) (xi_ok113_2))) (xi_c (xi_c (xi_ok113_3) (xi_ok113_4)) (xi_c (xi_ok113_5) (xi_ok113_6)))
def xi_114_0 : XIs := [(0, .aload_n 0, 1), (1, .getfield 25, 3), (4, .iload_n 1, 1), (5, .iaload, 1), (6, .iload_n 2, 1), (7, .if_icmp .ne 19, 3), (10, .aload_n 0, 1), (11, .getfield 35, 3), (14, .iload_n 2, 1), (15, .iaload, 1), (16, .aload_n 0, 1), (17, .getfield 32, 3), (20, .iload_n 1, 1), (21, .iaload, 1), (22, .isub, 1), (23, .goto 9, 3)]
set_option maxRecDepth 100000 in
theorem xi_ok114_0 : xi_ok cX4_score xi_114_0 = true := by decide +kernel
def xi_114_1 : XIs := [(26, .aload_n 0, 1), (27, .getfield 35, 3), (30, .iload_n 2, 1), (31, .iaload, 1), (32, .istore_n 3, 1), (33, .ldc2_w 150, 3), (36, .aload_n 0, 1), (37, .getfield 102, 3), (40, .i2l, 1), (41, .lmul, 1), (42, .aload_n 0, 1), (43, .getfield 38, 3), (46, .iload_n 2, 1), (47, .iaload, 1), (48, .i2l, 1), (49, .lmul, 1)]
set_option maxRecDepth 100000 in
theorem xi_ok114_1 : xi_ok cX4_score xi_114_1 = true := by decide +kernel
def xi_114_2 : XIs := [(50, .aload_n 0, 1), (51, .getfield 32, 3), (54, .iload_n 1, 1), (55, .iaload, 1), (56, .i2l, 1), (57, .iload_n 3, 1), (58, .i2l, 1), (59, .lmul, 1), (60, .lsub, 1), (61, .lreturn, 1)]
set_option maxRecDepth 100000 in
theorem xi_ok114_2 : xi_ok cX4_score xi_114_2 = true := by decide +kernel
def xi_114 (pc : Nat) : XIs := cond (Nat.blt pc 26) (xi_114_0) (cond (Nat.blt pc 50) (xi_114_1) (xi_114_2))
theorem xi_ok114 (pc : Nat) : xi_ok cX4_score (xi_114 pc) = true := xi_c (xi_ok114_0) (xi_c (xi_ok114_1) (xi_ok114_2))
def xi_115_0 : XIs := [(0, .iconst 0, 1), (1, .istore_n 1, 1), (2, .iload_n 1, 1), (3, .bipush 32, 2), (5, .if_icmp .ge 20, 3), (8, .aload_n 0, 1), (9, .getfield 29, 3), (12, .iload_n 1, 1), (13, .iaload, 1), (14, .ifCond .ne 5, 3), (17, .iload_n 1, 1), (18, .ireturn, 1), (19, .iinc 1 1, 3), (22, .goto (-20), 3), (25, .iconst (-1), 1), (26, .ireturn, 1)]
set_option maxRecDepth 100000 in
theorem xi_ok115_0 : xi_ok cX4_freeGroup xi_115_0 = true := by decide +kernel
def xi_115 (pc : Nat) : XIs := xi_115_0
theorem xi_ok115 (pc : Nat) : xi_ok cX4_freeGroup (xi_115 pc) = true := xi_ok115_0
def xi_116_0 : XIs := [(0, .iload_n 2, 1), (1, .iconst (-1), 1), (2, .if_icmp .ne 5, 3), (5, .iconst 0, 1), (6, .ireturn, 1), (7, .aload_n 0, 1), (8, .getfield 25, 3), (11, .iload_n 1, 1), (12, .iaload, 1), (13, .istore_n 3, 1), (14, .aload_n 0, 1), (15, .getfield 29, 3), (18, .iload_n 3, 1), (19, .dup2, 1), (20, .iaload, 1), (21, .iconst 1, 1)]
set_option maxRecDepth 100000 in
theorem xi_ok116_0 : xi_ok cX4_moveTo xi_116_0 = true := by decide +kernel
def xi_116_1 : XIs := [(22, .iload_n 1, 1), (23, .ishl, 1), (24, .iconst (-1), 1), (25, .ixor, 1), (26, .iand, 1), (27, .iastore, 1), (28, .aload_n 0, 1), (29, .getfield 35, 3), (32, .iload_n 3, 1), (33, .dup2, 1), (34, .iaload, 1), (35, .aload_n 0, 1), (36, .getfield 32, 3), (39, .iload_n 1, 1), (40, .iaload, 1), (41, .isub, 1)]
set_option maxRecDepth 100000 in
theorem xi_ok116_1 : xi_ok cX4_moveTo xi_116_1 = true := by decide +kernel
def xi_116_2 : XIs := [(42, .iastore, 1), (43, .aload_n 0, 1), (44, .getfield 35, 3), (47, .iload_n 2, 1), (48, .aload_n 0, 1), (49, .getfield 29, 3), (52, .iload_n 2, 1), (53, .iaload, 1), (54, .ifCond .ne 12, 3), (57, .aload_n 0, 1), (58, .getfield 32, 3), (61, .iload_n 1, 1), (62, .iaload, 1), (63, .goto 16, 3), (66, .aload_n 0, 1), (67, .getfield 35, 3)]
set_option maxRecDepth 100000 in
theorem xi_ok116_2 : xi_ok cX4_moveTo xi_116_2 = true := by decide +kernel
def xi_116_3 : XIs := [(70, .iload_n 2, 1), (71, .iaload, 1), (72, .aload_n 0, 1), (73, .getfield 32, 3), (76, .iload_n 1, 1), (77, .iaload, 1), (78, .iadd, 1), (79, .iastore, 1), (80, .aload_n 0, 1), (81, .getfield 29, 3), (84, .iload_n 2, 1), (85, .dup2, 1), (86, .iaload, 1), (87, .iconst 1, 1), (88, .iload_n 1, 1), (89, .ishl, 1)]
set_option maxRecDepth 100000 in
theorem xi_ok116_3 : xi_ok cX4_moveTo xi_116_3 = true := by decide +kernel
def xi_116_4 : XIs := [(90, .ior, 1), (91, .iastore, 1), (92, .aload_n 0, 1), (93, .getfield 25, 3), (96, .iload_n 1, 1), (97, .iload_n 2, 1), (98, .iastore, 1), (99, .iconst 1, 1), (100, .ireturn, 1)]
set_option maxRecDepth 100000 in
theorem xi_ok116_4 : xi_ok cX4_moveTo xi_116_4 = true := by decide +kernel
def xi_116 (pc : Nat) : XIs := cond (Nat.blt pc 42) (cond (Nat.blt pc 22) (xi_116_0) (xi_116_1)) (cond (Nat.blt pc 70) (xi_116_2) (cond (Nat.blt pc 90) (xi_116_3) (xi_116_4)))
theorem xi_ok116 (pc : Nat) : xi_ok cX4_moveTo (xi_116 pc) = true := xi_c (xi_c (xi_ok116_0) (xi_ok116_1)) (xi_c (xi_ok116_2) (xi_c (xi_ok116_3) (xi_ok116_4)))
def xi_117_0 : XIs := [(0, .aload_n 0, 1), (1, .invokespecial 3, 3), (4, .aload_n 0, 1), (5, .new 9, 3), (8, .dup, 1), (9, .invokespecial 11, 3), (12, .putfield 12, 3), (15, .aload_n 0, 1), (16, .new 9, 3), (19, .dup, 1), (20, .invokespecial 11, 3), (23, .putfield 18, 3), (26, .aload_n 0, 1), (27, .sipush 448, 3), (30, .newarray .int, 2), (32, .putfield 21, 3)]
set_option maxRecDepth 100000 in
theorem xi_ok117_0 : xi_ok cX5_init xi_117_0 = true := by decide +kernel
def xi_117_1 : XIs := [(35, .aload_n 0, 1), (36, .iconst 5, 1), (37, .newarray .int, 2), (39, .putfield 25, 3), (42, .return_, 1)]
set_option maxRecDepth 100000 in
theorem xi_ok117_1 : xi_ok cX5_init xi_117_1 = true := by decide +kernel
def xi_117 (pc : Nat) : XIs := cond (Nat.blt pc 35) (xi_117_0) (xi_117_1)
theorem xi_ok117 (pc : Nat) : xi_ok cX5_init (xi_117 pc) = true := xi_c (xi_ok117_0) (xi_ok117_1)
def xi_118_0 : XIs := [(0, .aload_n 0, 1), (1, .getfield 12, 3), (4, .getfield 28, 3), (7, .sipush 4000, 3), (10, .if_icmp .lt 7, 3), (13, .iconst 1, 1), (14, .goto 4, 3), (17, .iconst 0, 1), (18, .ireturn, 1)]
set_option maxRecDepth 100000 in
theorem xi_ok118_0 : xi_ok cX5_isFull xi_118_0 = true := by decide +kernel
def xi_118 (pc : Nat) : XIs := xi_118_0
theorem xi_ok118 (pc : Nat) : xi_ok cX5_isFull (xi_118 pc) = true := xi_ok118_0
def xi_119_0 : XIs := [(0, .aload_n 0, 1), (1, .getfield 12, 3), (4, .iload_n 1, 1), (5, .invokevirtual 32, 3), (8, .ifCond .eq 41, 3), (11, .aload_n 0, 1), (12, .getfield 12, 3), (15, .iload_n 2, 1), (16, .invokevirtual 32, 3), (19, .ifCond .eq 30, 3), (22, .iload_n 3, 1), (23, .invokestatic 36, 3), (26, .ifCond .eq 23, 3), (29, .iload 4, 2), (31, .invokestatic 39, 3), (34, .ifCond .eq 15, 3)]
set_option maxRecDepth 100000 in
theorem xi_ok119_0 : xi_ok cX5_isGoodArc xi_119_0 = true := by decide +kernel
def xi_119_1 : XIs := [(37, .iload 5, 2), (39, .invokestatic 42, 3), (42, .ifCond .eq 7, 3), (45, .iconst 1, 1), (46, .goto 4, 3), (49, .iconst 0, 1), (50, .ireturn, 1)]
set_option maxRecDepth 100000 in
theorem xi_ok119_1 : xi_ok cX5_isGoodArc xi_119_1 = true := by decide +kernel
def xi_119 (pc : Nat) : XIs := cond (Nat.blt pc 37) (xi_119_0) (xi_119_1)
theorem xi_ok119 (pc : Nat) : xi_ok cX5_isGoodArc (xi_119 pc) = true := xi_c (xi_ok119_0) (xi_ok119_1)
def xi_120_0 : XIs := [(0, .aload_n 0, 1), (1, .iconst 0, 1), (2, .aload_n 0, 1), (3, .getfield 12, 3), (6, .getfield 45, 3), (9, .iload_n 1, 1), (10, .iconst 0, 1), (11, .invokevirtual 48, 3), (14, .aload_n 0, 1), (15, .getfield 12, 3), (18, .getfield 45, 3), (21, .iconst 1, 1), (22, .isub, 1), (23, .ireturn, 1)]
set_option maxRecDepth 100000 in
theorem xi_ok120_0 : xi_ok cX5_addNode xi_120_0 = true := by decide +kernel
def xi_120 (pc : Nat) : XIs := xi_120_0
theorem xi_ok120 (pc : Nat) : xi_ok cX5_addNode (xi_120 pc) = true := xi_ok120_0
def xi_121_0 : XIs := [(0, .aload_n 0, 1), (1, .getfield 12, 3), (4, .invokevirtual 52, 3), (7, .istore 6, 2), (9, .iload 6, 2), (11, .iconst (-1), 1), (12, .if_icmp .ne 6, 3), (15, .bipush (-3), 2), (17, .ireturn, 1), (18, .aload_n 0, 1), (19, .invokevirtual 56, 3), (22, .istore 7, 2), (24, .aload_n 0, 1), (25, .getfield 21, 3), (28, .iload 7, 2), (30, .iconst 1, 1)]
set_option maxRecDepth 100000 in
theorem xi_ok121_0 : xi_ok cX5_addArc xi_121_0 = true := by decide +kernel
def xi_121_1 : XIs := [(31, .iastore, 1), (32, .aload_n 0, 1), (33, .getfield 21, 3), (36, .iload 7, 2), (38, .iconst 1, 1), (39, .iadd, 1), (40, .iload 6, 2), (42, .iastore, 1), (43, .aload_n 0, 1), (44, .getfield 21, 3), (47, .iload 7, 2), (49, .iconst 2, 1), (50, .iadd, 1), (51, .iload_n 1, 1), (52, .iastore, 1), (53, .aload_n 0, 1)]
set_option maxRecDepth 100000 in
theorem xi_ok121_1 : xi_ok cX5_addArc xi_121_1 = true := by decide +kernel
def xi_121_2 : XIs := [(54, .getfield 21, 3), (57, .iload 7, 2), (59, .iconst 3, 1), (60, .iadd, 1), (61, .iload_n 2, 1), (62, .iastore, 1), (63, .aload_n 0, 1), (64, .getfield 21, 3), (67, .iload 7, 2), (69, .iconst 4, 1), (70, .iadd, 1), (71, .iload_n 3, 1), (72, .iastore, 1), (73, .aload_n 0, 1), (74, .getfield 21, 3), (77, .iload 7, 2)]
set_option maxRecDepth 100000 in
theorem xi_ok121_2 : xi_ok cX5_addArc xi_121_2 = true := by decide +kernel
def xi_121_3 : XIs := [(79, .iconst 5, 1), (80, .iadd, 1), (81, .iload 4, 2), (83, .iastore, 1), (84, .aload_n 0, 1), (85, .getfield 21, 3), (88, .iload 7, 2), (90, .bipush 6, 2), (92, .iadd, 1), (93, .iload 5, 2), (95, .iastore, 1), (96, .aload_n 0, 1), (97, .aload_n 0, 1), (98, .getfield 12, 3), (101, .invokevirtual 59, 3), (104, .iload 6, 2)]
set_option maxRecDepth 100000 in
theorem xi_ok121_3 : xi_ok cX5_addArc xi_121_3 = true := by decide +kernel
def xi_121_4 : XIs := [(106, .ireturn, 1)]
set_option maxRecDepth 100000 in
theorem xi_ok121_4 : xi_ok cX5_addArc xi_121_4 = true := by decide +kernel
def xi_121 (pc : Nat) : XIs := cond (Nat.blt pc 54) (cond (Nat.blt pc 31) (xi_121_0) (xi_121_1)) (cond (Nat.blt pc 79) (xi_121_2) (cond (Nat.blt pc 106) (xi_121_3) (xi_121_4)))
theorem xi_ok121 (pc : Nat) : xi_ok cX5_addArc (xi_121 pc) = true := xi_c (xi_c (xi_ok121_0) (xi_ok121_1)) (xi_c (xi_ok121_2) (xi_c (xi_ok121_3) (xi_ok121_4)))
def xi_122_0 : XIs := [(0, .aload_n 0, 1), (1, .iconst 2, 1), (2, .iload_n 1, 1), (3, .iconst 0, 1), (4, .iconst 0, 1), (5, .invokevirtual 48, 3), (8, .return_, 1)]
set_option maxRecDepth 100000 in
theorem xi_ok122_0 : xi_ok cX5_dropArc xi_122_0 = true := by decide +kernel
def xi_122 (pc : Nat) : XIs := xi_122_0
theorem xi_ok122 (pc : Nat) : xi_ok cX5_dropArc (xi_122 pc) = true := xi_ok122_0
def xi_123_0 : XIs := [(0, .aload_n 0, 1), (1, .iconst 3, 1), (2, .iload_n 1, 1), (3, .iload_n 2, 1), (4, .iload_n 3, 1), (5, .invokevirtual 48, 3), (8, .return_, 1)]
set_option maxRecDepth 100000 in
theorem xi_ok123_0 : xi_ok cX5_changeArc xi_123_0 = true := by decide +kernel
def xi_123 (pc : Nat) : XIs := xi_123_0
theorem xi_ok123 (pc : Nat) : xi_ok cX5_changeArc (xi_123 pc) = true := xi_ok123_0
def xi_124_0 : XIs := [(0, .aload_n 0, 1), (1, .iconst 4, 1), (2, .iload_n 1, 1), (3, .iload_n 2, 1), (4, .iconst 0, 1), (5, .invokevirtual 48, 3), (8, .return_, 1)]
set_option maxRecDepth 100000 in
theorem xi_ok124_0 : xi_ok cX5_relabel xi_124_0 = true := by decide +kernel
def xi_124 (pc : Nat) : XIs := xi_124_0
theorem xi_ok124 (pc : Nat) : xi_ok cX5_relabel (xi_124 pc) = true := xi_ok124_0
def xi_125_0 : XIs := [(0, .aload_n 0, 1), (1, .invokevirtual 56, 3), (4, .istore 5, 2), (6, .aload_n 0, 1), (7, .getfield 21, 3), (10, .iload 5, 2), (12, .iload_n 1, 1), (13, .iastore, 1), (14, .aload_n 0, 1), (15, .getfield 21, 3), (18, .iload 5, 2), (20, .iconst 1, 1), (21, .iadd, 1), (22, .iload_n 2, 1), (23, .iastore, 1), (24, .aload_n 0, 1)]
set_option maxRecDepth 100000 in
theorem xi_ok125_0 : xi_ok cX5_note xi_125_0 = true := by decide +kernel
def xi_125_1 : XIs := [(25, .getfield 21, 3), (28, .iload 5, 2), (30, .iconst 2, 1), (31, .iadd, 1), (32, .iload_n 3, 1), (33, .iastore, 1), (34, .aload_n 0, 1), (35, .getfield 21, 3), (38, .iload 5, 2), (40, .iconst 3, 1), (41, .iadd, 1), (42, .iload 4, 2), (44, .iastore, 1), (45, .aload_n 0, 1), (46, .aload_n 0, 1), (47, .getfield 12, 3)]
set_option maxRecDepth 100000 in
theorem xi_ok125_1 : xi_ok cX5_note xi_125_1 = true := by decide +kernel
def xi_125_2 : XIs := [(50, .invokevirtual 59, 3), (53, .return_, 1)]
set_option maxRecDepth 100000 in
theorem xi_ok125_2 : xi_ok cX5_note xi_125_2 = true := by decide +kernel
def xi_125 (pc : Nat) : XIs := cond (Nat.blt pc 25) (xi_125_0) (cond (Nat.blt pc 50) (xi_125_1) (xi_125_2))
theorem xi_ok125 (pc : Nat) : xi_ok cX5_note (xi_125 pc) = true := xi_c (xi_ok125_0) (xi_c (xi_ok125_1) (xi_ok125_2))
def xi_126_0 : XIs := [(0, .aload_n 0, 1), (1, .getfield 12, 3), (4, .getfield 28, 3), (7, .bipush 7, 2), (9, .imul, 1), (10, .istore_n 1, 1), (11, .iload_n 1, 1), (12, .bipush 7, 2), (14, .iadd, 1), (15, .aload_n 0, 1), (16, .getfield 21, 3), (19, .arraylength, 1), (20, .if_icmp .le 34, 3), (23, .aload_n 0, 1), (24, .aload_n 0, 1), (25, .getfield 21, 3)]
set_option maxRecDepth 100000 in
theorem xi_ok126_0 : xi_ok cX5_openRow xi_126_0 = true := by decide +kernel
def xi_126_1 : XIs := [(28, .iload_n 1, 1), (29, .bipush 7, 2), (31, .iadd, 1), (32, .iconst 2, 1), (33, .aload_n 0, 1), (34, .getfield 21, 3), (37, .arraylength, 1), (38, .imul, 1), (39, .sipush 28000, 3), (42, .invokestatic 63, 3), (45, .invokestatic 69, 3), (48, .invokestatic 72, 3), (51, .putfield 21, 3), (54, .iload_n 1, 1), (55, .ireturn, 1)]
set_option maxRecDepth 100000 in
theorem xi_ok126_1 : xi_ok cX5_openRow xi_126_1 = true := by decide +kernel
def xi_126 (pc : Nat) : XIs := cond (Nat.blt pc 28) (xi_126_0) (xi_126_1)
theorem xi_ok126 (pc : Nat) : xi_ok cX5_openRow (xi_126 pc) = true := xi_c (xi_ok126_0) (xi_ok126_1)
def xi_127_0 : XIs := [(0, .aload_n 1, 1), (1, .getfield 28, 3), (4, .bipush 7, 2), (6, .imul, 1), (7, .istore_n 2, 1), (8, .aload_n 0, 1), (9, .getfield 21, 3), (12, .iload_n 2, 1), (13, .iconst 1, 1), (14, .iadd, 1), (15, .iaload, 1), (16, .istore_n 3, 1), (17, .aload_n 1, 1), (18, .dup, 1), (19, .getfield 28, 3), (22, .iconst 1, 1)]
set_option maxRecDepth 100000 in
theorem xi_ok127_0 : xi_ok cX5_apply xi_127_0 = true := by decide +kernel
def xi_127_1 : XIs := [(23, .iadd, 1), (24, .putfield 28, 3), (27, .aload_n 0, 1), (28, .getfield 21, 3), (31, .iload_n 2, 1), (32, .iaload, 1), (33, .tableswitch 101 0 3 #[31, 58, 68, 76], 31), (64, .aload_n 1, 1), (65, .getfield 78, 3), (68, .iload_n 3, 1), (69, .aload_n 0, 1), (70, .getfield 21, 3), (73, .iload_n 2, 1), (74, .iconst 2, 1), (75, .iadd, 1), (76, .iaload, 1)]
set_option maxRecDepth 100000 in
theorem xi_ok127_1 : xi_ok cX5_apply xi_127_1 = true := by decide +kernel
def xi_127_2 : XIs := [(77, .iastore, 1), (78, .aload_n 1, 1), (79, .dup, 1), (80, .getfield 45, 3), (83, .iconst 1, 1), (84, .iadd, 1), (85, .putfield 45, 3), (88, .goto 60, 3), (91, .aload_n 0, 1), (92, .aload_n 1, 1), (93, .iload_n 2, 1), (94, .iload_n 3, 1), (95, .invokevirtual 81, 3), (98, .goto 50, 3), (101, .aload_n 1, 1), (102, .iload_n 3, 1)]
set_option maxRecDepth 100000 in
theorem xi_ok127_2 : xi_ok cX5_apply xi_127_2 = true := by decide +kernel
def xi_127_3 : XIs := [(103, .invokevirtual 85, 3), (106, .goto 42, 3), (109, .aload_n 0, 1), (110, .aload_n 1, 1), (111, .iload_n 3, 1), (112, .aload_n 0, 1), (113, .getfield 21, 3), (116, .iload_n 2, 1), (117, .iconst 2, 1), (118, .iadd, 1), (119, .iaload, 1), (120, .aload_n 0, 1), (121, .getfield 21, 3), (124, .iload_n 2, 1), (125, .iconst 3, 1), (126, .iadd, 1)]
set_option maxRecDepth 100000 in
theorem xi_ok127_3 : xi_ok cX5_apply xi_127_3 = true := by decide +kernel
def xi_127_4 : XIs := [(127, .iaload, 1), (128, .invokevirtual 89, 3), (131, .goto 17, 3), (134, .aload_n 1, 1), (135, .getfield 78, 3), (138, .iload_n 3, 1), (139, .aload_n 0, 1), (140, .getfield 21, 3), (143, .iload_n 2, 1), (144, .iconst 2, 1), (145, .iadd, 1), (146, .iaload, 1), (147, .iastore, 1), (148, .return_, 1)]
set_option maxRecDepth 100000 in
theorem xi_ok127_4 : xi_ok cX5_apply xi_127_4 = true := by decide +kernel
def xi_127 (pc : Nat) : XIs := cond (Nat.blt pc 77) (cond (Nat.blt pc 23) (xi_127_0) (xi_127_1)) (cond (Nat.blt pc 103) (xi_127_2) (cond (Nat.blt pc 127) (xi_127_3) (xi_127_4)))
theorem xi_ok127 (pc : Nat) : xi_ok cX5_apply (xi_127 pc) = true := xi_c (xi_c (xi_ok127_0) (xi_ok127_1)) (xi_c (xi_ok127_2) (xi_c (xi_ok127_3) (xi_ok127_4)))
def xi_128_0 : XIs := [(0, .aload_n 1, 1), (1, .getfield 93, 3), (4, .iload_n 3, 1), (5, .aload_n 0, 1), (6, .getfield 21, 3), (9, .iload_n 2, 1), (10, .iconst 2, 1), (11, .iadd, 1), (12, .iaload, 1), (13, .iastore, 1), (14, .aload_n 1, 1), (15, .getfield 96, 3), (18, .iload_n 3, 1), (19, .aload_n 0, 1), (20, .getfield 21, 3), (23, .iload_n 2, 1)]
set_option maxRecDepth 100000 in
theorem xi_ok128_0 : xi_ok cX5_applyArc xi_128_0 = true := by decide +kernel
def xi_128_1 : XIs := [(24, .iconst 3, 1), (25, .iadd, 1), (26, .iaload, 1), (27, .iastore, 1), (28, .aload_n 1, 1), (29, .getfield 99, 3), (32, .iload_n 3, 1), (33, .aload_n 0, 1), (34, .getfield 21, 3), (37, .iload_n 2, 1), (38, .iconst 4, 1), (39, .iadd, 1), (40, .iaload, 1), (41, .iastore, 1), (42, .aload_n 1, 1), (43, .getfield 102, 3)]
set_option maxRecDepth 100000 in
theorem xi_ok128_1 : xi_ok cX5_applyArc xi_128_1 = true := by decide +kernel
def xi_128_2 : XIs := [(46, .iload_n 3, 1), (47, .aload_n 0, 1), (48, .getfield 21, 3), (51, .iload_n 2, 1), (52, .iconst 5, 1), (53, .iadd, 1), (54, .iaload, 1), (55, .iastore, 1), (56, .aload_n 1, 1), (57, .getfield 105, 3), (60, .iload_n 3, 1), (61, .aload_n 0, 1), (62, .getfield 21, 3), (65, .iload_n 2, 1), (66, .bipush 6, 2), (68, .iadd, 1)]
set_option maxRecDepth 100000 in
theorem xi_ok128_2 : xi_ok cX5_applyArc xi_128_2 = true := by decide +kernel
def xi_128_3 : XIs := [(69, .iaload, 1), (70, .iastore, 1), (71, .aload_n 1, 1), (72, .dup, 1), (73, .getfield 108, 3), (76, .iconst 1, 1), (77, .iadd, 1), (78, .putfield 108, 3), (81, .aload_n 1, 1), (82, .aload_n 1, 1), (83, .getfield 111, 3), (86, .iload_n 3, 1), (87, .iconst 1, 1), (88, .iadd, 1), (89, .invokestatic 69, 3), (92, .putfield 111, 3)]
set_option maxRecDepth 100000 in
theorem xi_ok128_3 : xi_ok cX5_applyArc xi_128_3 = true := by decide +kernel
def xi_128_4 : XIs := [(95, .return_, 1)]
set_option maxRecDepth 100000 in
theorem xi_ok128_4 : xi_ok cX5_applyArc xi_128_4 = true := by decide +kernel
def xi_128 (pc : Nat) : XIs := cond (Nat.blt pc 46) (cond (Nat.blt pc 24) (xi_128_0) (xi_128_1)) (cond (Nat.blt pc 69) (xi_128_2) (cond (Nat.blt pc 95) (xi_128_3) (xi_128_4)))
theorem xi_ok128 (pc : Nat) : xi_ok cX5_applyArc (xi_128 pc) = true := xi_c (xi_c (xi_ok128_0) (xi_ok128_1)) (xi_c (xi_ok128_2) (xi_c (xi_ok128_3) (xi_ok128_4)))
def xi_129_0 : XIs := [(0, .iload_n 3, 1), (1, .ifCond .ne 14, 3), (4, .aload_n 1, 1), (5, .getfield 99, 3), (8, .iload_n 2, 1), (9, .iload 4, 2), (11, .iastore, 1), (12, .goto 27, 3), (15, .iload_n 3, 1), (16, .iconst 1, 1), (17, .if_icmp .ne 14, 3), (20, .aload_n 1, 1), (21, .getfield 102, 3), (24, .iload_n 2, 1), (25, .iload 4, 2), (27, .iastore, 1)]
set_option maxRecDepth 100000 in
theorem xi_ok129_0 : xi_ok cX5_applyValue xi_129_0 = true := by decide +kernel
def xi_129_1 : XIs := [(28, .goto 11, 3), (31, .aload_n 1, 1), (32, .getfield 105, 3), (35, .iload_n 2, 1), (36, .iload 4, 2), (38, .iastore, 1), (39, .return_, 1)]
set_option maxRecDepth 100000 in
theorem xi_ok129_1 : xi_ok cX5_applyValue xi_129_1 = true := by decide +kernel
def xi_129 (pc : Nat) : XIs := cond (Nat.blt pc 28) (xi_129_0) (xi_129_1)
theorem xi_ok129 (pc : Nat) : xi_ok cX5_applyValue (xi_129 pc) = true := xi_c (xi_ok129_0) (xi_ok129_1)
def xi_130_0 : XIs := [(0, .iload_n 2, 1), (1, .aload_n 1, 1), (2, .getfield 28, 3), (5, .if_icmp .ge 7, 3), (8, .aload_n 1, 1), (9, .invokevirtual 114, 3), (12, .aload_n 1, 1), (13, .getfield 28, 3), (16, .istore_n 3, 1), (17, .iload_n 3, 1), (18, .iload_n 2, 1), (19, .if_icmp .ge 14, 3), (22, .aload_n 0, 1), (23, .aload_n 1, 1), (24, .invokevirtual 59, 3), (27, .iinc 3 1, 3)]
set_option maxRecDepth 100000 in
theorem xi_ok130_0 : xi_ok cX5_replay xi_130_0 = true := by decide +kernel
def xi_130_1 : XIs := [(30, .goto (-13), 3), (33, .return_, 1)]
set_option maxRecDepth 100000 in
theorem xi_ok130_1 : xi_ok cX5_replay xi_130_1 = true := by decide +kernel
def xi_130 (pc : Nat) : XIs := cond (Nat.blt pc 30) (xi_130_0) (xi_130_1)
theorem xi_ok130 (pc : Nat) : xi_ok cX5_replay (xi_130 pc) = true := xi_c (xi_ok130_0) (xi_ok130_1)
def xi_131_0 : XIs := [(0, .aload_n 0, 1), (1, .getfield 18, 3), (4, .aload_n 0, 1), (5, .getfield 12, 3), (8, .invokevirtual 117, 3), (11, .aload_n 1, 1), (12, .invokevirtual 119, 3), (15, .iconst 0, 1), (16, .istore_n 2, 1), (17, .iload_n 2, 1), (18, .sipush 1000, 3), (21, .if_icmp .gt 47, 3), (24, .aload_n 1, 1), (25, .bipush 7, 2), (27, .iconst 1, 1), (28, .invokevirtual 124, 3)]
set_option maxRecDepth 100000 in
theorem xi_ok131_0 : xi_ok cX5_carryOut xi_131_0 = true := by decide +kernel
def xi_131_1 : XIs := [(31, .aload_n 1, 1), (32, .getfield 128, 3), (35, .ifCond .ne 5, 3), (38, .iload_n 2, 1), (39, .ireturn, 1), (40, .aload_n 0, 1), (41, .aload_n 1, 1), (42, .invokevirtual 131, 3), (45, .ifCond .ne 17, 3), (48, .aload_n 0, 1), (49, .getfield 12, 3), (52, .aload_n 0, 1), (53, .getfield 18, 3), (56, .invokevirtual 117, 3), (59, .bipush (-4), 2), (61, .ireturn, 1)]
set_option maxRecDepth 100000 in
theorem xi_ok131_1 : xi_ok cX5_carryOut xi_131_1 = true := by decide +kernel
def xi_131_2 : XIs := [(62, .iinc 2 1, 3), (65, .goto (-48), 3), (68, .bipush (-4), 2), (70, .ireturn, 1)]
set_option maxRecDepth 100000 in
theorem xi_ok131_2 : xi_ok cX5_carryOut xi_131_2 = true := by decide +kernel
def xi_131 (pc : Nat) : XIs := cond (Nat.blt pc 31) (xi_131_0) (cond (Nat.blt pc 62) (xi_131_1) (xi_131_2))
theorem xi_ok131 (pc : Nat) : xi_ok cX5_carryOut (xi_131 pc) = true := xi_c (xi_ok131_0) (xi_c (xi_ok131_1) (xi_ok131_2))
def xi_132_0 : XIs := [(0, .aload_n 1, 1), (1, .getfield 135, 3), (4, .istore_n 2, 1), (5, .aload_n 1, 1), (6, .getfield 128, 3), (9, .iconst 1, 1), (10, .if_icmp .ne 10, 3), (13, .aload_n 1, 1), (14, .getfield 138, 3), (17, .goto 4, 3), (20, .iconst (-1), 1), (21, .istore_n 3, 1), (22, .iload_n 3, 1), (23, .invokestatic 141, 3), (26, .astore 4, 2), (28, .aload 4, 2)]
set_option maxRecDepth 100000 in
theorem xi_ok132_0 : xi_ok cX5_readCommand xi_132_0 = true := by decide +kernel
def xi_132_1 : XIs := [(30, .invokevirtual 145, 3), (33, .ifCond .eq 10, 3), (36, .aload_n 1, 1), (37, .iconst 2, 1), (38, .iconst 3, 1), (39, .invokevirtual 151, 3), (42, .ireturn, 1), (43, .iconst 0, 1), (44, .istore 5, 2), (46, .iload 5, 2), (48, .aload 4, 2), (50, .invokevirtual 155, 3), (53, .if_icmp .ge 72, 3), (56, .iload 5, 2), (58, .aload_n 0, 1), (59, .getfield 25, 3)]
set_option maxRecDepth 100000 in
theorem xi_ok132_1 : xi_ok cX5_readCommand xi_132_1 = true := by decide +kernel
def xi_132_2 : XIs := [(62, .arraylength, 1), (63, .if_icmp .ge 62, 3), (66, .aload_n 1, 1), (67, .bipush 7, 2), (69, .iconst 1, 1), (70, .invokevirtual 124, 3), (73, .aload 4, 2), (75, .iload 5, 2), (77, .invokevirtual 158, 3), (80, .bipush 108, 2), (82, .if_icmp .ne 7, 3), (85, .iconst 1, 1), (86, .goto 4, 3), (89, .iconst 2, 1), (90, .istore 6, 2), (92, .aload_n 1, 1)]
set_option maxRecDepth 100000 in
theorem xi_ok132_2 : xi_ok cX5_readCommand xi_132_2 = true := by decide +kernel
def xi_132_3 : XIs := [(93, .getfield 128, 3), (96, .iload 6, 2), (98, .if_icmp .eq 10, 3), (101, .aload_n 1, 1), (102, .iconst 2, 1), (103, .iconst 3, 1), (104, .invokevirtual 151, 3), (107, .ireturn, 1), (108, .aload_n 0, 1), (109, .getfield 25, 3), (112, .iload 5, 2), (114, .aload_n 1, 1), (115, .getfield 138, 3), (118, .iastore, 1), (119, .iinc 5 1, 3), (122, .goto (-76), 3)]
set_option maxRecDepth 100000 in
theorem xi_ok132_3 : xi_ok cX5_readCommand xi_132_3 = true := by decide +kernel
def xi_132_4 : XIs := [(125, .aload_n 1, 1), (126, .bipush 7, 2), (128, .iconst 1, 1), (129, .invokevirtual 124, 3), (132, .aload_n 1, 1), (133, .bipush 59, 2), (135, .invokevirtual 162, 3), (138, .ifCond .ne 10, 3), (141, .aload_n 1, 1), (142, .iconst 2, 1), (143, .iconst 3, 1), (144, .invokevirtual 151, 3), (147, .ireturn, 1), (148, .aload_n 0, 1), (149, .iload_n 3, 1), (150, .invokevirtual 165, 3)]
set_option maxRecDepth 100000 in
theorem xi_ok132_4 : xi_ok cX5_readCommand xi_132_4 = true := by decide +kernel
def xi_132_5 : XIs := [(153, .ifCond .ne 12, 3), (156, .aload_n 1, 1), (157, .iconst 4, 1), (158, .iload_n 2, 1), (159, .invokevirtual 168, 3), (162, .ifCond .eq 7, 3), (165, .iconst 1, 1), (166, .goto 4, 3), (169, .iconst 0, 1), (170, .ireturn, 1)]
set_option maxRecDepth 100000 in
theorem xi_ok132_5 : xi_ok cX5_readCommand xi_132_5 = true := by decide +kernel
def xi_132 (pc : Nat) : XIs := cond (Nat.blt pc 93) (cond (Nat.blt pc 30) (xi_132_0) (cond (Nat.blt pc 62) (xi_132_1) (xi_132_2))) (cond (Nat.blt pc 125) (xi_132_3) (cond (Nat.blt pc 153) (xi_132_4) (xi_132_5)))
theorem xi_ok132 (pc : Nat) : xi_ok cX5_readCommand (xi_132 pc) = true := xi_c (xi_c (xi_ok132_0) (xi_c (xi_ok132_1) (xi_ok132_2))) (xi_c (xi_ok132_3) (xi_c (xi_ok132_4) (xi_ok132_5)))
def xi_133_0 : XIs := [(0, .iload_n 0, 1), (1, .lookupswitch 55 #[(0, 46), (13, 43), (19, 49), (22, 52)], 43), (44, .ldc 171, 2), (46, .areturn, 1), (47, .ldc 173, 2), (49, .areturn, 1), (50, .ldc 175, 2), (52, .areturn, 1), (53, .ldc 177, 2), (55, .areturn, 1), (56, .ldc 179, 2), (58, .areturn, 1)]
set_option maxRecDepth 100000 in
theorem xi_ok133_0 : xi_ok cX5_shapeOf xi_133_0 = true := by decide +kernel
def xi_133 (pc : Nat) : XIs := xi_133_0
theorem xi_ok133 (pc : Nat) : xi_ok cX5_shapeOf (xi_133 pc) = true := xi_ok133_0
def xi_134_0 : XIs := [(0, .aload_n 0, 1), (1, .invokevirtual 181, 3), (4, .ifCond .eq 5, 3), (7, .iconst 0, 1), (8, .ireturn, 1), (9, .iload_n 1, 1), (10, .bipush 13, 2), (12, .if_icmp .ne 34, 3), (15, .aload_n 0, 1), (16, .getfield 12, 3), (19, .getfield 45, 3), (22, .bipush 32, 2), (24, .if_icmp .ge 20, 3), (27, .aload_n 0, 1), (28, .aload_n 0, 1), (29, .getfield 25, 3)]
set_option maxRecDepth 100000 in
theorem xi_ok134_0 : xi_ok cX5_doCommand xi_134_0 = true := by decide +kernel
def xi_134_1 : XIs := [(32, .iconst 0, 1), (33, .iaload, 1), (34, .invokevirtual 184, 3), (37, .ifCond .lt 7, 3), (40, .iconst 1, 1), (41, .goto 4, 3), (44, .iconst 0, 1), (45, .ireturn, 1), (46, .iload_n 1, 1), (47, .ifCond .ne 85, 3), (50, .aload_n 0, 1), (51, .aload_n 0, 1), (52, .getfield 25, 3), (55, .iconst 0, 1), (56, .iaload, 1), (57, .aload_n 0, 1)]
set_option maxRecDepth 100000 in
theorem xi_ok134_1 : xi_ok cX5_doCommand xi_134_1 = true := by decide +kernel
def xi_134_2 : XIs := [(58, .getfield 25, 3), (61, .iconst 1, 1), (62, .iaload, 1), (63, .aload_n 0, 1), (64, .getfield 25, 3), (67, .iconst 2, 1), (68, .iaload, 1), (69, .aload_n 0, 1), (70, .getfield 25, 3), (73, .iconst 3, 1), (74, .iaload, 1), (75, .aload_n 0, 1), (76, .getfield 25, 3), (79, .iconst 4, 1), (80, .iaload, 1), (81, .invokevirtual 188, 3)]
set_option maxRecDepth 100000 in
theorem xi_ok134_2 : xi_ok cX5_doCommand xi_134_2 = true := by decide +kernel
def xi_134_3 : XIs := [(84, .ifCond .eq 46, 3), (87, .aload_n 0, 1), (88, .aload_n 0, 1), (89, .getfield 25, 3), (92, .iconst 0, 1), (93, .iaload, 1), (94, .aload_n 0, 1), (95, .getfield 25, 3), (98, .iconst 1, 1), (99, .iaload, 1), (100, .aload_n 0, 1), (101, .getfield 25, 3), (104, .iconst 2, 1), (105, .iaload, 1), (106, .aload_n 0, 1), (107, .getfield 25, 3)]
set_option maxRecDepth 100000 in
theorem xi_ok134_3 : xi_ok cX5_doCommand xi_134_3 = true := by decide +kernel
def xi_134_4 : XIs := [(110, .iconst 3, 1), (111, .iaload, 1), (112, .aload_n 0, 1), (113, .getfield 25, 3), (116, .iconst 4, 1), (117, .iaload, 1), (118, .invokevirtual 192, 3), (121, .bipush (-3), 2), (123, .if_icmp .eq 7, 3), (126, .iconst 1, 1), (127, .goto 4, 3), (130, .iconst 0, 1), (131, .ireturn, 1), (132, .aload_n 0, 1), (133, .getfield 12, 3), (136, .aload_n 0, 1)]
set_option maxRecDepth 100000 in
theorem xi_ok134_4 : xi_ok cX5_doCommand xi_134_4 = true := by decide +kernel
def xi_134_5 : XIs := [(137, .getfield 25, 3), (140, .iconst 0, 1), (141, .iaload, 1), (142, .invokevirtual 196, 3), (145, .ifCond .ne 5, 3), (148, .iconst 0, 1), (149, .ireturn, 1), (150, .iload_n 1, 1), (151, .bipush 19, 2), (153, .if_icmp .ne 15, 3), (156, .aload_n 0, 1), (157, .aload_n 0, 1), (158, .getfield 25, 3), (161, .iconst 0, 1), (162, .iaload, 1), (163, .invokevirtual 199, 3)]
set_option maxRecDepth 100000 in
theorem xi_ok134_5 : xi_ok cX5_doCommand xi_134_5 = true := by decide +kernel
def xi_134_6 : XIs := [(166, .iconst 1, 1), (167, .ireturn, 1), (168, .aload_n 0, 1), (169, .getfield 25, 3), (172, .iconst 1, 1), (173, .iaload, 1), (174, .invokestatic 36, 3), (177, .ifCond .ne 5, 3), (180, .iconst 0, 1), (181, .ireturn, 1), (182, .aload_n 0, 1), (183, .aload_n 0, 1), (184, .getfield 25, 3), (187, .iconst 0, 1), (188, .iaload, 1), (189, .iconst 0, 1)]
set_option maxRecDepth 100000 in
theorem xi_ok134_6 : xi_ok cX5_doCommand xi_134_6 = true := by decide +kernel
def xi_134_7 : XIs := [(190, .aload_n 0, 1), (191, .getfield 25, 3), (194, .iconst 1, 1), (195, .iaload, 1), (196, .invokevirtual 202, 3), (199, .iconst 1, 1), (200, .ireturn, 1)]
set_option maxRecDepth 100000 in
theorem xi_ok134_7 : xi_ok cX5_doCommand xi_134_7 = true := by decide +kernel
def xi_134 (pc : Nat) : XIs := cond (Nat.blt pc 110) (cond (Nat.blt pc 58) (cond (Nat.blt pc 32) (xi_134_0) (xi_134_1)) (cond (Nat.blt pc 84) (xi_134_2) (xi_134_3))) (cond (Nat.blt pc 166) (cond (Nat.blt pc 137) (xi_134_4) (xi_134_5)) (cond (Nat.blt pc 190) (xi_134_6) (xi_134_7)))
theorem xi_ok134 (pc : Nat) : xi_ok cX5_doCommand (xi_134 pc) = true := xi_c (xi_c (xi_c (xi_ok134_0) (xi_ok134_1)) (xi_c (xi_ok134_2) (xi_ok134_3))) (xi_c (xi_c (xi_ok134_4) (xi_ok134_5)) (xi_c (xi_ok134_6) (xi_ok134_7)))
def xi_135_0 : XIs := [(0, .aload_n 0, 1), (1, .invokespecial 3, 3), (4, .aload_n 0, 1), (5, .iconst (-1), 1), (6, .putfield 9, 3), (9, .aload_n 0, 1), (10, .bipush 32, 2), (12, .newarray .int, 2), (14, .putfield 15, 3), (17, .aload_n 0, 1), (18, .iconst (-1), 1), (19, .putfield 19, 3), (22, .aload_n 0, 1), (23, .bipush 32, 2), (25, .newarray .int, 2), (27, .putfield 22, 3)]
set_option maxRecDepth 100000 in
theorem xi_ok135_0 : xi_ok cX6_init xi_135_0 = true := by decide +kernel
def xi_135_1 : XIs := [(30, .aload_n 0, 1), (31, .bipush 32, 2), (33, .newarray .int, 2), (35, .putfield 25, 3), (38, .return_, 1)]
set_option maxRecDepth 100000 in
theorem xi_ok135_1 : xi_ok cX6_init xi_135_1 = true := by decide +kernel
def xi_135 (pc : Nat) : XIs := cond (Nat.blt pc 30) (xi_135_0) (xi_135_1)
theorem xi_ok135 (pc : Nat) : xi_ok cX6_init (xi_135 pc) = true := xi_c (xi_ok135_0) (xi_ok135_1)
def xi_136_0 : XIs := [(0, .aload_n 1, 1), (1, .invokevirtual 28, 3), (4, .aload_n 1, 1), (5, .getfield 33, 3), (8, .iconst 1, 1), (9, .iload_n 2, 1), (10, .ishl, 1), (11, .iconst (-1), 1), (12, .invokestatic 36, 3), (15, .aload_n 1, 1), (16, .getfield 40, 3), (19, .iconst 1, 1), (20, .iload_n 2, 1), (21, .ishl, 1), (22, .iconst (-1), 1), (23, .invokestatic 36, 3)]
set_option maxRecDepth 100000 in
theorem xi_ok136_0 : xi_ok cX6_strongPart xi_136_0 = true := by decide +kernel
def xi_136_1 : XIs := [(26, .iand, 1), (27, .invokestatic 43, 3), (30, .ireturn, 1)]
set_option maxRecDepth 100000 in
theorem xi_ok136_1 : xi_ok cX6_strongPart xi_136_1 = true := by decide +kernel
def xi_136 (pc : Nat) : XIs := cond (Nat.blt pc 26) (xi_136_0) (xi_136_1)
theorem xi_ok136 (pc : Nat) : xi_ok cX6_strongPart (xi_136 pc) = true := xi_c (xi_ok136_0) (xi_ok136_1)
def xi_137_0 : XIs := [(0, .aload_n 1, 1), (1, .invokevirtual 28, 3), (4, .aload_n 1, 1), (5, .getfield 47, 3), (8, .iconst 1, 1), (9, .iload_n 2, 1), (10, .ishl, 1), (11, .iconst (-1), 1), (12, .invokestatic 36, 3), (15, .invokestatic 43, 3), (18, .ireturn, 1)]
set_option maxRecDepth 100000 in
theorem xi_ok137_0 : xi_ok cX6_weakPart xi_137_0 = true := by decide +kernel
def xi_137 (pc : Nat) : XIs := xi_137_0
theorem xi_ok137 (pc : Nat) : xi_ok cX6_weakPart (xi_137 pc) = true := xi_ok137_0
def xi_138_0 : XIs := [(0, .aload_n 1, 1), (1, .iload_n 2, 1), (2, .invokevirtual 50, 3), (5, .ifCond .ne 5, 3), (8, .iconst 0, 1), (9, .ireturn, 1), (10, .aload_n 1, 1), (11, .getfield 54, 3), (14, .iload_n 2, 1), (15, .iaload, 1), (16, .istore_n 3, 1), (17, .aload_n 1, 1), (18, .getfield 57, 3), (21, .iload_n 2, 1), (22, .iaload, 1), (23, .istore 4, 2)]
set_option maxRecDepth 100000 in
theorem xi_ok138_0 : xi_ok cX6_isBridge xi_138_0 = true := by decide +kernel
def xi_138_1 : XIs := [(25, .iconst 0, 1), (26, .istore 5, 2), (28, .iload 5, 2), (30, .aload_n 1, 1), (31, .getfield 60, 3), (34, .if_icmp .ge 72, 3), (37, .iload 5, 2), (39, .iload_n 2, 1), (40, .if_icmp .eq 60, 3), (43, .aload_n 1, 1), (44, .iload 5, 2), (46, .invokevirtual 50, 3), (49, .ifCond .eq 51, 3), (52, .aload_n 1, 1), (53, .getfield 54, 3), (56, .iload 5, 2)]
set_option maxRecDepth 100000 in
theorem xi_ok138_1 : xi_ok cX6_isBridge xi_138_1 = true := by decide +kernel
def xi_138_2 : XIs := [(58, .iaload, 1), (59, .iload_n 3, 1), (60, .if_icmp .ne 15, 3), (63, .aload_n 1, 1), (64, .getfield 57, 3), (67, .iload 5, 2), (69, .iaload, 1), (70, .iload 4, 2), (72, .if_icmp .eq 26, 3), (75, .aload_n 1, 1), (76, .getfield 54, 3), (79, .iload 5, 2), (81, .iaload, 1), (82, .iload 4, 2), (84, .if_icmp .ne 16, 3), (87, .aload_n 1, 1)]
set_option maxRecDepth 100000 in
theorem xi_ok138_2 : xi_ok cX6_isBridge xi_138_2 = true := by decide +kernel
def xi_138_3 : XIs := [(88, .getfield 57, 3), (91, .iload 5, 2), (93, .iaload, 1), (94, .iload_n 3, 1), (95, .if_icmp .ne 5, 3), (98, .iconst 0, 1), (99, .ireturn, 1), (100, .iinc 5 1, 3), (103, .goto (-75), 3), (106, .aload_n 1, 1), (107, .invokevirtual 28, 3), (110, .aload_n 1, 1), (111, .getfield 47, 3), (114, .aload_n 1, 1), (115, .getfield 47, 3), (118, .iload_n 3, 1)]
set_option maxRecDepth 100000 in
theorem xi_ok138_3 : xi_ok cX6_isBridge xi_138_3 = true := by decide +kernel
def xi_138_4 : XIs := [(119, .iaload, 1), (120, .iconst 1, 1), (121, .iload 4, 2), (123, .ishl, 1), (124, .iconst (-1), 1), (125, .ixor, 1), (126, .iand, 1), (127, .iconst 1, 1), (128, .iload_n 3, 1), (129, .ishl, 1), (130, .iconst (-1), 1), (131, .ixor, 1), (132, .invokestatic 36, 3), (135, .istore 5, 2), (137, .iload 5, 2), (139, .iload 4, 2)]
set_option maxRecDepth 100000 in
theorem xi_ok138_4 : xi_ok cX6_isBridge xi_138_4 = true := by decide +kernel
def xi_138_5 : XIs := [(141, .ishr, 1), (142, .iconst 1, 1), (143, .iand, 1), (144, .ifCond .ne 7, 3), (147, .iconst 1, 1), (148, .goto 4, 3), (151, .iconst 0, 1), (152, .ireturn, 1)]
set_option maxRecDepth 100000 in
theorem xi_ok138_5 : xi_ok cX6_isBridge xi_138_5 = true := by decide +kernel
def xi_138 (pc : Nat) : XIs := cond (Nat.blt pc 88) (cond (Nat.blt pc 25) (xi_138_0) (cond (Nat.blt pc 58) (xi_138_1) (xi_138_2))) (cond (Nat.blt pc 119) (xi_138_3) (cond (Nat.blt pc 141) (xi_138_4) (xi_138_5)))
theorem xi_ok138 (pc : Nat) : xi_ok cX6_isBridge (xi_138 pc) = true := xi_c (xi_c (xi_ok138_0) (xi_c (xi_ok138_1) (xi_ok138_2))) (xi_c (xi_ok138_3) (xi_c (xi_ok138_4) (xi_ok138_5)))
def xi_139_0 : XIs := [(0, .aload_n 1, 1), (1, .invokevirtual 28, 3), (4, .aload_n 1, 1), (5, .getfield 47, 3), (8, .iload_n 2, 1), (9, .iaload, 1), (10, .istore_n 3, 1), (11, .aload_n 1, 1), (12, .getfield 47, 3), (15, .iload_n 3, 1), (16, .iload_n 3, 1), (17, .ineg, 1), (18, .iand, 1), (19, .iconst 1, 1), (20, .iload_n 2, 1), (21, .ishl, 1)]
set_option maxRecDepth 100000 in
theorem xi_ok139_0 : xi_ok cX6_isCut xi_139_0 = true := by decide +kernel
def xi_139_1 : XIs := [(22, .iconst (-1), 1), (23, .ixor, 1), (24, .invokestatic 36, 3), (27, .istore 4, 2), (29, .iload_n 3, 1), (30, .iload 4, 2), (32, .iconst (-1), 1), (33, .ixor, 1), (34, .iand, 1), (35, .ifCond .eq 7, 3), (38, .iconst 1, 1), (39, .goto 4, 3), (42, .iconst 0, 1), (43, .ireturn, 1)]
set_option maxRecDepth 100000 in
theorem xi_ok139_1 : xi_ok cX6_isCut xi_139_1 = true := by decide +kernel
def xi_139 (pc : Nat) : XIs := cond (Nat.blt pc 22) (xi_139_0) (xi_139_1)
theorem xi_ok139 (pc : Nat) : xi_ok cX6_isCut (xi_139 pc) = true := xi_c (xi_ok139_0) (xi_ok139_1)
def xi_140_0 : XIs := [(0, .aload_n 0, 1), (1, .getfield 9, 3), (4, .aload_n 1, 1), (5, .getfield 63, 3), (8, .if_icmp .eq 16, 3), (11, .aload_n 0, 1), (12, .aload_n 1, 1), (13, .getfield 63, 3), (16, .putfield 9, 3), (19, .aload_n 0, 1), (20, .aload_n 1, 1), (21, .invokevirtual 66, 3), (24, .iload_n 2, 1), (25, .aload_n 0, 1), (26, .getfield 70, 3), (29, .if_icmp .ge 12, 3)]
set_option maxRecDepth 100000 in
theorem xi_ok140_0 : xi_ok cX6_ordered xi_140_0 = true := by decide +kernel
def xi_140_1 : XIs := [(32, .aload_n 0, 1), (33, .getfield 15, 3), (36, .iload_n 2, 1), (37, .iaload, 1), (38, .goto 4, 3), (41, .iconst (-1), 1), (42, .ireturn, 1)]
set_option maxRecDepth 100000 in
theorem xi_ok140_1 : xi_ok cX6_ordered xi_140_1 = true := by decide +kernel
def xi_140 (pc : Nat) : XIs := cond (Nat.blt pc 32) (xi_140_0) (xi_140_1)
theorem xi_ok140 (pc : Nat) : xi_ok cX6_ordered (xi_140 pc) = true := xi_c (xi_ok140_0) (xi_ok140_1)
def xi_141_0 : XIs := [(0, .aload_n 1, 1), (1, .invokevirtual 28, 3), (4, .aload_n 1, 1), (5, .invokevirtual 73, 3), (8, .istore_n 2, 1), (9, .iconst 0, 1), (10, .istore_n 3, 1), (11, .iload_n 3, 1), (12, .aload_n 1, 1), (13, .getfield 77, 3), (16, .if_icmp .ge 45, 3), (19, .aload_n 1, 1), (20, .iload_n 2, 1), (21, .invokestatic 80, 3), (24, .istore 4, 2), (26, .iload 4, 2)]
set_option maxRecDepth 100000 in
theorem xi_ok141_0 : xi_ok cX6_makeOrder xi_141_0 = true := by decide +kernel
def xi_141_1 : XIs := [(28, .iconst (-1), 1), (29, .if_icmp .ne 9, 3), (32, .aload_n 0, 1), (33, .iconst 0, 1), (34, .putfield 70, 3), (37, .return_, 1), (38, .aload_n 0, 1), (39, .getfield 15, 3), (42, .iload_n 3, 1), (43, .iload 4, 2), (45, .iastore, 1), (46, .iload_n 2, 1), (47, .iconst 1, 1), (48, .iload 4, 2), (50, .ishl, 1), (51, .iconst (-1), 1)]
set_option maxRecDepth 100000 in
theorem xi_ok141_1 : xi_ok cX6_makeOrder xi_141_1 = true := by decide +kernel
def xi_141_2 : XIs := [(52, .ixor, 1), (53, .iand, 1), (54, .istore_n 2, 1), (55, .iinc 3 1, 3), (58, .goto (-47), 3), (61, .aload_n 0, 1), (62, .aload_n 1, 1), (63, .getfield 77, 3), (66, .putfield 70, 3), (69, .return_, 1)]
set_option maxRecDepth 100000 in
theorem xi_ok141_2 : xi_ok cX6_makeOrder xi_141_2 = true := by decide +kernel
def xi_141 (pc : Nat) : XIs := cond (Nat.blt pc 28) (xi_141_0) (cond (Nat.blt pc 52) (xi_141_1) (xi_141_2))
theorem xi_ok141 (pc : Nat) : xi_ok cX6_makeOrder (xi_141 pc) = true := xi_c (xi_ok141_0) (xi_c (xi_ok141_1) (xi_ok141_2))
def xi_142_0 : XIs := [(0, .iload_n 1, 1), (1, .istore_n 2, 1), (2, .iload_n 2, 1), (3, .ifCond .eq 31, 3), (6, .aload_n 0, 1), (7, .getfield 40, 3), (10, .iload_n 2, 1), (11, .invokestatic 43, 3), (14, .iaload, 1), (15, .iload_n 1, 1), (16, .iand, 1), (17, .ifCond .ne 8, 3), (20, .iload_n 2, 1), (21, .invokestatic 43, 3), (24, .ireturn, 1), (25, .iload_n 2, 1)]
set_option maxRecDepth 100000 in
theorem xi_ok142_0 : xi_ok cX6_firstFree xi_142_0 = true := by decide +kernel
def xi_142_1 : XIs := [(26, .iload_n 2, 1), (27, .iconst 1, 1), (28, .isub, 1), (29, .iand, 1), (30, .istore_n 2, 1), (31, .goto (-29), 3), (34, .iconst (-1), 1), (35, .ireturn, 1)]
set_option maxRecDepth 100000 in
theorem xi_ok142_1 : xi_ok cX6_firstFree xi_142_1 = true := by decide +kernel
def xi_142 (pc : Nat) : XIs := cond (Nat.blt pc 26) (xi_142_0) (xi_142_1)
theorem xi_ok142 (pc : Nat) : xi_ok cX6_firstFree (xi_142 pc) = true := xi_c (xi_ok142_0) (xi_ok142_1)
def xi_143_0 : XIs := [(0, .aload_n 0, 1), (1, .getfield 19, 3), (4, .aload_n 1, 1), (5, .getfield 63, 3), (8, .if_icmp .eq 16, 3), (11, .aload_n 0, 1), (12, .aload_n 1, 1), (13, .getfield 63, 3), (16, .putfield 19, 3), (19, .aload_n 0, 1), (20, .aload_n 1, 1), (21, .invokevirtual 84, 3), (24, .aload_n 0, 1), (25, .getfield 22, 3), (28, .iload_n 2, 1), (29, .iaload, 1)]
set_option maxRecDepth 100000 in
theorem xi_ok143_0 : xi_ok cX6_coreOf xi_143_0 = true := by decide +kernel
def xi_143_1 : XIs := [(30, .ireturn, 1)]
set_option maxRecDepth 100000 in
theorem xi_ok143_1 : xi_ok cX6_coreOf xi_143_1 = true := by decide +kernel
def xi_143 (pc : Nat) : XIs := cond (Nat.blt pc 30) (xi_143_0) (xi_143_1)
theorem xi_ok143 (pc : Nat) : xi_ok cX6_coreOf (xi_143 pc) = true := xi_c (xi_ok143_0) (xi_ok143_1)
def xi_144_0 : XIs := [(0, .aload_n 1, 1), (1, .invokevirtual 28, 3), (4, .aload_n 1, 1), (5, .invokevirtual 73, 3), (8, .istore_n 2, 1), (9, .iconst 0, 1), (10, .istore_n 3, 1), (11, .aload_n 1, 1), (12, .aload_n 0, 1), (13, .getfield 25, 3), (16, .invokevirtual 87, 3), (19, .iconst 0, 1), (20, .istore 4, 2), (22, .iload 4, 2), (24, .aload_n 1, 1), (25, .getfield 77, 3)]
set_option maxRecDepth 100000 in
theorem xi_ok144_0 : xi_ok cX6_peel xi_144_0 = true := by decide +kernel
def xi_144_1 : XIs := [(28, .if_icmp .ge 52, 3), (31, .aload_n 0, 1), (32, .iload_n 2, 1), (33, .invokevirtual 91, 3), (36, .istore 5, 2), (38, .iload_n 3, 1), (39, .aload_n 0, 1), (40, .getfield 25, 3), (43, .iload 5, 2), (45, .iaload, 1), (46, .invokestatic 94, 3), (49, .istore_n 3, 1), (50, .aload_n 0, 1), (51, .getfield 22, 3), (54, .iload 5, 2), (56, .iload_n 3, 1)]
set_option maxRecDepth 100000 in
theorem xi_ok144_1 : xi_ok cX6_peel xi_144_1 = true := by decide +kernel
def xi_144_2 : XIs := [(57, .iastore, 1), (58, .iload_n 2, 1), (59, .iconst 1, 1), (60, .iload 5, 2), (62, .ishl, 1), (63, .iconst (-1), 1), (64, .ixor, 1), (65, .iand, 1), (66, .istore_n 2, 1), (67, .aload_n 0, 1), (68, .aload_n 1, 1), (69, .iload 5, 2), (71, .invokevirtual 100, 3), (74, .iinc 4 1, 3), (77, .goto (-55), 3), (80, .return_, 1)]
set_option maxRecDepth 100000 in
theorem xi_ok144_2 : xi_ok cX6_peel xi_144_2 = true := by decide +kernel
def xi_144 (pc : Nat) : XIs := cond (Nat.blt pc 28) (xi_144_0) (cond (Nat.blt pc 57) (xi_144_1) (xi_144_2))
theorem xi_ok144 (pc : Nat) : xi_ok cX6_peel (xi_144 pc) = true := xi_c (xi_ok144_0) (xi_c (xi_ok144_1) (xi_ok144_2))
def xi_145_0 : XIs := [(0, .iload_n 1, 1), (1, .invokestatic 43, 3), (4, .istore_n 2, 1), (5, .iload_n 1, 1), (6, .istore_n 3, 1), (7, .iload_n 3, 1), (8, .ifCond .eq 35, 3), (11, .aload_n 0, 1), (12, .getfield 25, 3), (15, .iload_n 3, 1), (16, .invokestatic 43, 3), (19, .iaload, 1), (20, .aload_n 0, 1), (21, .getfield 25, 3), (24, .iload_n 2, 1), (25, .iaload, 1)]
set_option maxRecDepth 100000 in
theorem xi_ok145_0 : xi_ok cX6_loosest xi_145_0 = true := by decide +kernel
def xi_145_1 : XIs := [(26, .if_icmp .ge 8, 3), (29, .iload_n 3, 1), (30, .invokestatic 43, 3), (33, .istore_n 2, 1), (34, .iload_n 3, 1), (35, .iload_n 3, 1), (36, .iconst 1, 1), (37, .isub, 1), (38, .iand, 1), (39, .istore_n 3, 1), (40, .goto (-33), 3), (43, .iload_n 2, 1), (44, .ireturn, 1)]
set_option maxRecDepth 100000 in
theorem xi_ok145_1 : xi_ok cX6_loosest xi_145_1 = true := by decide +kernel
def xi_145 (pc : Nat) : XIs := cond (Nat.blt pc 26) (xi_145_0) (xi_145_1)
theorem xi_ok145 (pc : Nat) : xi_ok cX6_loosest (xi_145 pc) = true := xi_c (xi_ok145_0) (xi_ok145_1)
def xi_146_0 : XIs := [(0, .aload_n 1, 1), (1, .getfield 104, 3), (4, .iload_n 2, 1), (5, .iaload, 1), (6, .istore_n 3, 1), (7, .iload_n 3, 1), (8, .aload_n 1, 1), (9, .getfield 104, 3), (12, .iload_n 2, 1), (13, .iconst 1, 1), (14, .iadd, 1), (15, .iaload, 1), (16, .if_icmp .ge 29, 3), (19, .aload_n 0, 1), (20, .getfield 25, 3), (23, .aload_n 1, 1)]
set_option maxRecDepth 100000 in
theorem xi_ok146_0 : xi_ok cX6_loosen xi_146_0 = true := by decide +kernel
def xi_146_1 : XIs := [(24, .getfield 57, 3), (27, .aload_n 1, 1), (28, .getfield 107, 3), (31, .iload_n 3, 1), (32, .iaload, 1), (33, .iaload, 1), (34, .dup2, 1), (35, .iaload, 1), (36, .iconst 1, 1), (37, .isub, 1), (38, .iastore, 1), (39, .iinc 3 1, 3), (42, .goto (-35), 3), (45, .aload_n 1, 1), (46, .getfield 110, 3), (49, .iload_n 2, 1)]
set_option maxRecDepth 100000 in
theorem xi_ok146_1 : xi_ok cX6_loosen xi_146_1 = true := by decide +kernel
def xi_146_2 : XIs := [(50, .iaload, 1), (51, .istore_n 3, 1), (52, .iload_n 3, 1), (53, .aload_n 1, 1), (54, .getfield 110, 3), (57, .iload_n 2, 1), (58, .iconst 1, 1), (59, .iadd, 1), (60, .iaload, 1), (61, .if_icmp .ge 29, 3), (64, .aload_n 0, 1), (65, .getfield 25, 3), (68, .aload_n 1, 1), (69, .getfield 54, 3), (72, .aload_n 1, 1), (73, .getfield 113, 3)]
set_option maxRecDepth 100000 in
theorem xi_ok146_2 : xi_ok cX6_loosen xi_146_2 = true := by decide +kernel
def xi_146_3 : XIs := [(76, .iload_n 3, 1), (77, .iaload, 1), (78, .iaload, 1), (79, .dup2, 1), (80, .iaload, 1), (81, .iconst 1, 1), (82, .isub, 1), (83, .iastore, 1), (84, .iinc 3 1, 3), (87, .goto (-35), 3), (90, .return_, 1)]
set_option maxRecDepth 100000 in
theorem xi_ok146_3 : xi_ok cX6_loosen xi_146_3 = true := by decide +kernel
def xi_146 (pc : Nat) : XIs := cond (Nat.blt pc 50) (cond (Nat.blt pc 24) (xi_146_0) (xi_146_1)) (cond (Nat.blt pc 76) (xi_146_2) (xi_146_3))
theorem xi_ok146 (pc : Nat) : xi_ok cX6_loosen (xi_146 pc) = true := xi_c (xi_c (xi_ok146_0) (xi_ok146_1)) (xi_c (xi_ok146_2) (xi_ok146_3))
def xi_147_0 : XIs := [(0, .aload_n 1, 1), (1, .invokevirtual 28, 3), (4, .lconst 0, 1), (5, .lstore_n 2, 1), (6, .iconst 0, 1), (7, .istore 4, 2), (9, .iload 4, 2), (11, .aload_n 1, 1), (12, .getfield 77, 3), (15, .if_icmp .ge 60, 3), (18, .aload_n 1, 1), (19, .getfield 47, 3), (22, .iload 4, 2), (24, .iaload, 1), (25, .istore 5, 2), (27, .iload 5, 2)]
set_option maxRecDepth 100000 in
theorem xi_ok147_0 : xi_ok cX6_triangles xi_147_0 = true := by decide +kernel
def xi_147_1 : XIs := [(29, .ifCond .eq 40, 3), (32, .lload_n 2, 1), (33, .aload_n 1, 1), (34, .getfield 47, 3), (37, .iload 4, 2), (39, .iaload, 1), (40, .aload_n 1, 1), (41, .getfield 47, 3), (44, .iload 5, 2), (46, .invokestatic 43, 3), (49, .iaload, 1), (50, .iand, 1), (51, .invokestatic 116, 3), (54, .i2l, 1), (55, .ladd, 1), (56, .lstore_n 2, 1)]
set_option maxRecDepth 100000 in
theorem xi_ok147_1 : xi_ok cX6_triangles xi_147_1 = true := by decide +kernel
def xi_147_2 : XIs := [(57, .iload 5, 2), (59, .iload 5, 2), (61, .iconst 1, 1), (62, .isub, 1), (63, .iand, 1), (64, .istore 5, 2), (66, .goto (-39), 3), (69, .iinc 4 1, 3), (72, .goto (-63), 3), (75, .lload_n 2, 1), (76, .ldc2_w 121, 3), (79, .ldiv, 1), (80, .lreturn, 1)]
set_option maxRecDepth 100000 in
theorem xi_ok147_2 : xi_ok cX6_triangles xi_147_2 = true := by decide +kernel
def xi_147 (pc : Nat) : XIs := cond (Nat.blt pc 29) (xi_147_0) (cond (Nat.blt pc 57) (xi_147_1) (xi_147_2))
theorem xi_ok147 (pc : Nat) : xi_ok cX6_triangles (xi_147 pc) = true := xi_c (xi_ok147_0) (xi_c (xi_ok147_1) (xi_ok147_2))
