def xi_309_0 : XIs := [(0, .aload_n 0, 1), (1, .iload_n 1, 1), (2, .ifCond .lt 15, 3), (5, .iload_n 1, 1), (6, .aload_n 0, 1), (7, .getfield 418, 3), (10, .if_icmp .ge 7, 3), (13, .iconst 1, 1), (14, .goto 4, 3), (17, .iconst 0, 1), (18, .invokevirtual 334, 3), (21, .ifCond .eq 7, 3), (24, .iconst 0, 1), (25, .goto 9, 3), (28, .aload_n 0, 1), (29, .getfield 63, 3)]
set_option maxRecDepth 100000 in
theorem xi_ok309_0 : xi_ok cX12_printed xi_309_0 = true := by decide +kernel
def xi_309_1 : XIs := [(32, .iload_n 1, 1), (33, .iaload, 1), (34, .ireturn, 1)]
set_option maxRecDepth 100000 in
theorem xi_ok309_1 : xi_ok cX12_printed xi_309_1 = true := by decide +kernel
def xi_309 (pc : Nat) : XIs := cond (Nat.blt pc 32) (xi_309_0) (xi_309_1)
theorem xi_ok309 (pc : Nat) : xi_ok cX12_printed (xi_309 pc) = true := xi_c (xi_ok309_0) (xi_ok309_1)
def xi_310_0 : XIs := [(0, .iconst 0, 1), (1, .istore 4, 2), (3, .iload 4, 2), (5, .aload_n 0, 1), (6, .getfield 285, 3), (9, .if_icmp .ge 30, 3), (12, .aload_n 0, 1), (13, .getfield 72, 3), (16, .iload 4, 2), (18, .iload 4, 2), (20, .iload_n 3, 1), (21, .if_icmp .ne 7, 3), (24, .iconst 0, 1), (25, .goto 7, 3), (28, .iconst 1, 1), (29, .iload 4, 2)]
set_option maxRecDepth 100000 in
theorem xi_ok310_0 : xi_ok cX12_close xi_310_0 = true := by decide +kernel
def xi_310_1 : XIs := [(31, .ishl, 1), (32, .iastore, 1), (33, .iinc 4 1, 3), (36, .goto (-33), 3), (39, .iconst 0, 1), (40, .istore 4, 2), (42, .iload 4, 2), (44, .sipush 160, 3), (47, .if_icmp .ge 106, 3), (50, .aload_n 0, 1), (51, .getfield 20, 3), (54, .aload_n 0, 1), (55, .getfield 288, 3), (58, .iload 4, 2), (60, .iadd, 1), (61, .iaload, 1)]
set_option maxRecDepth 100000 in
theorem xi_ok310_1 : xi_ok cX12_close xi_310_1 = true := by decide +kernel
def xi_310_2 : XIs := [(62, .istore 5, 2), (64, .aload_n 0, 1), (65, .getfield 23, 3), (68, .aload_n 0, 1), (69, .getfield 288, 3), (72, .iload 4, 2), (74, .iadd, 1), (75, .iaload, 1), (76, .istore 6, 2), (78, .aload_n 0, 1), (79, .getfield 16, 3), (82, .aload_n 0, 1), (83, .getfield 288, 3), (86, .iload 4, 2), (88, .iadd, 1), (89, .baload, 1)]
set_option maxRecDepth 100000 in
theorem xi_ok310_2 : xi_ok cX12_close xi_310_2 = true := by decide +kernel
def xi_310_3 : XIs := [(90, .ifCond .eq 57, 3), (93, .iload 4, 2), (95, .iload_n 2, 1), (96, .if_icmp .eq 51, 3), (99, .iload 5, 2), (101, .iload_n 3, 1), (102, .if_icmp .eq 45, 3), (105, .iload 6, 2), (107, .iload_n 3, 1), (108, .if_icmp .eq 39, 3), (111, .aload_n 0, 1), (112, .getfield 72, 3), (115, .iload 5, 2), (117, .dup2, 1), (118, .iaload, 1), (119, .iconst 1, 1)]
set_option maxRecDepth 100000 in
theorem xi_ok310_3 : xi_ok cX12_close xi_310_3 = true := by decide +kernel
def xi_310_4 : XIs := [(120, .iload 6, 2), (122, .ishl, 1), (123, .ior, 1), (124, .iastore, 1), (125, .aload_n 0, 1), (126, .getfield 72, 3), (129, .iload 6, 2), (131, .dup2, 1), (132, .iaload, 1), (133, .iload_n 1, 1), (134, .ifCond .eq 10, 3), (137, .iconst 1, 1), (138, .iload 5, 2), (140, .ishl, 1), (141, .goto 4, 3), (144, .iconst 0, 1)]
set_option maxRecDepth 100000 in
theorem xi_ok310_4 : xi_ok cX12_close xi_310_4 = true := by decide +kernel
def xi_310_5 : XIs := [(145, .ior, 1), (146, .iastore, 1), (147, .iinc 4 1, 3), (150, .goto (-108), 3), (153, .iconst 0, 1), (154, .istore 4, 2), (156, .iload 4, 2), (158, .aload_n 0, 1), (159, .getfield 285, 3), (162, .if_icmp .ge 64, 3), (165, .iconst 0, 1), (166, .istore 5, 2), (168, .iload 5, 2), (170, .aload_n 0, 1), (171, .getfield 285, 3), (174, .if_icmp .ge 46, 3)]
set_option maxRecDepth 100000 in
theorem xi_ok310_5 : xi_ok cX12_close xi_310_5 = true := by decide +kernel
def xi_310_6 : XIs := [(177, .aload_n 0, 1), (178, .getfield 72, 3), (181, .iload 5, 2), (183, .dup2, 1), (184, .iaload, 1), (185, .aload_n 0, 1), (186, .getfield 72, 3), (189, .iload 5, 2), (191, .iaload, 1), (192, .iload 4, 2), (194, .ishr, 1), (195, .iconst 1, 1), (196, .iand, 1), (197, .iconst 1, 1), (198, .if_icmp .ne 13, 3), (201, .aload_n 0, 1)]
set_option maxRecDepth 100000 in
theorem xi_ok310_6 : xi_ok cX12_close xi_310_6 = true := by decide +kernel
def xi_310_7 : XIs := [(202, .getfield 72, 3), (205, .iload 4, 2), (207, .iaload, 1), (208, .goto 4, 3), (211, .iconst 0, 1), (212, .ior, 1), (213, .iastore, 1), (214, .iinc 5 1, 3), (217, .goto (-49), 3), (220, .iinc 4 1, 3), (223, .goto (-67), 3), (226, .return_, 1)]
set_option maxRecDepth 100000 in
theorem xi_ok310_7 : xi_ok cX12_close xi_310_7 = true := by decide +kernel
def xi_310 (pc : Nat) : XIs := cond (Nat.blt pc 120) (cond (Nat.blt pc 62) (cond (Nat.blt pc 31) (xi_310_0) (xi_310_1)) (cond (Nat.blt pc 90) (xi_310_2) (xi_310_3))) (cond (Nat.blt pc 177) (cond (Nat.blt pc 145) (xi_310_4) (xi_310_5)) (cond (Nat.blt pc 202) (xi_310_6) (xi_310_7)))
theorem xi_ok310 (pc : Nat) : xi_ok cX12_close (xi_310 pc) = true := xi_c (xi_c (xi_c (xi_ok310_0) (xi_ok310_1)) (xi_c (xi_ok310_2) (xi_ok310_3))) (xi_c (xi_c (xi_ok310_4) (xi_ok310_5)) (xi_c (xi_ok310_6) (xi_ok310_7)))
def xi_311_0 : XIs := [(0, .iload_n 0, 1), (1, .iload_n 1, 1), (2, .ishr, 1), (3, .iconst 1, 1), (4, .iand, 1), (5, .iconst 1, 1), (6, .if_icmp .ne 7, 3), (9, .iconst 1, 1), (10, .goto 4, 3), (13, .iconst 0, 1), (14, .ireturn, 1)]
set_option maxRecDepth 100000 in
theorem xi_ok311_0 : xi_ok cX12_has xi_311_0 = true := by decide +kernel
def xi_311 (pc : Nat) : XIs := xi_311_0
theorem xi_ok311 (pc : Nat) : xi_ok cX12_has (xi_311 pc) = true := xi_ok311_0
def xi_312_0 : XIs := [(0, .iconst 0, 1), (1, .istore_n 3, 1), (2, .iload_n 3, 1), (3, .aload_n 0, 1), (4, .getfield 285, 3), (7, .if_icmp .ge 25, 3), (10, .aload_n 0, 1), (11, .getfield 75, 3), (14, .iload_n 3, 1), (15, .ldc2_w 347, 3), (18, .lastore, 1), (19, .aload_n 0, 1), (20, .getfield 79, 3), (23, .iload_n 3, 1), (24, .iconst 0, 1), (25, .iastore, 1)]
set_option maxRecDepth 100000 in
theorem xi_ok312_0 : xi_ok cX12_toGoal xi_312_0 = true := by decide +kernel
def xi_312_1 : XIs := [(26, .iinc 3 1, 3), (29, .goto (-27), 3), (32, .aload_n 0, 1), (33, .getfield 75, 3), (36, .iload_n 1, 1), (37, .lconst 0, 1), (38, .lastore, 1), (39, .iconst 1, 1), (40, .istore_n 3, 1), (41, .iconst 0, 1), (42, .istore 4, 2), (44, .iload 4, 2), (46, .aload_n 0, 1), (47, .getfield 285, 3), (50, .if_icmp .gt 184, 3), (53, .iload_n 3, 1)]
set_option maxRecDepth 100000 in
theorem xi_ok312_1 : xi_ok cX12_toGoal xi_312_1 = true := by decide +kernel
def xi_312_2 : XIs := [(54, .ifCond .eq 180, 3), (57, .iconst 0, 1), (58, .istore_n 3, 1), (59, .aload_n 0, 1), (60, .getfield 288, 3), (63, .istore 5, 2), (65, .iload 5, 2), (67, .aload_n 0, 1), (68, .getfield 288, 3), (71, .sipush 160, 3), (74, .iadd, 1), (75, .if_icmp .ge 153, 3), (78, .aload_n 0, 1), (79, .getfield 16, 3), (82, .iload 5, 2), (84, .baload, 1)]
set_option maxRecDepth 100000 in
theorem xi_ok312_2 : xi_ok cX12_toGoal xi_312_2 = true := by decide +kernel
def xi_312_3 : XIs := [(85, .ifCond .eq 137, 3), (88, .iload_n 2, 1), (89, .aload_n 0, 1), (90, .getfield 20, 3), (93, .iload 5, 2), (95, .iaload, 1), (96, .invokestatic 427, 3), (99, .ifCond .eq 123, 3), (102, .iload_n 2, 1), (103, .aload_n 0, 1), (104, .getfield 23, 3), (107, .iload 5, 2), (109, .iaload, 1), (110, .invokestatic 427, 3), (113, .ifCond .eq 109, 3), (116, .aload_n 0, 1)]
set_option maxRecDepth 100000 in
theorem xi_ok312_3 : xi_ok cX12_toGoal xi_312_3 = true := by decide +kernel
def xi_312_4 : XIs := [(117, .getfield 75, 3), (120, .aload_n 0, 1), (121, .getfield 23, 3), (124, .iload 5, 2), (126, .iaload, 1), (127, .laload, 1), (128, .ldc2_w 347, 3), (131, .lcmp, 1), (132, .ifCond .ge 90, 3), (135, .aload_n 0, 1), (136, .getfield 75, 3), (139, .aload_n 0, 1), (140, .getfield 23, 3), (143, .iload 5, 2), (145, .iaload, 1), (146, .laload, 1)]
set_option maxRecDepth 100000 in
theorem xi_ok312_4 : xi_ok cX12_toGoal xi_312_4 = true := by decide +kernel
def xi_312_5 : XIs := [(147, .aload_n 0, 1), (148, .getfield 26, 3), (151, .iload 5, 2), (153, .iaload, 1), (154, .i2l, 1), (155, .ladd, 1), (156, .lstore 6, 2), (158, .aload_n 0, 1), (159, .getfield 79, 3), (162, .aload_n 0, 1), (163, .getfield 23, 3), (166, .iload 5, 2), (168, .iaload, 1), (169, .iaload, 1), (170, .iconst 1, 1), (171, .iadd, 1)]
set_option maxRecDepth 100000 in
theorem xi_ok312_5 : xi_ok cX12_toGoal xi_312_5 = true := by decide +kernel
def xi_312_6 : XIs := [(172, .istore 8, 2), (174, .lload 6, 2), (176, .aload_n 0, 1), (177, .getfield 75, 3), (180, .aload_n 0, 1), (181, .getfield 20, 3), (184, .iload 5, 2), (186, .iaload, 1), (187, .laload, 1), (188, .lcmp, 1), (189, .ifCond .ge 33, 3), (192, .aload_n 0, 1), (193, .getfield 75, 3), (196, .aload_n 0, 1), (197, .getfield 20, 3), (200, .iload 5, 2)]
set_option maxRecDepth 100000 in
theorem xi_ok312_6 : xi_ok cX12_toGoal xi_312_6 = true := by decide +kernel
def xi_312_7 : XIs := [(202, .iaload, 1), (203, .lload 6, 2), (205, .lastore, 1), (206, .aload_n 0, 1), (207, .getfield 79, 3), (210, .aload_n 0, 1), (211, .getfield 20, 3), (214, .iload 5, 2), (216, .iaload, 1), (217, .iload 8, 2), (219, .iastore, 1), (220, .iconst 1, 1), (221, .istore_n 3, 1), (222, .iinc 5 1, 3), (225, .goto (-160), 3), (228, .iinc 4 1, 3)]
set_option maxRecDepth 100000 in
theorem xi_ok312_7 : xi_ok cX12_toGoal xi_312_7 = true := by decide +kernel
def xi_312_8 : XIs := [(231, .goto (-187), 3), (234, .iload_n 3, 1), (235, .ifCond .eq 5, 3), (238, .iconst 0, 1), (239, .ireturn, 1), (240, .aload_n 0, 1), (241, .iload_n 1, 1), (242, .iload_n 2, 1), (243, .invokevirtual 430, 3), (246, .iconst 1, 1), (247, .ireturn, 1)]
set_option maxRecDepth 100000 in
theorem xi_ok312_8 : xi_ok cX12_toGoal xi_312_8 = true := by decide +kernel
def xi_312 (pc : Nat) : XIs := cond (Nat.blt pc 117) (cond (Nat.blt pc 54) (cond (Nat.blt pc 26) (xi_312_0) (xi_312_1)) (cond (Nat.blt pc 85) (xi_312_2) (xi_312_3))) (cond (Nat.blt pc 172) (cond (Nat.blt pc 147) (xi_312_4) (xi_312_5)) (cond (Nat.blt pc 202) (xi_312_6) (cond (Nat.blt pc 231) (xi_312_7) (xi_312_8))))
theorem xi_ok312 (pc : Nat) : xi_ok cX12_toGoal (xi_312 pc) = true := xi_c (xi_c (xi_c (xi_ok312_0) (xi_ok312_1)) (xi_c (xi_ok312_2) (xi_ok312_3))) (xi_c (xi_c (xi_ok312_4) (xi_ok312_5)) (xi_c (xi_ok312_6) (xi_c (xi_ok312_7) (xi_ok312_8))))
def xi_313_0 : XIs := [(0, .iconst 0, 1), (1, .istore_n 3, 1), (2, .iload_n 3, 1), (3, .aload_n 0, 1), (4, .getfield 285, 3), (7, .if_icmp .ge 27, 3), (10, .aload_n 0, 1), (11, .getfield 79, 3), (14, .iload_n 3, 1), (15, .iload_n 3, 1), (16, .iload_n 1, 1), (17, .if_icmp .ne 7, 3), (20, .iconst 0, 1), (21, .goto 6, 3), (24, .sipush 1000, 3), (27, .iastore, 1)]
set_option maxRecDepth 100000 in
theorem xi_ok313_0 : xi_ok cX12_fewest xi_313_0 = true := by decide +kernel
def xi_313_1 : XIs := [(28, .iinc 3 1, 3), (31, .goto (-29), 3), (34, .iconst 0, 1), (35, .istore_n 3, 1), (36, .iload_n 3, 1), (37, .aload_n 0, 1), (38, .getfield 285, 3), (41, .if_icmp .ge 190, 3), (44, .aload_n 0, 1), (45, .getfield 288, 3), (48, .istore 4, 2), (50, .iload 4, 2), (52, .aload_n 0, 1), (53, .getfield 288, 3), (56, .sipush 160, 3), (59, .iadd, 1)]
set_option maxRecDepth 100000 in
theorem xi_ok313_1 : xi_ok cX12_fewest xi_313_1 = true := by decide +kernel
def xi_313_2 : XIs := [(60, .if_icmp .ge 165, 3), (63, .aload_n 0, 1), (64, .getfield 16, 3), (67, .iload 4, 2), (69, .baload, 1), (70, .ifCond .eq 149, 3), (73, .iload_n 2, 1), (74, .aload_n 0, 1), (75, .getfield 20, 3), (78, .iload 4, 2), (80, .iaload, 1), (81, .invokestatic 427, 3), (84, .ifCond .eq 135, 3), (87, .iload_n 2, 1), (88, .aload_n 0, 1), (89, .getfield 23, 3)]
set_option maxRecDepth 100000 in
theorem xi_ok313_2 : xi_ok cX12_fewest xi_313_2 = true := by decide +kernel
def xi_313_3 : XIs := [(92, .iload 4, 2), (94, .iaload, 1), (95, .invokestatic 427, 3), (98, .ifCond .eq 121, 3), (101, .aload_n 0, 1), (102, .getfield 75, 3), (105, .aload_n 0, 1), (106, .getfield 23, 3), (109, .iload 4, 2), (111, .iaload, 1), (112, .laload, 1), (113, .ldc2_w 347, 3), (116, .lcmp, 1), (117, .ifCond .ge 102, 3), (120, .aload_n 0, 1), (121, .getfield 75, 3)]
set_option maxRecDepth 100000 in
theorem xi_ok313_3 : xi_ok cX12_fewest xi_313_3 = true := by decide +kernel
def xi_313_4 : XIs := [(124, .aload_n 0, 1), (125, .getfield 20, 3), (128, .iload 4, 2), (130, .iaload, 1), (131, .laload, 1), (132, .aload_n 0, 1), (133, .getfield 75, 3), (136, .aload_n 0, 1), (137, .getfield 23, 3), (140, .iload 4, 2), (142, .iaload, 1), (143, .laload, 1), (144, .aload_n 0, 1), (145, .getfield 26, 3), (148, .iload 4, 2), (150, .iaload, 1)]
set_option maxRecDepth 100000 in
theorem xi_ok313_4 : xi_ok cX12_fewest xi_313_4 = true := by decide +kernel
def xi_313_5 : XIs := [(151, .i2l, 1), (152, .ladd, 1), (153, .lcmp, 1), (154, .ifCond .ne 65, 3), (157, .aload_n 0, 1), (158, .getfield 79, 3), (161, .aload_n 0, 1), (162, .getfield 23, 3), (165, .iload 4, 2), (167, .iaload, 1), (168, .iaload, 1), (169, .iconst 1, 1), (170, .iadd, 1), (171, .istore 5, 2), (173, .aload_n 0, 1), (174, .getfield 79, 3)]
set_option maxRecDepth 100000 in
theorem xi_ok313_5 : xi_ok cX12_fewest xi_313_5 = true := by decide +kernel
def xi_313_6 : XIs := [(177, .aload_n 0, 1), (178, .getfield 20, 3), (181, .iload 4, 2), (183, .iaload, 1), (184, .iload 5, 2), (186, .aload_n 0, 1), (187, .getfield 79, 3), (190, .aload_n 0, 1), (191, .getfield 20, 3), (194, .iload 4, 2), (196, .iaload, 1), (197, .iaload, 1), (198, .if_icmp .ge 8, 3), (201, .iload 5, 2), (203, .goto 15, 3), (206, .aload_n 0, 1)]
set_option maxRecDepth 100000 in
theorem xi_ok313_6 : xi_ok cX12_fewest xi_313_6 = true := by decide +kernel
def xi_313_7 : XIs := [(207, .getfield 79, 3), (210, .aload_n 0, 1), (211, .getfield 20, 3), (214, .iload 4, 2), (216, .iaload, 1), (217, .iaload, 1), (218, .iastore, 1), (219, .iinc 4 1, 3), (222, .goto (-172), 3), (225, .iinc 3 1, 3), (228, .goto (-192), 3), (231, .return_, 1)]
set_option maxRecDepth 100000 in
theorem xi_ok313_7 : xi_ok cX12_fewest xi_313_7 = true := by decide +kernel
def xi_313 (pc : Nat) : XIs := cond (Nat.blt pc 124) (cond (Nat.blt pc 60) (cond (Nat.blt pc 28) (xi_313_0) (xi_313_1)) (cond (Nat.blt pc 92) (xi_313_2) (xi_313_3))) (cond (Nat.blt pc 177) (cond (Nat.blt pc 151) (xi_313_4) (xi_313_5)) (cond (Nat.blt pc 207) (xi_313_6) (xi_313_7)))
theorem xi_ok313 (pc : Nat) : xi_ok cX12_fewest (xi_313 pc) = true := xi_c (xi_c (xi_c (xi_ok313_0) (xi_ok313_1)) (xi_c (xi_ok313_2) (xi_ok313_3))) (xi_c (xi_c (xi_ok313_4) (xi_ok313_5)) (xi_c (xi_ok313_6) (xi_ok313_7)))
def xi_314_0 : XIs := [(0, .aload_n 0, 1), (1, .iconst 0, 1), (2, .iconst (-1), 1), (3, .iconst (-1), 1), (4, .invokevirtual 433, 3), (7, .iconst 0, 1), (8, .istore_n 3, 1), (9, .iconst 0, 1), (10, .istore 4, 2), (12, .iload 4, 2), (14, .aload_n 0, 1), (15, .getfield 285, 3), (18, .if_icmp .ge 48, 3), (21, .iload_n 3, 1), (22, .aload_n 0, 1), (23, .getfield 72, 3)]
set_option maxRecDepth 100000 in
theorem xi_ok314_0 : xi_ok cX12_between xi_314_0 = true := by decide +kernel
def xi_314_1 : XIs := [(26, .iload_n 1, 1), (27, .iaload, 1), (28, .iload 4, 2), (30, .invokestatic 427, 3), (33, .ifCond .eq 24, 3), (36, .aload_n 0, 1), (37, .getfield 72, 3), (40, .iload 4, 2), (42, .iaload, 1), (43, .iload_n 2, 1), (44, .invokestatic 427, 3), (47, .ifCond .eq 10, 3), (50, .iconst 1, 1), (51, .iload 4, 2), (53, .ishl, 1), (54, .goto 4, 3)]
set_option maxRecDepth 100000 in
theorem xi_ok314_1 : xi_ok cX12_between xi_314_1 = true := by decide +kernel
def xi_314_2 : XIs := [(57, .iconst 0, 1), (58, .ior, 1), (59, .istore_n 3, 1), (60, .iinc 4 1, 3), (63, .goto (-51), 3), (66, .iload_n 3, 1), (67, .ireturn, 1)]
set_option maxRecDepth 100000 in
theorem xi_ok314_2 : xi_ok cX12_between xi_314_2 = true := by decide +kernel
def xi_314 (pc : Nat) : XIs := cond (Nat.blt pc 26) (xi_314_0) (cond (Nat.blt pc 57) (xi_314_1) (xi_314_2))
theorem xi_ok314 (pc : Nat) : xi_ok cX12_between (xi_314 pc) = true := xi_c (xi_ok314_0) (xi_c (xi_ok314_1) (xi_ok314_2))
def xi_315_0 : XIs := [(0, .aload_n 0, 1), (1, .aload_n 0, 1), (2, .iload_n 1, 1), (3, .invokevirtual 349, 3), (6, .ifCond .eq 15, 3), (9, .aload_n 0, 1), (10, .iload_n 2, 1), (11, .invokevirtual 349, 3), (14, .ifCond .eq 7, 3), (17, .iconst 1, 1), (18, .goto 4, 3), (21, .iconst 0, 1), (22, .invokevirtual 334, 3), (25, .ifCond .eq 5, 3), (28, .lconst 0, 1), (29, .lreturn, 1)]
set_option maxRecDepth 100000 in
theorem xi_ok315_0 : xi_ok cX12_distance xi_315_0 = true := by decide +kernel
def xi_315_1 : XIs := [(30, .aload_n 0, 1), (31, .iload_n 1, 1), (32, .iload_n 2, 1), (33, .invokevirtual 437, 3), (36, .istore_n 3, 1), (37, .iload_n 3, 1), (38, .ifCond .ne 9, 3), (41, .ldc2_w 347, 3), (44, .goto 24, 3), (47, .aload_n 0, 1), (48, .iload_n 2, 1), (49, .iload_n 3, 1), (50, .invokevirtual 440, 3), (53, .ifCond .eq 12, 3), (56, .aload_n 0, 1), (57, .getfield 75, 3)]
set_option maxRecDepth 100000 in
theorem xi_ok315_1 : xi_ok cX12_distance xi_315_1 = true := by decide +kernel
def xi_315_2 : XIs := [(60, .iload_n 1, 1), (61, .laload, 1), (62, .goto 6, 3), (65, .ldc2_w 443, 3), (68, .lreturn, 1)]
set_option maxRecDepth 100000 in
theorem xi_ok315_2 : xi_ok cX12_distance xi_315_2 = true := by decide +kernel
def xi_315 (pc : Nat) : XIs := cond (Nat.blt pc 30) (xi_315_0) (cond (Nat.blt pc 60) (xi_315_1) (xi_315_2))
theorem xi_ok315 (pc : Nat) : xi_ok cX12_distance (xi_315 pc) = true := xi_c (xi_ok315_0) (xi_c (xi_ok315_1) (xi_ok315_2))
def xi_316_0 : XIs := [(0, .aload_n 0, 1), (1, .aload_n 0, 1), (2, .iload_n 1, 1), (3, .invokevirtual 349, 3), (6, .ifCond .eq 19, 3), (9, .aload_n 0, 1), (10, .iload_n 2, 1), (11, .invokevirtual 349, 3), (14, .ifCond .eq 11, 3), (17, .iload_n 3, 1), (18, .ifCond .lt 7, 3), (21, .iconst 1, 1), (22, .goto 4, 3), (25, .iconst 0, 1), (26, .invokevirtual 334, 3), (29, .ifCond .eq 5, 3)]
set_option maxRecDepth 100000 in
theorem xi_ok316_0 : xi_ok cX12_way xi_316_0 = true := by decide +kernel
def xi_316_1 : XIs := [(32, .iconst 0, 1), (33, .ireturn, 1), (34, .aload_n 0, 1), (35, .iload_n 1, 1), (36, .iload_n 2, 1), (37, .invokevirtual 437, 3), (40, .istore 4, 2), (42, .iload 4, 2), (44, .ifCond .eq 23, 3), (47, .aload_n 0, 1), (48, .iload_n 2, 1), (49, .iload 4, 2), (51, .invokevirtual 440, 3), (54, .ifCond .eq 13, 3), (57, .iload_n 3, 1), (58, .aload_n 0, 1)]
set_option maxRecDepth 100000 in
theorem xi_ok316_1 : xi_ok cX12_way xi_316_1 = true := by decide +kernel
def xi_316_2 : XIs := [(59, .getfield 79, 3), (62, .iload_n 1, 1), (63, .iaload, 1), (64, .if_icmp .lt 5, 3), (67, .iconst (-1), 1), (68, .ireturn, 1), (69, .iload_n 1, 1), (70, .istore 5, 2), (72, .iconst (-1), 1), (73, .istore 6, 2), (75, .iconst 0, 1), (76, .istore 7, 2), (78, .iload 7, 2), (80, .iload_n 3, 1), (81, .if_icmp .gt 184, 3), (84, .iconst (-1), 1)]
set_option maxRecDepth 100000 in
theorem xi_ok316_2 : xi_ok cX12_way xi_316_2 = true := by decide +kernel
def xi_316_3 : XIs := [(85, .istore 6, 2), (87, .sipush 159, 3), (90, .istore 8, 2), (92, .iload 8, 2), (94, .ifCond .lt 151, 3), (97, .aload_n 0, 1), (98, .getfield 288, 3), (101, .iload 8, 2), (103, .iadd, 1), (104, .istore 9, 2), (106, .aload_n 0, 1), (107, .getfield 16, 3), (110, .iload 9, 2), (112, .baload, 1), (113, .ifCond .eq 53, 3), (116, .aload_n 0, 1)]
set_option maxRecDepth 100000 in
theorem xi_ok316_3 : xi_ok cX12_way xi_316_3 = true := by decide +kernel
def xi_316_4 : XIs := [(117, .getfield 20, 3), (120, .iload 9, 2), (122, .iaload, 1), (123, .iload 5, 2), (125, .if_icmp .ne 41, 3), (128, .iload 4, 2), (130, .aload_n 0, 1), (131, .getfield 23, 3), (134, .iload 9, 2), (136, .iaload, 1), (137, .invokestatic 427, 3), (140, .ifCond .eq 26, 3), (143, .aload_n 0, 1), (144, .getfield 75, 3), (147, .aload_n 0, 1), (148, .getfield 23, 3)]
set_option maxRecDepth 100000 in
theorem xi_ok316_4 : xi_ok cX12_way xi_316_4 = true := by decide +kernel
def xi_316_5 : XIs := [(151, .iload 9, 2), (153, .iaload, 1), (154, .laload, 1), (155, .ldc2_w 347, 3), (158, .lcmp, 1), (159, .ifCond .ge 7, 3), (162, .iconst 1, 1), (163, .goto 4, 3), (166, .iconst 0, 1), (167, .istore 10, 2), (169, .iload 10, 2), (171, .ifCond .eq 64, 3), (174, .aload_n 0, 1), (175, .getfield 75, 3), (178, .iload 5, 2), (180, .laload, 1)]
set_option maxRecDepth 100000 in
theorem xi_ok316_5 : xi_ok cX12_way xi_316_5 = true := by decide +kernel
def xi_316_6 : XIs := [(181, .aload_n 0, 1), (182, .getfield 75, 3), (185, .aload_n 0, 1), (186, .getfield 23, 3), (189, .iload 9, 2), (191, .iaload, 1), (192, .laload, 1), (193, .aload_n 0, 1), (194, .getfield 26, 3), (197, .iload 9, 2), (199, .iaload, 1), (200, .i2l, 1), (201, .ladd, 1), (202, .lcmp, 1), (203, .ifCond .ne 32, 3), (206, .aload_n 0, 1)]
set_option maxRecDepth 100000 in
theorem xi_ok316_6 : xi_ok cX12_way xi_316_6 = true := by decide +kernel
def xi_316_7 : XIs := [(207, .getfield 79, 3), (210, .iload 5, 2), (212, .iaload, 1), (213, .aload_n 0, 1), (214, .getfield 79, 3), (217, .aload_n 0, 1), (218, .getfield 23, 3), (221, .iload 9, 2), (223, .iaload, 1), (224, .iaload, 1), (225, .iconst 1, 1), (226, .iadd, 1), (227, .if_icmp .ne 8, 3), (230, .iload 8, 2), (232, .goto 5, 3), (235, .iload 6, 2)]
set_option maxRecDepth 100000 in
theorem xi_ok316_7 : xi_ok cX12_way xi_316_7 = true := by decide +kernel
def xi_316_8 : XIs := [(237, .istore 6, 2), (239, .iinc 8 (-1), 3), (242, .goto (-150), 3), (245, .aload_n 0, 1), (246, .getfield 23, 3), (249, .aload_n 0, 1), (250, .getfield 288, 3), (253, .iload 6, 2), (255, .iadd, 1), (256, .iaload, 1), (257, .istore 5, 2), (259, .iinc 7 1, 3), (262, .goto (-184), 3), (265, .iload 6, 2), (267, .ireturn, 1)]
set_option maxRecDepth 100000 in
theorem xi_ok316_8 : xi_ok cX12_way xi_316_8 = true := by decide +kernel
def xi_316 (pc : Nat) : XIs := cond (Nat.blt pc 117) (cond (Nat.blt pc 59) (cond (Nat.blt pc 32) (xi_316_0) (xi_316_1)) (cond (Nat.blt pc 85) (xi_316_2) (xi_316_3))) (cond (Nat.blt pc 181) (cond (Nat.blt pc 151) (xi_316_4) (xi_316_5)) (cond (Nat.blt pc 207) (xi_316_6) (cond (Nat.blt pc 237) (xi_316_7) (xi_316_8))))
theorem xi_ok316 (pc : Nat) : xi_ok cX12_way (xi_316 pc) = true := xi_c (xi_c (xi_c (xi_ok316_0) (xi_ok316_1)) (xi_c (xi_ok316_2) (xi_ok316_3))) (xi_c (xi_c (xi_ok316_4) (xi_ok316_5)) (xi_c (xi_ok316_6) (xi_c (xi_ok316_7) (xi_ok316_8))))
def xi_317_0 : XIs := [(0, .aload_n 0, 1), (1, .aload_n 0, 1), (2, .iload_n 1, 1), (3, .invokevirtual 349, 3), (6, .ifCond .eq 15, 3), (9, .aload_n 0, 1), (10, .iload_n 2, 1), (11, .invokevirtual 349, 3), (14, .ifCond .eq 7, 3), (17, .iconst 1, 1), (18, .goto 4, 3), (21, .iconst 0, 1), (22, .invokevirtual 334, 3), (25, .ifCond .eq 5, 3), (28, .iconst 0, 1), (29, .ireturn, 1)]
set_option maxRecDepth 100000 in
theorem xi_ok317_0 : xi_ok cX12_width xi_317_0 = true := by decide +kernel
def xi_317_1 : XIs := [(30, .iconst 0, 1), (31, .istore_n 3, 1), (32, .iload_n 3, 1), (33, .aload_n 0, 1), (34, .getfield 285, 3), (37, .if_icmp .ge 27, 3), (40, .aload_n 0, 1), (41, .getfield 85, 3), (44, .iload_n 3, 1), (45, .iload_n 3, 1), (46, .iload_n 1, 1), (47, .if_icmp .ne 9, 3), (50, .ldc_w 445, 3), (53, .goto 4, 3), (56, .iconst (-1), 1), (57, .iastore, 1)]
set_option maxRecDepth 100000 in
theorem xi_ok317_1 : xi_ok cX12_width xi_317_1 = true := by decide +kernel
def xi_317_2 : XIs := [(58, .iinc 3 1, 3), (61, .goto (-29), 3), (64, .iconst 0, 1), (65, .istore_n 3, 1), (66, .iload_n 3, 1), (67, .aload_n 0, 1), (68, .getfield 285, 3), (71, .if_icmp .ge 151, 3), (74, .aload_n 0, 1), (75, .getfield 288, 3), (78, .istore 4, 2), (80, .iload 4, 2), (82, .aload_n 0, 1), (83, .getfield 288, 3), (86, .sipush 160, 3), (89, .iadd, 1)]
set_option maxRecDepth 100000 in
theorem xi_ok317_2 : xi_ok cX12_width xi_317_2 = true := by decide +kernel
def xi_317_3 : XIs := [(90, .if_icmp .ge 126, 3), (93, .aload_n 0, 1), (94, .getfield 16, 3), (97, .iload 4, 2), (99, .baload, 1), (100, .ifCond .eq 110, 3), (103, .aload_n 0, 1), (104, .getfield 85, 3), (107, .aload_n 0, 1), (108, .getfield 20, 3), (111, .iload 4, 2), (113, .iaload, 1), (114, .iaload, 1), (115, .ifCond .lt 95, 3), (118, .aload_n 0, 1), (119, .getfield 29, 3)]
set_option maxRecDepth 100000 in
theorem xi_ok317_3 : xi_ok cX12_width xi_317_3 = true := by decide +kernel
def xi_317_4 : XIs := [(122, .iload 4, 2), (124, .iaload, 1), (125, .aload_n 0, 1), (126, .getfield 85, 3), (129, .aload_n 0, 1), (130, .getfield 20, 3), (133, .iload 4, 2), (135, .iaload, 1), (136, .iaload, 1), (137, .if_icmp .ge 13, 3), (140, .aload_n 0, 1), (141, .getfield 29, 3), (144, .iload 4, 2), (146, .iaload, 1), (147, .goto 15, 3), (150, .aload_n 0, 1)]
set_option maxRecDepth 100000 in
theorem xi_ok317_4 : xi_ok cX12_width xi_317_4 = true := by decide +kernel
def xi_317_5 : XIs := [(151, .getfield 85, 3), (154, .aload_n 0, 1), (155, .getfield 20, 3), (158, .iload 4, 2), (160, .iaload, 1), (161, .iaload, 1), (162, .istore 5, 2), (164, .aload_n 0, 1), (165, .getfield 85, 3), (168, .aload_n 0, 1), (169, .getfield 23, 3), (172, .iload 4, 2), (174, .iaload, 1), (175, .iload 5, 2), (177, .aload_n 0, 1), (178, .getfield 85, 3)]
set_option maxRecDepth 100000 in
theorem xi_ok317_5 : xi_ok cX12_width xi_317_5 = true := by decide +kernel
def xi_317_6 : XIs := [(181, .aload_n 0, 1), (182, .getfield 23, 3), (185, .iload 4, 2), (187, .iaload, 1), (188, .iaload, 1), (189, .if_icmp .le 8, 3), (192, .iload 5, 2), (194, .goto 15, 3), (197, .aload_n 0, 1), (198, .getfield 85, 3), (201, .aload_n 0, 1), (202, .getfield 23, 3), (205, .iload 4, 2), (207, .iaload, 1), (208, .iaload, 1), (209, .iastore, 1)]
set_option maxRecDepth 100000 in
theorem xi_ok317_6 : xi_ok cX12_width xi_317_6 = true := by decide +kernel
def xi_317_7 : XIs := [(210, .iinc 4 1, 3), (213, .goto (-133), 3), (216, .iinc 3 1, 3), (219, .goto (-153), 3), (222, .aload_n 0, 1), (223, .getfield 85, 3), (226, .iload_n 2, 1), (227, .iaload, 1), (228, .ireturn, 1)]
set_option maxRecDepth 100000 in
theorem xi_ok317_7 : xi_ok cX12_width xi_317_7 = true := by decide +kernel
def xi_317 (pc : Nat) : XIs := cond (Nat.blt pc 122) (cond (Nat.blt pc 58) (cond (Nat.blt pc 30) (xi_317_0) (xi_317_1)) (cond (Nat.blt pc 90) (xi_317_2) (xi_317_3))) (cond (Nat.blt pc 181) (cond (Nat.blt pc 151) (xi_317_4) (xi_317_5)) (cond (Nat.blt pc 210) (xi_317_6) (xi_317_7)))
theorem xi_ok317 (pc : Nat) : xi_ok cX12_width (xi_317 pc) = true := xi_c (xi_c (xi_c (xi_ok317_0) (xi_ok317_1)) (xi_c (xi_ok317_2) (xi_ok317_3))) (xi_c (xi_c (xi_ok317_4) (xi_ok317_5)) (xi_c (xi_ok317_6) (xi_ok317_7)))
def xi_318_0 : XIs := [(0, .aload_n 0, 1), (1, .getfield 446, 3), (4, .sipush 2000, 3), (7, .if_icmp .gt 126, 3), (10, .iconst 5, 1), (11, .aload_n 0, 1), (12, .getfield 446, 3), (15, .imul, 1), (16, .istore 6, 2), (18, .aload_n 0, 1), (19, .getfield 88, 3), (22, .iload 6, 2), (24, .iload_n 1, 1), (25, .iastore, 1), (26, .aload_n 0, 1), (27, .getfield 88, 3)]
set_option maxRecDepth 100000 in
theorem xi_ok318_0 : xi_ok cX12_addShort xi_318_0 = true := by decide +kernel
def xi_318_1 : XIs := [(30, .iload 6, 2), (32, .iconst 1, 1), (33, .iadd, 1), (34, .iload_n 2, 1), (35, .iastore, 1), (36, .aload_n 0, 1), (37, .getfield 88, 3), (40, .iload 6, 2), (42, .iconst 2, 1), (43, .iadd, 1), (44, .iload_n 3, 1), (45, .iastore, 1), (46, .aload_n 0, 1), (47, .getfield 88, 3), (50, .iload 6, 2), (52, .iconst 3, 1)]
set_option maxRecDepth 100000 in
theorem xi_ok318_1 : xi_ok cX12_addShort xi_318_1 = true := by decide +kernel
def xi_318_2 : XIs := [(53, .iadd, 1), (54, .iload 4, 2), (56, .iastore, 1), (57, .aload_n 0, 1), (58, .getfield 88, 3), (61, .iload 6, 2), (63, .iconst 4, 1), (64, .iadd, 1), (65, .iload 5, 2), (67, .iastore, 1), (68, .lconst 0, 1), (69, .lstore 7, 2), (71, .iconst 1, 1), (72, .istore 9, 2), (74, .iload 9, 2), (76, .iload_n 1, 1)]
set_option maxRecDepth 100000 in
theorem xi_ok318_2 : xi_ok cX12_addShort xi_318_2 = true := by decide +kernel
def xi_318_3 : XIs := [(77, .if_icmp .gt 35, 3), (80, .lload 7, 2), (82, .aload_n 0, 1), (83, .getfield 26, 3), (86, .aload_n 0, 1), (87, .getfield 288, 3), (90, .aload_n 0, 1), (91, .getfield 88, 3), (94, .iload 6, 2), (96, .iload 9, 2), (98, .iadd, 1), (99, .iaload, 1), (100, .iadd, 1), (101, .iaload, 1), (102, .i2l, 1), (103, .ladd, 1)]
set_option maxRecDepth 100000 in
theorem xi_ok318_3 : xi_ok cX12_addShort xi_318_3 = true := by decide +kernel
def xi_318_4 : XIs := [(104, .lstore 7, 2), (106, .iinc 9 1, 3), (109, .goto (-35), 3), (112, .aload_n 0, 1), (113, .getfield 91, 3), (116, .aload_n 0, 1), (117, .getfield 446, 3), (120, .lload 7, 2), (122, .lastore, 1), (123, .aload_n 0, 1), (124, .dup, 1), (125, .getfield 446, 3), (128, .iconst 1, 1), (129, .iadd, 1), (130, .putfield 446, 3), (133, .return_, 1)]
set_option maxRecDepth 100000 in
theorem xi_ok318_4 : xi_ok cX12_addShort xi_318_4 = true := by decide +kernel
def xi_318 (pc : Nat) : XIs := cond (Nat.blt pc 53) (cond (Nat.blt pc 30) (xi_318_0) (xi_318_1)) (cond (Nat.blt pc 77) (xi_318_2) (cond (Nat.blt pc 104) (xi_318_3) (xi_318_4)))
theorem xi_ok318 (pc : Nat) : xi_ok cX12_addShort (xi_318 pc) = true := xi_c (xi_c (xi_ok318_0) (xi_ok318_1)) (xi_c (xi_ok318_2) (xi_c (xi_ok318_3) (xi_ok318_4)))
def xi_319_0 : XIs := [(0, .aload_n 0, 1), (1, .getfield 16, 3), (4, .aload_n 0, 1), (5, .getfield 288, 3), (8, .iload_n 1, 1), (9, .iadd, 1), (10, .baload, 1), (11, .ifCond .eq 40, 3), (14, .aload_n 0, 1), (15, .getfield 20, 3), (18, .aload_n 0, 1), (19, .getfield 288, 3), (22, .iload_n 1, 1), (23, .iadd, 1), (24, .iaload, 1), (25, .iload_n 2, 1)]
set_option maxRecDepth 100000 in
theorem xi_ok319_0 : xi_ok cX12_goesOn xi_319_0 = true := by decide +kernel
def xi_319_1 : XIs := [(26, .if_icmp .ne 25, 3), (29, .iload_n 3, 1), (30, .aload_n 0, 1), (31, .getfield 23, 3), (34, .aload_n 0, 1), (35, .getfield 288, 3), (38, .iload_n 1, 1), (39, .iadd, 1), (40, .iaload, 1), (41, .invokestatic 427, 3), (44, .ifCond .ne 7, 3), (47, .iconst 1, 1), (48, .goto 4, 3), (51, .iconst 0, 1), (52, .ireturn, 1)]
set_option maxRecDepth 100000 in
theorem xi_ok319_1 : xi_ok cX12_goesOn xi_319_1 = true := by decide +kernel
def xi_319 (pc : Nat) : XIs := cond (Nat.blt pc 26) (xi_319_0) (xi_319_1)
theorem xi_ok319 (pc : Nat) : xi_ok cX12_goesOn (xi_319 pc) = true := xi_c (xi_ok319_0) (xi_ok319_1)
def xi_320_0 : XIs := [(0, .aload_n 0, 1), (1, .iconst 0, 1), (2, .putfield 446, 3), (5, .iconst 0, 1), (6, .istore_n 3, 1), (7, .iload_n 3, 1), (8, .sipush 160, 3), (11, .if_icmp .ge 78, 3), (14, .aload_n 0, 1), (15, .getfield 446, 3), (18, .sipush 2000, 3), (21, .if_icmp .gt 68, 3), (24, .aload_n 0, 1), (25, .iload_n 3, 1), (26, .iload_n 1, 1), (27, .iconst 1, 1)]
set_option maxRecDepth 100000 in
theorem xi_ok320_0 : xi_ok cX12_findShorts xi_320_0 = true := by decide +kernel
def xi_320_1 : XIs := [(28, .iload_n 1, 1), (29, .ishl, 1), (30, .invokevirtual 449, 3), (33, .ifCond .eq 50, 3), (36, .aload_n 0, 1), (37, .getfield 23, 3), (40, .aload_n 0, 1), (41, .getfield 288, 3), (44, .iload_n 3, 1), (45, .iadd, 1), (46, .iaload, 1), (47, .istore 4, 2), (49, .iload 4, 2), (51, .iload_n 2, 1), (52, .if_icmp .ne 15, 3), (55, .aload_n 0, 1)]
set_option maxRecDepth 100000 in
theorem xi_ok320_1 : xi_ok cX12_findShorts xi_320_1 = true := by decide +kernel
def xi_320_2 : XIs := [(56, .iconst 1, 1), (57, .iload_n 3, 1), (58, .iconst 0, 1), (59, .iconst 0, 1), (60, .iconst 0, 1), (61, .invokevirtual 453, 3), (64, .goto 19, 3), (67, .aload_n 0, 1), (68, .iload_n 3, 1), (69, .iload 4, 2), (71, .iconst 1, 1), (72, .iload_n 1, 1), (73, .ishl, 1), (74, .iconst 1, 1), (75, .iload 4, 2), (77, .ishl, 1)]
set_option maxRecDepth 100000 in
theorem xi_ok320_2 : xi_ok cX12_findShorts xi_320_2 = true := by decide +kernel
def xi_320_3 : XIs := [(78, .ior, 1), (79, .iload_n 2, 1), (80, .invokevirtual 457, 3), (83, .iinc 3 1, 3), (86, .goto (-79), 3), (89, .return_, 1)]
set_option maxRecDepth 100000 in
theorem xi_ok320_3 : xi_ok cX12_findShorts xi_320_3 = true := by decide +kernel
def xi_320 (pc : Nat) : XIs := cond (Nat.blt pc 56) (cond (Nat.blt pc 28) (xi_320_0) (xi_320_1)) (cond (Nat.blt pc 78) (xi_320_2) (xi_320_3))
theorem xi_ok320 (pc : Nat) : xi_ok cX12_findShorts (xi_320 pc) = true := xi_c (xi_c (xi_ok320_0) (xi_ok320_1)) (xi_c (xi_ok320_2) (xi_ok320_3))
def xi_321_0 : XIs := [(0, .iconst 0, 1), (1, .istore 5, 2), (3, .iload 5, 2), (5, .sipush 160, 3), (8, .if_icmp .ge 81, 3), (11, .aload_n 0, 1), (12, .getfield 446, 3), (15, .sipush 2000, 3), (18, .if_icmp .gt 71, 3), (21, .aload_n 0, 1), (22, .iload 5, 2), (24, .iload_n 2, 1), (25, .iload_n 3, 1), (26, .invokevirtual 449, 3), (29, .ifCond .eq 54, 3), (32, .aload_n 0, 1)]
set_option maxRecDepth 100000 in
theorem xi_ok321_0 : xi_ok cX12_second xi_321_0 = true := by decide +kernel
def xi_321_1 : XIs := [(33, .getfield 23, 3), (36, .aload_n 0, 1), (37, .getfield 288, 3), (40, .iload 5, 2), (42, .iadd, 1), (43, .iaload, 1), (44, .istore 6, 2), (46, .iload 6, 2), (48, .iload 4, 2), (50, .if_icmp .ne 16, 3), (53, .aload_n 0, 1), (54, .iconst 2, 1), (55, .iload_n 1, 1), (56, .iload 5, 2), (58, .iconst 0, 1), (59, .iconst 0, 1)]
set_option maxRecDepth 100000 in
theorem xi_ok321_1 : xi_ok cX12_second xi_321_1 = true := by decide +kernel
def xi_321_2 : XIs := [(60, .invokevirtual 453, 3), (63, .goto 20, 3), (66, .aload_n 0, 1), (67, .iload_n 1, 1), (68, .iload 5, 2), (70, .iload 6, 2), (72, .iload_n 3, 1), (73, .iconst 1, 1), (74, .iload 6, 2), (76, .ishl, 1), (77, .ior, 1), (78, .iload 4, 2), (80, .invokevirtual 461, 3), (83, .iinc 5 1, 3), (86, .goto (-83), 3), (89, .return_, 1)]
set_option maxRecDepth 100000 in
theorem xi_ok321_2 : xi_ok cX12_second xi_321_2 = true := by decide +kernel
def xi_321 (pc : Nat) : XIs := cond (Nat.blt pc 33) (xi_321_0) (cond (Nat.blt pc 60) (xi_321_1) (xi_321_2))
theorem xi_ok321 (pc : Nat) : xi_ok cX12_second (xi_321 pc) = true := xi_c (xi_ok321_0) (xi_c (xi_ok321_1) (xi_ok321_2))
def xi_322_0 : XIs := [(0, .iconst 0, 1), (1, .istore 6, 2), (3, .iload 6, 2), (5, .sipush 160, 3), (8, .if_icmp .ge 142, 3), (11, .aload_n 0, 1), (12, .getfield 446, 3), (15, .sipush 2000, 3), (18, .if_icmp .gt 132, 3), (21, .aload_n 0, 1), (22, .iload 6, 2), (24, .iload_n 3, 1), (25, .iload 4, 2), (27, .invokevirtual 449, 3), (30, .ifCond .eq 114, 3), (33, .aload_n 0, 1)]
set_option maxRecDepth 100000 in
theorem xi_ok322_0 : xi_ok cX12_third xi_322_0 = true := by decide +kernel
def xi_322_1 : XIs := [(34, .getfield 23, 3), (37, .aload_n 0, 1), (38, .getfield 288, 3), (41, .iload 6, 2), (43, .iadd, 1), (44, .iaload, 1), (45, .istore 7, 2), (47, .iload 7, 2), (49, .iload 5, 2), (51, .if_icmp .ne 16, 3), (54, .aload_n 0, 1), (55, .iconst 3, 1), (56, .iload_n 1, 1), (57, .iload_n 2, 1), (58, .iload 6, 2), (60, .iconst 0, 1)]
set_option maxRecDepth 100000 in
theorem xi_ok322_1 : xi_ok cX12_third xi_322_1 = true := by decide +kernel
def xi_322_2 : XIs := [(61, .invokevirtual 453, 3), (64, .goto 80, 3), (67, .iconst 0, 1), (68, .istore 8, 2), (70, .iload 8, 2), (72, .sipush 160, 3), (75, .if_icmp .ge 69, 3), (78, .aload_n 0, 1), (79, .getfield 16, 3), (82, .aload_n 0, 1), (83, .getfield 288, 3), (86, .iload 8, 2), (88, .iadd, 1), (89, .baload, 1), (90, .ifCond .eq 48, 3), (93, .aload_n 0, 1)]
set_option maxRecDepth 100000 in
theorem xi_ok322_2 : xi_ok cX12_third xi_322_2 = true := by decide +kernel
def xi_322_3 : XIs := [(94, .getfield 20, 3), (97, .aload_n 0, 1), (98, .getfield 288, 3), (101, .iload 8, 2), (103, .iadd, 1), (104, .iaload, 1), (105, .iload 7, 2), (107, .if_icmp .ne 31, 3), (110, .aload_n 0, 1), (111, .getfield 23, 3), (114, .aload_n 0, 1), (115, .getfield 288, 3), (118, .iload 8, 2), (120, .iadd, 1), (121, .iaload, 1), (122, .iload 5, 2)]
set_option maxRecDepth 100000 in
theorem xi_ok322_3 : xi_ok cX12_third xi_322_3 = true := by decide +kernel
def xi_322_4 : XIs := [(124, .if_icmp .ne 14, 3), (127, .aload_n 0, 1), (128, .iconst 4, 1), (129, .iload_n 1, 1), (130, .iload_n 2, 1), (131, .iload 6, 2), (133, .iload 8, 2), (135, .invokevirtual 453, 3), (138, .iinc 8 1, 3), (141, .goto (-71), 3), (144, .iinc 6 1, 3), (147, .goto (-144), 3), (150, .return_, 1)]
set_option maxRecDepth 100000 in
theorem xi_ok322_4 : xi_ok cX12_third xi_322_4 = true := by decide +kernel
def xi_322 (pc : Nat) : XIs := cond (Nat.blt pc 61) (cond (Nat.blt pc 34) (xi_322_0) (xi_322_1)) (cond (Nat.blt pc 94) (xi_322_2) (cond (Nat.blt pc 124) (xi_322_3) (xi_322_4)))
theorem xi_ok322 (pc : Nat) : xi_ok cX12_third (xi_322 pc) = true := xi_c (xi_c (xi_ok322_0) (xi_ok322_1)) (xi_c (xi_ok322_2) (xi_c (xi_ok322_3) (xi_ok322_4)))
def xi_323_0 : XIs := [(0, .aload_n 0, 1), (1, .getfield 91, 3), (4, .iload_n 1, 1), (5, .laload, 1), (6, .aload_n 0, 1), (7, .getfield 91, 3), (10, .iload_n 2, 1), (11, .laload, 1), (12, .lcmp, 1), (13, .ifCond .eq 25, 3), (16, .aload_n 0, 1), (17, .getfield 91, 3), (20, .iload_n 1, 1), (21, .laload, 1), (22, .aload_n 0, 1), (23, .getfield 91, 3)]
set_option maxRecDepth 100000 in
theorem xi_ok323_0 : xi_ok cX12_isBefore xi_323_0 = true := by decide +kernel
def xi_323_1 : XIs := [(26, .iload_n 2, 1), (27, .laload, 1), (28, .lcmp, 1), (29, .ifCond .ge 7, 3), (32, .iconst 1, 1), (33, .goto 4, 3), (36, .iconst 0, 1), (37, .ireturn, 1), (38, .aload_n 0, 1), (39, .getfield 88, 3), (42, .iconst 5, 1), (43, .iload_n 1, 1), (44, .imul, 1), (45, .iaload, 1), (46, .aload_n 0, 1), (47, .getfield 88, 3)]
set_option maxRecDepth 100000 in
theorem xi_ok323_1 : xi_ok cX12_isBefore xi_323_1 = true := by decide +kernel
def xi_323_2 : XIs := [(50, .iconst 5, 1), (51, .iload_n 2, 1), (52, .imul, 1), (53, .iaload, 1), (54, .if_icmp .eq 28, 3), (57, .aload_n 0, 1), (58, .getfield 88, 3), (61, .iconst 5, 1), (62, .iload_n 1, 1), (63, .imul, 1), (64, .iaload, 1), (65, .aload_n 0, 1), (66, .getfield 88, 3), (69, .iconst 5, 1), (70, .iload_n 2, 1), (71, .imul, 1)]
set_option maxRecDepth 100000 in
theorem xi_ok323_2 : xi_ok cX12_isBefore xi_323_2 = true := by decide +kernel
def xi_323_3 : XIs := [(72, .iaload, 1), (73, .if_icmp .ge 7, 3), (76, .iconst 1, 1), (77, .goto 4, 3), (80, .iconst 0, 1), (81, .ireturn, 1), (82, .iconst 1, 1), (83, .istore_n 3, 1), (84, .iload_n 3, 1), (85, .aload_n 0, 1), (86, .getfield 88, 3), (89, .iconst 5, 1), (90, .iload_n 1, 1), (91, .imul, 1), (92, .iaload, 1), (93, .if_icmp .gt 61, 3)]
set_option maxRecDepth 100000 in
theorem xi_ok323_3 : xi_ok cX12_isBefore xi_323_3 = true := by decide +kernel
def xi_323_4 : XIs := [(96, .aload_n 0, 1), (97, .getfield 88, 3), (100, .iconst 5, 1), (101, .iload_n 1, 1), (102, .imul, 1), (103, .iload_n 3, 1), (104, .iadd, 1), (105, .iaload, 1), (106, .aload_n 0, 1), (107, .getfield 88, 3), (110, .iconst 5, 1), (111, .iload_n 2, 1), (112, .imul, 1), (113, .iload_n 3, 1), (114, .iadd, 1), (115, .iaload, 1)]
set_option maxRecDepth 100000 in
theorem xi_ok323_4 : xi_ok cX12_isBefore xi_323_4 = true := by decide +kernel
def xi_323_5 : XIs := [(116, .if_icmp .eq 32, 3), (119, .aload_n 0, 1), (120, .getfield 88, 3), (123, .iconst 5, 1), (124, .iload_n 1, 1), (125, .imul, 1), (126, .iload_n 3, 1), (127, .iadd, 1), (128, .iaload, 1), (129, .aload_n 0, 1), (130, .getfield 88, 3), (133, .iconst 5, 1), (134, .iload_n 2, 1), (135, .imul, 1), (136, .iload_n 3, 1), (137, .iadd, 1)]
set_option maxRecDepth 100000 in
theorem xi_ok323_5 : xi_ok cX12_isBefore xi_323_5 = true := by decide +kernel
def xi_323_6 : XIs := [(138, .iaload, 1), (139, .if_icmp .ge 7, 3), (142, .iconst 1, 1), (143, .goto 4, 3), (146, .iconst 0, 1), (147, .ireturn, 1), (148, .iinc 3 1, 3), (151, .goto (-67), 3), (154, .iconst 0, 1), (155, .ireturn, 1)]
set_option maxRecDepth 100000 in
theorem xi_ok323_6 : xi_ok cX12_isBefore xi_323_6 = true := by decide +kernel
def xi_323 (pc : Nat) : XIs := cond (Nat.blt pc 72) (cond (Nat.blt pc 26) (xi_323_0) (cond (Nat.blt pc 50) (xi_323_1) (xi_323_2))) (cond (Nat.blt pc 116) (cond (Nat.blt pc 96) (xi_323_3) (xi_323_4)) (cond (Nat.blt pc 138) (xi_323_5) (xi_323_6)))
theorem xi_ok323 (pc : Nat) : xi_ok cX12_isBefore (xi_323 pc) = true := xi_c (xi_c (xi_ok323_0) (xi_c (xi_ok323_1) (xi_ok323_2))) (xi_c (xi_c (xi_ok323_3) (xi_ok323_4)) (xi_c (xi_ok323_5) (xi_ok323_6)))
def xi_324_0 : XIs := [(0, .iconst 0, 1), (1, .istore_n 1, 1), (2, .iload_n 1, 1), (3, .aload_n 0, 1), (4, .getfield 446, 3), (7, .if_icmp .ge 16, 3), (10, .aload_n 0, 1), (11, .getfield 94, 3), (14, .iload_n 1, 1), (15, .iload_n 1, 1), (16, .iastore, 1), (17, .iinc 1 1, 3), (20, .goto (-18), 3), (23, .iconst 1, 1), (24, .istore_n 1, 1), (25, .iload_n 1, 1)]
set_option maxRecDepth 100000 in
theorem xi_ok324_0 : xi_ok cX12_sortShorts xi_324_0 = true := by decide +kernel
def xi_324_1 : XIs := [(26, .aload_n 0, 1), (27, .getfield 446, 3), (30, .if_icmp .ge 226, 3), (33, .iconst 0, 1), (34, .istore_n 2, 1), (35, .iload_n 2, 1), (36, .aload_n 0, 1), (37, .getfield 446, 3), (40, .if_icmp .ge 181, 3), (43, .iload_n 2, 1), (44, .iload_n 1, 1), (45, .iadd, 1), (46, .aload_n 0, 1), (47, .getfield 446, 3), (50, .if_icmp .ge 9, 3), (53, .iload_n 2, 1)]
set_option maxRecDepth 100000 in
theorem xi_ok324_1 : xi_ok cX12_sortShorts xi_324_1 = true := by decide +kernel
def xi_324_2 : XIs := [(54, .iload_n 1, 1), (55, .iadd, 1), (56, .goto 7, 3), (59, .aload_n 0, 1), (60, .getfield 446, 3), (63, .istore_n 3, 1), (64, .iload_n 2, 1), (65, .iconst 2, 1), (66, .iload_n 1, 1), (67, .imul, 1), (68, .iadd, 1), (69, .aload_n 0, 1), (70, .getfield 446, 3), (73, .if_icmp .ge 11, 3), (76, .iload_n 2, 1), (77, .iconst 2, 1)]
set_option maxRecDepth 100000 in
theorem xi_ok324_2 : xi_ok cX12_sortShorts xi_324_2 = true := by decide +kernel
def xi_324_3 : XIs := [(78, .iload_n 1, 1), (79, .imul, 1), (80, .iadd, 1), (81, .goto 7, 3), (84, .aload_n 0, 1), (85, .getfield 446, 3), (88, .istore 4, 2), (90, .iload_n 2, 1), (91, .istore 5, 2), (93, .iload_n 3, 1), (94, .istore 6, 2), (96, .iload_n 2, 1), (97, .istore 7, 2), (99, .iload 7, 2), (101, .iload 4, 2), (103, .if_icmp .ge 109, 3)]
set_option maxRecDepth 100000 in
theorem xi_ok324_3 : xi_ok cX12_sortShorts xi_324_3 = true := by decide +kernel
def xi_324_4 : XIs := [(106, .iload 5, 2), (108, .iload_n 3, 1), (109, .if_icmp .ge 35, 3), (112, .iload 6, 2), (114, .iload 4, 2), (116, .if_icmp .eq 24, 3), (119, .aload_n 0, 1), (120, .aload_n 0, 1), (121, .getfield 94, 3), (124, .iload 6, 2), (126, .iaload, 1), (127, .aload_n 0, 1), (128, .getfield 94, 3), (131, .iload 5, 2), (133, .iaload, 1), (134, .invokevirtual 464, 3)]
set_option maxRecDepth 100000 in
theorem xi_ok324_4 : xi_ok cX12_sortShorts xi_324_4 = true := by decide +kernel
def xi_324_5 : XIs := [(137, .ifCond .ne 7, 3), (140, .iconst 1, 1), (141, .goto 4, 3), (144, .iconst 0, 1), (145, .istore 8, 2), (147, .aload_n 0, 1), (148, .getfield 97, 3), (151, .iload 7, 2), (153, .iload 8, 2), (155, .ifCond .eq 13, 3), (158, .aload_n 0, 1), (159, .getfield 94, 3), (162, .iload 5, 2), (164, .iaload, 1), (165, .goto 10, 3), (168, .aload_n 0, 1)]
set_option maxRecDepth 100000 in
theorem xi_ok324_5 : xi_ok cX12_sortShorts xi_324_5 = true := by decide +kernel
def xi_324_6 : XIs := [(169, .getfield 94, 3), (172, .iload 6, 2), (174, .iaload, 1), (175, .iastore, 1), (176, .iload 5, 2), (178, .iload 8, 2), (180, .ifCond .eq 7, 3), (183, .iconst 1, 1), (184, .goto 4, 3), (187, .iconst 0, 1), (188, .iadd, 1), (189, .istore 5, 2), (191, .iload 6, 2), (193, .iload 8, 2), (195, .ifCond .eq 7, 3), (198, .iconst 0, 1)]
set_option maxRecDepth 100000 in
theorem xi_ok324_6 : xi_ok cX12_sortShorts xi_324_6 = true := by decide +kernel
def xi_324_7 : XIs := [(199, .goto 4, 3), (202, .iconst 1, 1), (203, .iadd, 1), (204, .istore 6, 2), (206, .iinc 7 1, 3), (209, .goto (-110), 3), (212, .iload_n 2, 1), (213, .iconst 2, 1), (214, .iload_n 1, 1), (215, .imul, 1), (216, .iadd, 1), (217, .istore_n 2, 1), (218, .goto (-183), 3), (221, .iconst 0, 1), (222, .istore_n 2, 1), (223, .iload_n 2, 1)]
set_option maxRecDepth 100000 in
theorem xi_ok324_7 : xi_ok cX12_sortShorts xi_324_7 = true := by decide +kernel
def xi_324_8 : XIs := [(224, .aload_n 0, 1), (225, .getfield 446, 3), (228, .if_icmp .ge 21, 3), (231, .aload_n 0, 1), (232, .getfield 94, 3), (235, .iload_n 2, 1), (236, .aload_n 0, 1), (237, .getfield 97, 3), (240, .iload_n 2, 1), (241, .iaload, 1), (242, .iastore, 1), (243, .iinc 2 1, 3), (246, .goto (-23), 3), (249, .iload_n 1, 1), (250, .iconst 2, 1), (251, .imul, 1)]
set_option maxRecDepth 100000 in
theorem xi_ok324_8 : xi_ok cX12_sortShorts xi_324_8 = true := by decide +kernel
def xi_324_9 : XIs := [(252, .istore_n 1, 1), (253, .goto (-228), 3), (256, .return_, 1)]
set_option maxRecDepth 100000 in
theorem xi_ok324_9 : xi_ok cX12_sortShorts xi_324_9 = true := by decide +kernel
def xi_324 (pc : Nat) : XIs := cond (Nat.blt pc 137) (cond (Nat.blt pc 54) (cond (Nat.blt pc 26) (xi_324_0) (xi_324_1)) (cond (Nat.blt pc 78) (xi_324_2) (cond (Nat.blt pc 106) (xi_324_3) (xi_324_4)))) (cond (Nat.blt pc 199) (cond (Nat.blt pc 169) (xi_324_5) (xi_324_6)) (cond (Nat.blt pc 224) (xi_324_7) (cond (Nat.blt pc 252) (xi_324_8) (xi_324_9))))
theorem xi_ok324 (pc : Nat) : xi_ok cX12_sortShorts (xi_324 pc) = true := xi_c (xi_c (xi_c (xi_ok324_0) (xi_ok324_1)) (xi_c (xi_ok324_2) (xi_c (xi_ok324_3) (xi_ok324_4)))) (xi_c (xi_c (xi_ok324_5) (xi_ok324_6)) (xi_c (xi_ok324_7) (xi_c (xi_ok324_8) (xi_ok324_9))))
def xi_325_0 : XIs := [(0, .aload_n 0, 1), (1, .aload_n 0, 1), (2, .iload_n 1, 1), (3, .invokevirtual 349, 3), (6, .ifCond .eq 20, 3), (9, .aload_n 0, 1), (10, .iload_n 2, 1), (11, .invokevirtual 349, 3), (14, .ifCond .eq 12, 3), (17, .iload_n 1, 1), (18, .iload_n 2, 1), (19, .if_icmp .eq 7, 3), (22, .iconst 1, 1), (23, .goto 4, 3), (26, .iconst 0, 1), (27, .invokevirtual 334, 3)]
set_option maxRecDepth 100000 in
theorem xi_ok325_0 : xi_ok cX12_shorts xi_325_0 = true := by decide +kernel
def xi_325_1 : XIs := [(30, .ifCond .eq 5, 3), (33, .iconst 0, 1), (34, .ireturn, 1), (35, .aload_n 0, 1), (36, .iload_n 1, 1), (37, .iload_n 2, 1), (38, .invokevirtual 467, 3), (41, .aload_n 0, 1), (42, .getfield 446, 3), (45, .sipush 2000, 3), (48, .if_icmp .le 8, 3), (51, .bipush (-2), 2), (53, .goto 7, 3), (56, .aload_n 0, 1), (57, .getfield 446, 3), (60, .ireturn, 1)]
set_option maxRecDepth 100000 in
theorem xi_ok325_1 : xi_ok cX12_shorts xi_325_1 = true := by decide +kernel
def xi_325 (pc : Nat) : XIs := cond (Nat.blt pc 30) (xi_325_0) (xi_325_1)
theorem xi_ok325 (pc : Nat) : xi_ok cX12_shorts (xi_325 pc) = true := xi_c (xi_ok325_0) (xi_ok325_1)
def xi_326_0 : XIs := [(0, .aload_n 0, 1), (1, .aload_n 0, 1), (2, .iload_n 1, 1), (3, .invokevirtual 349, 3), (6, .ifCond .eq 29, 3), (9, .aload_n 0, 1), (10, .iload_n 2, 1), (11, .invokevirtual 349, 3), (14, .ifCond .eq 21, 3), (17, .iload_n 1, 1), (18, .iload_n 2, 1), (19, .if_icmp .eq 16, 3), (22, .iload_n 3, 1), (23, .ifCond .lt 12, 3), (26, .iload 4, 2), (28, .ifCond .lt 7, 3)]
set_option maxRecDepth 100000 in
theorem xi_ok326_0 : xi_ok cX12_shortArc xi_326_0 = true := by decide +kernel
def xi_326_1 : XIs := [(31, .iconst 1, 1), (32, .goto 4, 3), (35, .iconst 0, 1), (36, .invokevirtual 334, 3), (39, .ifCond .eq 5, 3), (42, .iconst 0, 1), (43, .ireturn, 1), (44, .aload_n 0, 1), (45, .iload_n 1, 1), (46, .iload_n 2, 1), (47, .invokevirtual 467, 3), (50, .aload_n 0, 1), (51, .getfield 446, 3), (54, .sipush 2000, 3), (57, .if_icmp .gt 11, 3), (60, .iload_n 3, 1)]
set_option maxRecDepth 100000 in
theorem xi_ok326_1 : xi_ok cX12_shortArc xi_326_1 = true := by decide +kernel
def xi_326_2 : XIs := [(61, .aload_n 0, 1), (62, .getfield 446, 3), (65, .if_icmp .lt 5, 3), (68, .iconst (-1), 1), (69, .ireturn, 1), (70, .aload_n 0, 1), (71, .invokevirtual 470, 3), (74, .iconst 5, 1), (75, .aload_n 0, 1), (76, .getfield 94, 3), (79, .iload_n 3, 1), (80, .iaload, 1), (81, .imul, 1), (82, .istore 5, 2), (84, .iload 4, 2), (86, .aload_n 0, 1)]
set_option maxRecDepth 100000 in
theorem xi_ok326_2 : xi_ok cX12_shortArc xi_326_2 = true := by decide +kernel
def xi_326_3 : XIs := [(87, .getfield 88, 3), (90, .iload 5, 2), (92, .iaload, 1), (93, .if_icmp .ge 18, 3), (96, .aload_n 0, 1), (97, .getfield 88, 3), (100, .iload 5, 2), (102, .iconst 1, 1), (103, .iadd, 1), (104, .iload 4, 2), (106, .iadd, 1), (107, .iaload, 1), (108, .goto 4, 3), (111, .iconst (-1), 1), (112, .ireturn, 1)]
set_option maxRecDepth 100000 in
theorem xi_ok326_3 : xi_ok cX12_shortArc xi_326_3 = true := by decide +kernel
def xi_326 (pc : Nat) : XIs := cond (Nat.blt pc 61) (cond (Nat.blt pc 31) (xi_326_0) (xi_326_1)) (cond (Nat.blt pc 87) (xi_326_2) (xi_326_3))
theorem xi_ok326 (pc : Nat) : xi_ok cX12_shortArc (xi_326 pc) = true := xi_c (xi_c (xi_ok326_0) (xi_ok326_1)) (xi_c (xi_ok326_2) (xi_ok326_3))
def xi_327_0 : XIs := [(0, .iconst 0, 1), (1, .istore_n 1, 1), (2, .iload_n 0, 1), (3, .iload_n 1, 1), (4, .invokestatic 427, 3), (7, .ifCond .ne 9, 3), (10, .iinc 1 1, 3), (13, .goto (-11), 3), (16, .iload_n 1, 1), (17, .ireturn, 1)]
set_option maxRecDepth 100000 in
theorem xi_ok327_0 : xi_ok cX12_least xi_327_0 = true := by decide +kernel
def xi_327 (pc : Nat) : XIs := xi_327_0
theorem xi_ok327 (pc : Nat) : xi_ok cX12_least (xi_327 pc) = true := xi_ok327_0
def xi_328_0 : XIs := [(0, .aload_n 0, 1), (1, .iload_n 1, 1), (2, .i2l, 1), (3, .lconst 0, 1), (4, .lconst 1, 1), (5, .invokestatic 308, 3), (8, .ifCond .eq 15, 3), (11, .aload_n 0, 1), (12, .iload_n 2, 1), (13, .invokevirtual 349, 3), (16, .ifCond .eq 7, 3), (19, .iconst 1, 1), (20, .goto 4, 3), (23, .iconst 0, 1), (24, .invokevirtual 334, 3), (27, .ifCond .eq 5, 3)]
set_option maxRecDepth 100000 in
theorem xi_ok328_0 : xi_ok cX12_part xi_328_0 = true := by decide +kernel
def xi_328_1 : XIs := [(30, .iconst 0, 1), (31, .ireturn, 1), (32, .aload_n 0, 1), (33, .iload_n 1, 1), (34, .iconst 1, 1), (35, .if_icmp .ne 7, 3), (38, .iconst 1, 1), (39, .goto 4, 3), (42, .iconst 0, 1), (43, .iconst (-1), 1), (44, .iconst (-1), 1), (45, .invokevirtual 433, 3), (48, .iconst 0, 1), (49, .istore_n 3, 1), (50, .aload_n 0, 1), (51, .getfield 72, 3)]
set_option maxRecDepth 100000 in
theorem xi_ok328_1 : xi_ok cX12_part xi_328_1 = true := by decide +kernel
def xi_328_2 : XIs := [(54, .iload_n 2, 1), (55, .iaload, 1), (56, .iload_n 3, 1), (57, .invokestatic 427, 3), (60, .ifCond .eq 16, 3), (63, .aload_n 0, 1), (64, .getfield 72, 3), (67, .iload_n 3, 1), (68, .iaload, 1), (69, .iload_n 2, 1), (70, .invokestatic 427, 3), (73, .ifCond .ne 9, 3), (76, .iinc 3 1, 3), (79, .goto (-29), 3), (82, .iload_n 3, 1), (83, .ireturn, 1)]
set_option maxRecDepth 100000 in
theorem xi_ok328_2 : xi_ok cX12_part xi_328_2 = true := by decide +kernel
def xi_328 (pc : Nat) : XIs := cond (Nat.blt pc 30) (xi_328_0) (cond (Nat.blt pc 54) (xi_328_1) (xi_328_2))
theorem xi_ok328 (pc : Nat) : xi_ok cX12_part (xi_328 pc) = true := xi_c (xi_ok328_0) (xi_c (xi_ok328_1) (xi_ok328_2))
def xi_329_0 : XIs := [(0, .aload_n 0, 1), (1, .iconst 1, 1), (2, .iload_n 1, 1), (3, .iload_n 2, 1), (4, .invokevirtual 433, 3), (7, .iconst 0, 1), (8, .istore_n 3, 1), (9, .iconst 0, 1), (10, .istore 4, 2), (12, .iload 4, 2), (14, .aload_n 0, 1), (15, .getfield 285, 3), (18, .if_icmp .ge 38, 3), (21, .iload_n 3, 1), (22, .iload 4, 2), (24, .iload_n 2, 1)]
set_option maxRecDepth 100000 in
theorem xi_ok329_0 : xi_ok cX12_weakParts xi_329_0 = true := by decide +kernel
def xi_329_1 : XIs := [(25, .if_icmp .eq 22, 3), (28, .aload_n 0, 1), (29, .getfield 72, 3), (32, .iload 4, 2), (34, .iaload, 1), (35, .invokestatic 473, 3), (38, .iload 4, 2), (40, .if_icmp .ne 7, 3), (43, .iconst 1, 1), (44, .goto 4, 3), (47, .iconst 0, 1), (48, .iadd, 1), (49, .istore_n 3, 1), (50, .iinc 4 1, 3), (53, .goto (-41), 3), (56, .iload_n 3, 1)]
set_option maxRecDepth 100000 in
theorem xi_ok329_1 : xi_ok cX12_weakParts xi_329_1 = true := by decide +kernel
def xi_329_2 : XIs := [(57, .ireturn, 1)]
set_option maxRecDepth 100000 in
theorem xi_ok329_2 : xi_ok cX12_weakParts xi_329_2 = true := by decide +kernel
def xi_329 (pc : Nat) : XIs := cond (Nat.blt pc 25) (xi_329_0) (cond (Nat.blt pc 57) (xi_329_1) (xi_329_2))
theorem xi_ok329 (pc : Nat) : xi_ok cX12_weakParts (xi_329 pc) = true := xi_c (xi_ok329_0) (xi_c (xi_ok329_1) (xi_ok329_2))
def xi_330_0 : XIs := [(0, .aload_n 0, 1), (1, .aload_n 0, 1), (2, .iload_n 1, 1), (3, .invokevirtual 476, 3), (6, .invokevirtual 334, 3), (9, .ifCond .eq 5, 3), (12, .iconst 0, 1), (13, .ireturn, 1), (14, .aload_n 0, 1), (15, .iload_n 1, 1), (16, .iconst (-1), 1), (17, .invokevirtual 479, 3), (20, .aload_n 0, 1), (21, .iconst (-1), 1), (22, .iconst (-1), 1), (23, .invokevirtual 479, 3)]
set_option maxRecDepth 100000 in
theorem xi_ok330_0 : xi_ok cX12_bridge xi_330_0 = true := by decide +kernel
def xi_330_1 : XIs := [(26, .if_icmp .le 7, 3), (29, .iconst 1, 1), (30, .goto 4, 3), (33, .iconst 0, 1), (34, .ireturn, 1)]
set_option maxRecDepth 100000 in
theorem xi_ok330_1 : xi_ok cX12_bridge xi_330_1 = true := by decide +kernel
def xi_330 (pc : Nat) : XIs := cond (Nat.blt pc 26) (xi_330_0) (xi_330_1)
theorem xi_ok330 (pc : Nat) : xi_ok cX12_bridge (xi_330 pc) = true := xi_c (xi_ok330_0) (xi_ok330_1)
def xi_331_0 : XIs := [(0, .aload_n 0, 1), (1, .aload_n 0, 1), (2, .iload_n 1, 1), (3, .invokevirtual 349, 3), (6, .invokevirtual 334, 3), (9, .ifCond .eq 5, 3), (12, .iconst 0, 1), (13, .ireturn, 1), (14, .aload_n 0, 1), (15, .iconst (-1), 1), (16, .iload_n 1, 1), (17, .invokevirtual 479, 3), (20, .aload_n 0, 1), (21, .iconst (-1), 1), (22, .iconst (-1), 1), (23, .invokevirtual 479, 3)]
set_option maxRecDepth 100000 in
theorem xi_ok331_0 : xi_ok cX12_cut xi_331_0 = true := by decide +kernel
def xi_331_1 : XIs := [(26, .if_icmp .le 7, 3), (29, .iconst 1, 1), (30, .goto 4, 3), (33, .iconst 0, 1), (34, .ireturn, 1)]
set_option maxRecDepth 100000 in
theorem xi_ok331_1 : xi_ok cX12_cut xi_331_1 = true := by decide +kernel
def xi_331 (pc : Nat) : XIs := cond (Nat.blt pc 26) (xi_331_0) (xi_331_1)
theorem xi_ok331 (pc : Nat) : xi_ok cX12_cut (xi_331 pc) = true := xi_c (xi_ok331_0) (xi_ok331_1)
def xi_332_0 : XIs := [(0, .aload_n 0, 1), (1, .iload_n 1, 1), (2, .ifCond .lt 7, 3), (5, .iconst 1, 1), (6, .goto 4, 3), (9, .iconst 0, 1), (10, .invokevirtual 334, 3), (13, .ifCond .eq 5, 3), (16, .iconst 0, 1), (17, .ireturn, 1), (18, .iconst 0, 1), (19, .istore_n 2, 1), (20, .iconst (-1), 1), (21, .istore_n 3, 1), (22, .iconst (-1), 1), (23, .istore 4, 2)]
set_option maxRecDepth 100000 in
theorem xi_ok332_0 : xi_ok cX12_order xi_332_0 = true := by decide +kernel
def xi_332_1 : XIs := [(25, .iconst 0, 1), (26, .istore 5, 2), (28, .iload 5, 2), (30, .aload_n 0, 1), (31, .getfield 285, 3), (34, .if_icmp .ge 158, 3), (37, .iconst (-1), 1), (38, .istore_n 3, 1), (39, .aload_n 0, 1), (40, .getfield 285, 3), (43, .iconst 1, 1), (44, .isub, 1), (45, .istore 6, 2), (47, .iload 6, 2), (49, .ifCond .lt 110, 3), (52, .iload_n 2, 1)]
set_option maxRecDepth 100000 in
theorem xi_ok332_1 : xi_ok cX12_order xi_332_1 = true := by decide +kernel
def xi_332_2 : XIs := [(53, .iload 6, 2), (55, .invokestatic 427, 3), (58, .ifCond .ne 7, 3), (61, .iconst 1, 1), (62, .goto 4, 3), (65, .iconst 0, 1), (66, .istore 7, 2), (68, .aload_n 0, 1), (69, .getfield 288, 3), (72, .istore 8, 2), (74, .iload 8, 2), (76, .aload_n 0, 1), (77, .getfield 288, 3), (80, .sipush 160, 3), (83, .iadd, 1), (84, .if_icmp .ge 57, 3)]
set_option maxRecDepth 100000 in
theorem xi_ok332_2 : xi_ok cX12_order xi_332_2 = true := by decide +kernel
def xi_332_3 : XIs := [(87, .iload 7, 2), (89, .ifCond .eq 52, 3), (92, .aload_n 0, 1), (93, .getfield 16, 3), (96, .iload 8, 2), (98, .baload, 1), (99, .ifCond .eq 29, 3), (102, .aload_n 0, 1), (103, .getfield 23, 3), (106, .iload 8, 2), (108, .iaload, 1), (109, .iload 6, 2), (111, .if_icmp .ne 17, 3), (114, .iload_n 2, 1), (115, .aload_n 0, 1), (116, .getfield 20, 3)]
set_option maxRecDepth 100000 in
theorem xi_ok332_3 : xi_ok cX12_order xi_332_3 = true := by decide +kernel
def xi_332_4 : XIs := [(119, .iload 8, 2), (121, .iaload, 1), (122, .invokestatic 427, 3), (125, .ifCond .eq 7, 3), (128, .iconst 1, 1), (129, .goto 4, 3), (132, .iconst 0, 1), (133, .istore 7, 2), (135, .iinc 8 1, 3), (138, .goto (-64), 3), (141, .iload 7, 2), (143, .ifCond .eq 8, 3), (146, .iload 6, 2), (148, .goto 4, 3), (151, .iload_n 3, 1), (152, .istore_n 3, 1)]
set_option maxRecDepth 100000 in
theorem xi_ok332_4 : xi_ok cX12_order xi_332_4 = true := by decide +kernel
def xi_332_5 : XIs := [(153, .iinc 6 (-1), 3), (156, .goto (-109), 3), (159, .iload_n 3, 1), (160, .iconst (-1), 1), (161, .if_icmp .ne 5, 3), (164, .iconst (-1), 1), (165, .ireturn, 1), (166, .iload_n 2, 1), (167, .iconst 1, 1), (168, .iload_n 3, 1), (169, .ishl, 1), (170, .ior, 1), (171, .istore_n 2, 1), (172, .iload 5, 2), (174, .iload_n 1, 1), (175, .if_icmp .ne 7, 3)]
set_option maxRecDepth 100000 in
theorem xi_ok332_5 : xi_ok cX12_order xi_332_5 = true := by decide +kernel
def xi_332_6 : XIs := [(178, .iload_n 3, 1), (179, .goto 5, 3), (182, .iload 4, 2), (184, .istore 4, 2), (186, .iinc 5 1, 3), (189, .goto (-161), 3), (192, .iload 4, 2), (194, .ireturn, 1)]
set_option maxRecDepth 100000 in
theorem xi_ok332_6 : xi_ok cX12_order xi_332_6 = true := by decide +kernel
def xi_332 (pc : Nat) : XIs := cond (Nat.blt pc 87) (cond (Nat.blt pc 25) (xi_332_0) (cond (Nat.blt pc 53) (xi_332_1) (xi_332_2))) (cond (Nat.blt pc 153) (cond (Nat.blt pc 119) (xi_332_3) (xi_332_4)) (cond (Nat.blt pc 178) (xi_332_5) (xi_332_6)))
theorem xi_ok332 (pc : Nat) : xi_ok cX12_order (xi_332 pc) = true := xi_c (xi_c (xi_ok332_0) (xi_c (xi_ok332_1) (xi_ok332_2))) (xi_c (xi_c (xi_ok332_3) (xi_ok332_4)) (xi_c (xi_ok332_5) (xi_ok332_6)))
def xi_333_0 : XIs := [(0, .iconst 0, 1), (1, .istore_n 3, 1), (2, .iconst 0, 1), (3, .istore 4, 2), (5, .iload 4, 2), (7, .sipush 160, 3), (10, .if_icmp .ge 84, 3), (13, .aload_n 0, 1), (14, .iload 4, 2), (16, .invokevirtual 340, 3), (19, .ifCond .eq 69, 3), (22, .aload_n 0, 1), (23, .getfield 20, 3), (26, .aload_n 0, 1), (27, .getfield 288, 3), (30, .iload 4, 2)]
set_option maxRecDepth 100000 in
theorem xi_ok333_0 : xi_ok cX12_jointsWith xi_333_0 = true := by decide +kernel
def xi_333_1 : XIs := [(32, .iadd, 1), (33, .iaload, 1), (34, .istore 5, 2), (36, .aload_n 0, 1), (37, .getfield 23, 3), (40, .aload_n 0, 1), (41, .getfield 288, 3), (44, .iload 4, 2), (46, .iadd, 1), (47, .iaload, 1), (48, .istore 6, 2), (50, .iload_n 3, 1), (51, .iload 5, 2), (53, .iload_n 1, 1), (54, .if_icmp .ne 12, 3), (57, .iload_n 2, 1)]
set_option maxRecDepth 100000 in
theorem xi_ok333_1 : xi_ok cX12_jointsWith xi_333_1 = true := by decide +kernel
def xi_333_2 : XIs := [(58, .iload 6, 2), (60, .invokestatic 427, 3), (63, .ifCond .ne 18, 3), (66, .iload 6, 2), (68, .iload_n 1, 1), (69, .if_icmp .ne 16, 3), (72, .iload_n 2, 1), (73, .iload 5, 2), (75, .invokestatic 427, 3), (78, .ifCond .eq 7, 3), (81, .iconst 1, 1), (82, .goto 4, 3), (85, .iconst 0, 1), (86, .iadd, 1), (87, .istore_n 3, 1), (88, .iinc 4 1, 3)]
set_option maxRecDepth 100000 in
theorem xi_ok333_2 : xi_ok cX12_jointsWith xi_333_2 = true := by decide +kernel
def xi_333_3 : XIs := [(91, .goto (-86), 3), (94, .iload_n 3, 1), (95, .ireturn, 1)]
set_option maxRecDepth 100000 in
theorem xi_ok333_3 : xi_ok cX12_jointsWith xi_333_3 = true := by decide +kernel
def xi_333 (pc : Nat) : XIs := cond (Nat.blt pc 58) (cond (Nat.blt pc 32) (xi_333_0) (xi_333_1)) (cond (Nat.blt pc 91) (xi_333_2) (xi_333_3))
theorem xi_ok333 (pc : Nat) : xi_ok cX12_jointsWith (xi_333 pc) = true := xi_c (xi_c (xi_ok333_0) (xi_ok333_1)) (xi_c (xi_ok333_2) (xi_ok333_3))
def xi_334_0 : XIs := [(0, .aload_n 0, 1), (1, .aload_n 0, 1), (2, .iload_n 1, 1), (3, .invokevirtual 349, 3), (6, .invokevirtual 334, 3), (9, .ifCond .eq 5, 3), (12, .iconst 0, 1), (13, .ireturn, 1), (14, .aload_n 0, 1), (15, .getfield 285, 3), (18, .bipush 32, 2), (20, .if_icmp .ne 7, 3), (23, .iconst (-1), 1), (24, .goto 11, 3), (27, .iconst 1, 1), (28, .aload_n 0, 1)]
set_option maxRecDepth 100000 in
theorem xi_ok334_0 : xi_ok cX12_core xi_334_0 = true := by decide +kernel
def xi_334_1 : XIs := [(29, .getfield 285, 3), (32, .ishl, 1), (33, .iconst 1, 1), (34, .isub, 1), (35, .istore_n 2, 1), (36, .iconst 0, 1), (37, .istore_n 3, 1), (38, .iconst 0, 1), (39, .istore 4, 2), (41, .iload_n 2, 1), (42, .iload_n 1, 1), (43, .invokestatic 427, 3), (46, .ifCond .eq 76, 3), (49, .iload_n 3, 1), (50, .istore 4, 2), (52, .iinc 3 1, 3)]
set_option maxRecDepth 100000 in
theorem xi_ok334_1 : xi_ok cX12_core xi_334_1 = true := by decide +kernel
def xi_334_2 : XIs := [(55, .iconst 1, 1), (56, .istore 5, 2), (58, .iload 5, 2), (60, .ifCond .eq 59, 3), (63, .iconst 0, 1), (64, .istore 5, 2), (66, .iconst 0, 1), (67, .istore 6, 2), (69, .iload 6, 2), (71, .aload_n 0, 1), (72, .getfield 285, 3), (75, .if_icmp .ge 41, 3), (78, .iload_n 2, 1), (79, .iload 6, 2), (81, .invokestatic 427, 3), (84, .ifCond .eq 26, 3)]
set_option maxRecDepth 100000 in
theorem xi_ok334_2 : xi_ok cX12_core xi_334_2 = true := by decide +kernel
def xi_334_3 : XIs := [(87, .aload_n 0, 1), (88, .iload 6, 2), (90, .iload_n 2, 1), (91, .invokevirtual 482, 3), (94, .iload_n 3, 1), (95, .if_icmp .ge 15, 3), (98, .iload_n 2, 1), (99, .iconst 1, 1), (100, .iload 6, 2), (102, .ishl, 1), (103, .iconst (-1), 1), (104, .ixor, 1), (105, .iand, 1), (106, .istore_n 2, 1), (107, .iconst 1, 1), (108, .istore 5, 2)]
set_option maxRecDepth 100000 in
theorem xi_ok334_3 : xi_ok cX12_core xi_334_3 = true := by decide +kernel
def xi_334_4 : XIs := [(110, .iinc 6 1, 3), (113, .goto (-44), 3), (116, .goto (-58), 3), (119, .goto (-78), 3), (122, .iload 4, 2), (124, .ireturn, 1)]
set_option maxRecDepth 100000 in
theorem xi_ok334_4 : xi_ok cX12_core xi_334_4 = true := by decide +kernel
def xi_334 (pc : Nat) : XIs := cond (Nat.blt pc 55) (cond (Nat.blt pc 29) (xi_334_0) (xi_334_1)) (cond (Nat.blt pc 87) (xi_334_2) (cond (Nat.blt pc 110) (xi_334_3) (xi_334_4)))
theorem xi_ok334 (pc : Nat) : xi_ok cX12_core (xi_334 pc) = true := xi_c (xi_c (xi_ok334_0) (xi_ok334_1)) (xi_c (xi_ok334_2) (xi_c (xi_ok334_3) (xi_ok334_4)))
def xi_335_0 : XIs := [(0, .iconst 0, 1), (1, .istore_n 1, 1), (2, .iload_n 1, 1), (3, .aload_n 0, 1), (4, .getfield 285, 3), (7, .if_icmp .ge 16, 3), (10, .aload_n 0, 1), (11, .getfield 100, 3), (14, .iload_n 1, 1), (15, .iconst 0, 1), (16, .iastore, 1), (17, .iinc 1 1, 3), (20, .goto (-18), 3), (23, .iconst 0, 1), (24, .istore_n 1, 1), (25, .iload_n 1, 1)]
set_option maxRecDepth 100000 in
theorem xi_ok335_0 : xi_ok cX12_findBeside xi_335_0 = true := by decide +kernel
def xi_335_1 : XIs := [(26, .sipush 160, 3), (29, .if_icmp .ge 81, 3), (32, .aload_n 0, 1), (33, .iload_n 1, 1), (34, .invokevirtual 340, 3), (37, .ifCond .eq 67, 3), (40, .aload_n 0, 1), (41, .getfield 100, 3), (44, .aload_n 0, 1), (45, .getfield 20, 3), (48, .aload_n 0, 1), (49, .getfield 288, 3), (52, .iload_n 1, 1), (53, .iadd, 1), (54, .iaload, 1), (55, .dup2, 1)]
set_option maxRecDepth 100000 in
theorem xi_ok335_1 : xi_ok cX12_findBeside xi_335_1 = true := by decide +kernel
def xi_335_2 : XIs := [(56, .iaload, 1), (57, .iconst 1, 1), (58, .aload_n 0, 1), (59, .getfield 23, 3), (62, .aload_n 0, 1), (63, .getfield 288, 3), (66, .iload_n 1, 1), (67, .iadd, 1), (68, .iaload, 1), (69, .ishl, 1), (70, .ior, 1), (71, .iastore, 1), (72, .aload_n 0, 1), (73, .getfield 100, 3), (76, .aload_n 0, 1), (77, .getfield 23, 3)]
set_option maxRecDepth 100000 in
theorem xi_ok335_2 : xi_ok cX12_findBeside xi_335_2 = true := by decide +kernel
def xi_335_3 : XIs := [(80, .aload_n 0, 1), (81, .getfield 288, 3), (84, .iload_n 1, 1), (85, .iadd, 1), (86, .iaload, 1), (87, .dup2, 1), (88, .iaload, 1), (89, .iconst 1, 1), (90, .aload_n 0, 1), (91, .getfield 20, 3), (94, .aload_n 0, 1), (95, .getfield 288, 3), (98, .iload_n 1, 1), (99, .iadd, 1), (100, .iaload, 1), (101, .ishl, 1)]
set_option maxRecDepth 100000 in
theorem xi_ok335_3 : xi_ok cX12_findBeside xi_335_3 = true := by decide +kernel
def xi_335_4 : XIs := [(102, .ior, 1), (103, .iastore, 1), (104, .iinc 1 1, 3), (107, .goto (-82), 3), (110, .return_, 1)]
set_option maxRecDepth 100000 in
theorem xi_ok335_4 : xi_ok cX12_findBeside xi_335_4 = true := by decide +kernel
def xi_335 (pc : Nat) : XIs := cond (Nat.blt pc 56) (cond (Nat.blt pc 26) (xi_335_0) (xi_335_1)) (cond (Nat.blt pc 80) (xi_335_2) (cond (Nat.blt pc 102) (xi_335_3) (xi_335_4)))
theorem xi_ok335 (pc : Nat) : xi_ok cX12_findBeside (xi_335 pc) = true := xi_c (xi_c (xi_ok335_0) (xi_ok335_1)) (xi_c (xi_ok335_2) (xi_c (xi_ok335_3) (xi_ok335_4)))
def xi_336_0 : XIs := [(0, .iconst 0, 1), (1, .istore_n 1, 1), (2, .iconst 0, 1), (3, .istore_n 2, 1), (4, .iload_n 2, 1), (5, .bipush 32, 2), (7, .if_icmp .ge 17, 3), (10, .iload_n 1, 1), (11, .iload_n 0, 1), (12, .iload_n 2, 1), (13, .ishr, 1), (14, .iconst 1, 1), (15, .iand, 1), (16, .iadd, 1), (17, .istore_n 1, 1), (18, .iinc 2 1, 3)]
set_option maxRecDepth 100000 in
theorem xi_ok336_0 : xi_ok cX12_count xi_336_0 = true := by decide +kernel
def xi_336_1 : XIs := [(21, .goto (-17), 3), (24, .iload_n 1, 1), (25, .ireturn, 1)]
set_option maxRecDepth 100000 in
theorem xi_ok336_1 : xi_ok cX12_count xi_336_1 = true := by decide +kernel
def xi_336 (pc : Nat) : XIs := cond (Nat.blt pc 21) (xi_336_0) (xi_336_1)
theorem xi_ok336 (pc : Nat) : xi_ok cX12_count (xi_336 pc) = true := xi_c (xi_ok336_0) (xi_ok336_1)
def xi_337_0 : XIs := [(0, .aload_n 0, 1), (1, .invokevirtual 485, 3), (4, .iconst 0, 1), (5, .istore_n 1, 1), (6, .iconst 0, 1), (7, .istore_n 2, 1), (8, .iconst 0, 1), (9, .istore_n 3, 1), (10, .aload_n 0, 1), (11, .getfield 106, 3), (14, .iconst 0, 1), (15, .aload_n 0, 1), (16, .getfield 285, 3), (19, .bipush 32, 2), (21, .if_icmp .ne 7, 3), (24, .iconst (-1), 1)]
set_option maxRecDepth 100000 in
theorem xi_ok337_0 : xi_ok cX12_findClique xi_337_0 = true := by decide +kernel
def xi_337_1 : XIs := [(25, .goto 11, 3), (28, .iconst 1, 1), (29, .aload_n 0, 1), (30, .getfield 285, 3), (33, .ishl, 1), (34, .iconst 1, 1), (35, .isub, 1), (36, .iastore, 1), (37, .aload_n 0, 1), (38, .getfield 103, 3), (41, .iconst 0, 1), (42, .iconst 0, 1), (43, .iastore, 1), (44, .iload_n 3, 1), (45, .ifCond .lt 120, 3), (48, .iload_n 3, 1)]
set_option maxRecDepth 100000 in
theorem xi_ok337_1 : xi_ok cX12_findClique xi_337_1 = true := by decide +kernel
def xi_337_2 : XIs := [(49, .iload_n 2, 1), (50, .if_icmp .le 12, 3), (53, .iload_n 3, 1), (54, .istore_n 2, 1), (55, .aload_n 0, 1), (56, .getfield 103, 3), (59, .iload_n 3, 1), (60, .iaload, 1), (61, .istore_n 1, 1), (62, .aload_n 0, 1), (63, .getfield 106, 3), (66, .iload_n 3, 1), (67, .iaload, 1), (68, .ifCond .eq 18, 3), (71, .iload_n 3, 1), (72, .aload_n 0, 1)]
set_option maxRecDepth 100000 in
theorem xi_ok337_2 : xi_ok cX12_findClique xi_337_2 = true := by decide +kernel
def xi_337_3 : XIs := [(73, .getfield 106, 3), (76, .iload_n 3, 1), (77, .iaload, 1), (78, .invokestatic 488, 3), (81, .iadd, 1), (82, .iload_n 2, 1), (83, .if_icmp .gt 9, 3), (86, .iinc 3 (-1), 3), (89, .goto (-45), 3), (92, .aload_n 0, 1), (93, .getfield 106, 3), (96, .iload_n 3, 1), (97, .iaload, 1), (98, .invokestatic 473, 3), (101, .istore 4, 2), (103, .aload_n 0, 1)]
set_option maxRecDepth 100000 in
theorem xi_ok337_3 : xi_ok cX12_findClique xi_337_3 = true := by decide +kernel
def xi_337_4 : XIs := [(104, .getfield 106, 3), (107, .iload_n 3, 1), (108, .dup2, 1), (109, .iaload, 1), (110, .iconst 1, 1), (111, .iload 4, 2), (113, .ishl, 1), (114, .iconst (-1), 1), (115, .ixor, 1), (116, .iand, 1), (117, .iastore, 1), (118, .aload_n 0, 1), (119, .getfield 106, 3), (122, .iload_n 3, 1), (123, .iconst 1, 1), (124, .iadd, 1)]
set_option maxRecDepth 100000 in
theorem xi_ok337_4 : xi_ok cX12_findClique xi_337_4 = true := by decide +kernel
def xi_337_5 : XIs := [(125, .aload_n 0, 1), (126, .getfield 106, 3), (129, .iload_n 3, 1), (130, .iaload, 1), (131, .aload_n 0, 1), (132, .getfield 100, 3), (135, .iload 4, 2), (137, .iaload, 1), (138, .iand, 1), (139, .iastore, 1), (140, .aload_n 0, 1), (141, .getfield 103, 3), (144, .iload_n 3, 1), (145, .iconst 1, 1), (146, .iadd, 1), (147, .aload_n 0, 1)]
set_option maxRecDepth 100000 in
theorem xi_ok337_5 : xi_ok cX12_findClique xi_337_5 = true := by decide +kernel
def xi_337_6 : XIs := [(148, .getfield 103, 3), (151, .iload_n 3, 1), (152, .iaload, 1), (153, .iconst 1, 1), (154, .iload 4, 2), (156, .ishl, 1), (157, .ior, 1), (158, .iastore, 1), (159, .iinc 3 1, 3), (162, .goto (-118), 3), (165, .iload_n 1, 1), (166, .ireturn, 1)]
set_option maxRecDepth 100000 in
theorem xi_ok337_6 : xi_ok cX12_findClique xi_337_6 = true := by decide +kernel
def xi_337 (pc : Nat) : XIs := cond (Nat.blt pc 73) (cond (Nat.blt pc 25) (xi_337_0) (cond (Nat.blt pc 49) (xi_337_1) (xi_337_2))) (cond (Nat.blt pc 125) (cond (Nat.blt pc 104) (xi_337_3) (xi_337_4)) (cond (Nat.blt pc 148) (xi_337_5) (xi_337_6)))
theorem xi_ok337 (pc : Nat) : xi_ok cX12_findClique (xi_337 pc) = true := xi_c (xi_c (xi_ok337_0) (xi_c (xi_ok337_1) (xi_ok337_2))) (xi_c (xi_c (xi_ok337_3) (xi_ok337_4)) (xi_c (xi_ok337_5) (xi_ok337_6)))
def xi_338_0 : XIs := [(0, .aload_n 0, 1), (1, .iload_n 1, 1), (2, .ifCond .lt 7, 3), (5, .iconst 1, 1), (6, .goto 4, 3), (9, .iconst 0, 1), (10, .invokevirtual 334, 3), (13, .ifCond .eq 5, 3), (16, .iconst 0, 1), (17, .ireturn, 1), (18, .aload_n 0, 1), (19, .invokevirtual 491, 3), (22, .istore_n 2, 1), (23, .iconst 0, 1), (24, .istore_n 3, 1), (25, .iconst 0, 1)]
set_option maxRecDepth 100000 in
theorem xi_ok338_0 : xi_ok cX12_clique xi_338_0 = true := by decide +kernel
def xi_338_1 : XIs := [(26, .istore 4, 2), (28, .iload 4, 2), (30, .aload_n 0, 1), (31, .getfield 285, 3), (34, .if_icmp .ge 29, 3), (37, .iload_n 2, 1), (38, .iload 4, 2), (40, .invokestatic 427, 3), (43, .ifCond .eq 14, 3), (46, .iload_n 3, 1), (47, .iload_n 1, 1), (48, .if_icmp .ne 6, 3), (51, .iload 4, 2), (53, .ireturn, 1), (54, .iinc 3 1, 3), (57, .iinc 4 1, 3)]
set_option maxRecDepth 100000 in
theorem xi_ok338_1 : xi_ok cX12_clique xi_338_1 = true := by decide +kernel
def xi_338_2 : XIs := [(60, .goto (-32), 3), (63, .iconst (-1), 1), (64, .ireturn, 1)]
set_option maxRecDepth 100000 in
theorem xi_ok338_2 : xi_ok cX12_clique xi_338_2 = true := by decide +kernel
def xi_338 (pc : Nat) : XIs := cond (Nat.blt pc 26) (xi_338_0) (cond (Nat.blt pc 60) (xi_338_1) (xi_338_2))
theorem xi_ok338 (pc : Nat) : xi_ok cX12_clique (xi_338 pc) = true := xi_c (xi_ok338_0) (xi_c (xi_ok338_1) (xi_ok338_2))
def xi_339_0 : XIs := [(0, .iconst 0, 1), (1, .istore_n 2, 1), (2, .iconst 0, 1), (3, .istore_n 3, 1), (4, .iload_n 3, 1), (5, .aload_n 0, 1), (6, .getfield 285, 3), (9, .if_icmp .ge 46, 3), (12, .iload_n 2, 1), (13, .aload_n 0, 1), (14, .getfield 100, 3), (17, .iload_n 1, 1), (18, .iaload, 1), (19, .iload_n 3, 1), (20, .invokestatic 427, 3), (23, .ifCond .eq 23, 3)]
set_option maxRecDepth 100000 in
theorem xi_ok339_0 : xi_ok cX12_barsOf xi_339_0 = true := by decide +kernel
def xi_339_1 : XIs := [(26, .aload_n 0, 1), (27, .getfield 112, 3), (30, .iload_n 3, 1), (31, .iaload, 1), (32, .ifCond .lt 14, 3), (35, .iconst 1, 1), (36, .aload_n 0, 1), (37, .getfield 112, 3), (40, .iload_n 3, 1), (41, .iaload, 1), (42, .ishl, 1), (43, .goto 4, 3), (46, .iconst 0, 1), (47, .ior, 1), (48, .istore_n 2, 1), (49, .iinc 3 1, 3)]
set_option maxRecDepth 100000 in
theorem xi_ok339_1 : xi_ok cX12_barsOf xi_339_1 = true := by decide +kernel
def xi_339_2 : XIs := [(52, .goto (-48), 3), (55, .iload_n 2, 1), (56, .ireturn, 1)]
set_option maxRecDepth 100000 in
theorem xi_ok339_2 : xi_ok cX12_barsOf xi_339_2 = true := by decide +kernel
def xi_339 (pc : Nat) : XIs := cond (Nat.blt pc 26) (xi_339_0) (cond (Nat.blt pc 52) (xi_339_1) (xi_339_2))
theorem xi_ok339 (pc : Nat) : xi_ok cX12_barsOf (xi_339 pc) = true := xi_c (xi_ok339_0) (xi_c (xi_ok339_1) (xi_ok339_2))
def xi_340_0 : XIs := [(0, .iconst (-1), 1), (1, .istore_n 2, 1), (2, .iconst 0, 1), (3, .istore_n 3, 1), (4, .iconst 0, 1), (5, .istore 4, 2), (7, .iconst 0, 1), (8, .istore 5, 2), (10, .iload 5, 2), (12, .aload_n 0, 1), (13, .getfield 285, 3), (16, .if_icmp .ge 89, 3), (19, .aload_n 0, 1), (20, .getfield 495, 3), (23, .iload 5, 2), (25, .invokestatic 427, 3)]
set_option maxRecDepth 100000 in
theorem xi_ok340_0 : xi_ok cX12_tightest xi_340_0 = true := by decide +kernel
def xi_340_1 : XIs := [(28, .ifCond .eq 71, 3), (31, .aload_n 0, 1), (32, .getfield 112, 3), (35, .iload 5, 2), (37, .iaload, 1), (38, .ifCond .ge 61, 3), (41, .iload_n 1, 1), (42, .aload_n 0, 1), (43, .iload 5, 2), (45, .invokevirtual 498, 3), (48, .invokestatic 488, 3), (51, .isub, 1), (52, .istore 6, 2), (54, .aload_n 0, 1), (55, .getfield 100, 3), (58, .iload 5, 2)]
set_option maxRecDepth 100000 in
theorem xi_ok340_1 : xi_ok cX12_tightest xi_340_1 = true := by decide +kernel
def xi_340_2 : XIs := [(60, .iaload, 1), (61, .invokestatic 488, 3), (64, .istore 7, 2), (66, .iload_n 2, 1), (67, .ifCond .lt 22, 3), (70, .iload 6, 2), (72, .iload_n 3, 1), (73, .if_icmp .lt 16, 3), (76, .iload 6, 2), (78, .iload_n 3, 1), (79, .if_icmp .ne 20, 3), (82, .iload 7, 2), (84, .iload 4, 2), (86, .if_icmp .le 13, 3), (89, .iload 5, 2), (91, .istore_n 2, 1)]
set_option maxRecDepth 100000 in
theorem xi_ok340_2 : xi_ok cX12_tightest xi_340_2 = true := by decide +kernel
def xi_340_3 : XIs := [(92, .iload 6, 2), (94, .istore_n 3, 1), (95, .iload 7, 2), (97, .istore 4, 2), (99, .iinc 5 1, 3), (102, .goto (-92), 3), (105, .iload_n 2, 1), (106, .ireturn, 1)]
set_option maxRecDepth 100000 in
theorem xi_ok340_3 : xi_ok cX12_tightest xi_340_3 = true := by decide +kernel
def xi_340 (pc : Nat) : XIs := cond (Nat.blt pc 60) (cond (Nat.blt pc 28) (xi_340_0) (xi_340_1)) (cond (Nat.blt pc 92) (xi_340_2) (xi_340_3))
theorem xi_ok340 (pc : Nat) : xi_ok cX12_tightest (xi_340 pc) = true := xi_c (xi_c (xi_ok340_0) (xi_ok340_1)) (xi_c (xi_ok340_2) (xi_ok340_3))
def xi_341_0 : XIs := [(0, .iconst 0, 1), (1, .istore_n 2, 1), (2, .iconst 0, 1), (3, .istore_n 3, 1), (4, .iload_n 3, 1), (5, .aload_n 0, 1), (6, .getfield 285, 3), (9, .if_icmp .ge 28, 3), (12, .iload_n 2, 1), (13, .aload_n 0, 1), (14, .getfield 112, 3), (17, .iload_n 3, 1), (18, .iaload, 1), (19, .ifCond .ge 9, 3), (22, .iconst 1, 1), (23, .iload_n 3, 1)]
set_option maxRecDepth 100000 in
theorem xi_ok341_0 : xi_ok cX12_tough xi_341_0 = true := by decide +kernel
def xi_341_1 : XIs := [(24, .ishl, 1), (25, .goto 4, 3), (28, .iconst 0, 1), (29, .ior, 1), (30, .istore_n 2, 1), (31, .iinc 3 1, 3), (34, .goto (-30), 3), (37, .iconst 1, 1), (38, .istore_n 3, 1), (39, .iload_n 3, 1), (40, .ifCond .eq 72, 3), (43, .iconst 0, 1), (44, .istore_n 3, 1), (45, .iconst 0, 1), (46, .istore 4, 2), (48, .iload 4, 2)]
set_option maxRecDepth 100000 in
theorem xi_ok341_1 : xi_ok cX12_tough xi_341_1 = true := by decide +kernel
def xi_341_2 : XIs := [(50, .aload_n 0, 1), (51, .getfield 285, 3), (54, .if_icmp .ge 55, 3), (57, .iload_n 2, 1), (58, .iload 4, 2), (60, .invokestatic 427, 3), (63, .ifCond .eq 40, 3), (66, .iload_n 1, 1), (67, .aload_n 0, 1), (68, .iload 4, 2), (70, .invokevirtual 498, 3), (73, .invokestatic 488, 3), (76, .isub, 1), (77, .aload_n 0, 1), (78, .getfield 100, 3), (81, .iload 4, 2)]
set_option maxRecDepth 100000 in
theorem xi_ok341_2 : xi_ok cX12_tough xi_341_2 = true := by decide +kernel
def xi_341_3 : XIs := [(83, .iaload, 1), (84, .iload_n 2, 1), (85, .iand, 1), (86, .invokestatic 488, 3), (89, .if_icmp .le 14, 3), (92, .iload_n 2, 1), (93, .iconst 1, 1), (94, .iload 4, 2), (96, .ishl, 1), (97, .iconst (-1), 1), (98, .ixor, 1), (99, .iand, 1), (100, .istore_n 2, 1), (101, .iconst 1, 1), (102, .istore_n 3, 1), (103, .iinc 4 1, 3)]
set_option maxRecDepth 100000 in
theorem xi_ok341_3 : xi_ok cX12_tough xi_341_3 = true := by decide +kernel
def xi_341_4 : XIs := [(106, .goto (-58), 3), (109, .goto (-70), 3), (112, .iload_n 2, 1), (113, .ireturn, 1)]
set_option maxRecDepth 100000 in
theorem xi_ok341_4 : xi_ok cX12_tough xi_341_4 = true := by decide +kernel
def xi_341 (pc : Nat) : XIs := cond (Nat.blt pc 50) (cond (Nat.blt pc 24) (xi_341_0) (xi_341_1)) (cond (Nat.blt pc 83) (xi_341_2) (cond (Nat.blt pc 106) (xi_341_3) (xi_341_4)))
theorem xi_ok341 (pc : Nat) : xi_ok cX12_tough (xi_341 pc) = true := xi_c (xi_c (xi_ok341_0) (xi_ok341_1)) (xi_c (xi_ok341_2) (xi_c (xi_ok341_3) (xi_ok341_4)))
def xi_342_0 : XIs := [(0, .iconst 1, 1), (1, .iload_n 1, 1), (2, .ishl, 1), (3, .istore_n 3, 1), (4, .iconst 0, 1), (5, .istore 4, 2), (7, .iload_n 3, 1), (8, .iload 4, 2), (10, .if_icmp .eq 53, 3), (13, .iload_n 3, 1), (14, .istore 4, 2), (16, .iconst 0, 1), (17, .istore 5, 2), (19, .iload 5, 2), (21, .aload_n 0, 1), (22, .getfield 285, 3)]
set_option maxRecDepth 100000 in
theorem xi_ok342_0 : xi_ok cX12_hanging xi_342_0 = true := by decide +kernel
def xi_342_1 : XIs := [(25, .if_icmp .ge 35, 3), (28, .iload_n 3, 1), (29, .iload 4, 2), (31, .iload 5, 2), (33, .invokestatic 427, 3), (36, .ifCond .eq 15, 3), (39, .aload_n 0, 1), (40, .getfield 100, 3), (43, .iload 5, 2), (45, .iaload, 1), (46, .iload_n 2, 1), (47, .iand, 1), (48, .goto 4, 3), (51, .iconst 0, 1), (52, .ior, 1), (53, .istore_n 3, 1)]
set_option maxRecDepth 100000 in
theorem xi_ok342_1 : xi_ok cX12_hanging xi_342_1 = true := by decide +kernel
def xi_342_2 : XIs := [(54, .iinc 5 1, 3), (57, .goto (-38), 3), (60, .goto (-53), 3), (63, .iload_n 3, 1), (64, .ireturn, 1)]
set_option maxRecDepth 100000 in
theorem xi_ok342_2 : xi_ok cX12_hanging xi_342_2 = true := by decide +kernel
def xi_342 (pc : Nat) : XIs := cond (Nat.blt pc 25) (xi_342_0) (cond (Nat.blt pc 54) (xi_342_1) (xi_342_2))
theorem xi_ok342 (pc : Nat) : xi_ok cX12_hanging (xi_342 pc) = true := xi_c (xi_ok342_0) (xi_c (xi_ok342_1) (xi_ok342_2))
def xi_343_0 : XIs := [(0, .iconst 0, 1), (1, .istore_n 2, 1), (2, .iconst 0, 1), (3, .istore_n 3, 1), (4, .iload_n 3, 1), (5, .aload_n 0, 1), (6, .getfield 285, 3), (9, .if_icmp .ge 44, 3), (12, .aload_n 0, 1), (13, .getfield 112, 3), (16, .iload_n 3, 1), (17, .aload_n 0, 1), (18, .getfield 109, 3), (21, .iload_n 3, 1), (22, .iaload, 1), (23, .iastore, 1)]
set_option maxRecDepth 100000 in
theorem xi_ok343_0 : xi_ok cX12_isColourable xi_343_0 = true := by decide +kernel
def xi_343_1 : XIs := [(24, .aload_n 0, 1), (25, .getfield 109, 3), (28, .iload_n 3, 1), (29, .iaload, 1), (30, .iload_n 2, 1), (31, .if_icmp .lt 14, 3), (34, .aload_n 0, 1), (35, .getfield 109, 3), (38, .iload_n 3, 1), (39, .iaload, 1), (40, .iconst 1, 1), (41, .iadd, 1), (42, .goto 4, 3), (45, .iload_n 2, 1), (46, .istore_n 2, 1), (47, .iinc 3 1, 3)]
set_option maxRecDepth 100000 in
theorem xi_ok343_1 : xi_ok cX12_isColourable xi_343_1 = true := by decide +kernel
def xi_343_2 : XIs := [(50, .goto (-46), 3), (53, .aload_n 0, 1), (54, .iload_n 1, 1), (55, .invokevirtual 501, 3), (58, .istore_n 3, 1), (59, .iconst 1, 1), (60, .istore 4, 2), (62, .iload 4, 2), (64, .ifCond .eq 72, 3), (67, .iload_n 3, 1), (68, .ifCond .eq 68, 3), (71, .aload_n 0, 1), (72, .aload_n 0, 1), (73, .iload_n 3, 1), (74, .invokestatic 473, 3), (77, .iload_n 3, 1)]
set_option maxRecDepth 100000 in
theorem xi_ok343_2 : xi_ok cX12_isColourable xi_343_2 = true := by decide +kernel
def xi_343_3 : XIs := [(78, .invokevirtual 504, 3), (81, .putfield 495, 3), (84, .iload_n 3, 1), (85, .aload_n 0, 1), (86, .getfield 495, 3), (89, .iconst (-1), 1), (90, .ixor, 1), (91, .iand, 1), (92, .istore_n 3, 1), (93, .aload_n 0, 1), (94, .iload_n 1, 1), (95, .iload_n 2, 1), (96, .invokevirtual 507, 3), (99, .istore 4, 2), (101, .iconst 0, 1), (102, .istore 5, 2)]
set_option maxRecDepth 100000 in
theorem xi_ok343_3 : xi_ok cX12_isColourable xi_343_3 = true := by decide +kernel
def xi_343_4 : XIs := [(104, .iload 5, 2), (106, .aload_n 0, 1), (107, .getfield 285, 3), (110, .if_icmp .ge 23, 3), (113, .aload_n 0, 1), (114, .getfield 112, 3), (117, .iload 5, 2), (119, .aload_n 0, 1), (120, .getfield 109, 3), (123, .iload 5, 2), (125, .iaload, 1), (126, .iastore, 1), (127, .iinc 5 1, 3), (130, .goto (-26), 3), (133, .goto (-71), 3), (136, .iload 4, 2)]
set_option maxRecDepth 100000 in
theorem xi_ok343_4 : xi_ok cX12_isColourable xi_343_4 = true := by decide +kernel
def xi_343_5 : XIs := [(138, .ireturn, 1)]
set_option maxRecDepth 100000 in
theorem xi_ok343_5 : xi_ok cX12_isColourable xi_343_5 = true := by decide +kernel
def xi_343 (pc : Nat) : XIs := cond (Nat.blt pc 78) (cond (Nat.blt pc 24) (xi_343_0) (cond (Nat.blt pc 50) (xi_343_1) (xi_343_2))) (cond (Nat.blt pc 104) (xi_343_3) (cond (Nat.blt pc 138) (xi_343_4) (xi_343_5)))
theorem xi_ok343 (pc : Nat) : xi_ok cX12_isColourable (xi_343 pc) = true := xi_c (xi_c (xi_ok343_0) (xi_c (xi_ok343_1) (xi_ok343_2))) (xi_c (xi_ok343_3) (xi_c (xi_ok343_4) (xi_ok343_5)))
def xi_344_0 : XIs := [(0, .iload 4, 2), (2, .bipush 32, 2), (4, .if_icmp .ne 7, 3), (7, .iconst (-1), 1), (8, .goto 9, 3), (11, .iconst 1, 1), (12, .iload 4, 2), (14, .ishl, 1), (15, .iconst 1, 1), (16, .isub, 1), (17, .istore 5, 2), (19, .aload_n 0, 1), (20, .getfield 118, 3), (23, .iload_n 1, 1), (24, .iload_n 2, 1), (25, .iastore, 1)]
set_option maxRecDepth 100000 in
theorem xi_ok344_0 : xi_ok cX12_begin xi_344_0 = true := by decide +kernel
def xi_344_1 : XIs := [(26, .aload_n 0, 1), (27, .getfield 115, 3), (30, .iload_n 1, 1), (31, .iload_n 3, 1), (32, .iastore, 1), (33, .aload_n 0, 1), (34, .getfield 121, 3), (37, .iload_n 1, 1), (38, .iload 5, 2), (40, .aload_n 0, 1), (41, .iload_n 2, 1), (42, .invokevirtual 498, 3), (45, .iconst (-1), 1), (46, .ixor, 1), (47, .iand, 1), (48, .iload_n 3, 1)]
set_option maxRecDepth 100000 in
theorem xi_ok344_1 : xi_ok cX12_begin xi_344_1 = true := by decide +kernel
def xi_344_2 : XIs := [(49, .iload 4, 2), (51, .invokestatic 510, 3), (54, .iand, 1), (55, .iastore, 1), (56, .iconst 0, 1), (57, .istore 6, 2), (59, .iconst 0, 1), (60, .istore 7, 2), (62, .iload 7, 2), (64, .iload_n 1, 1), (65, .if_icmp .ge 23, 3), (68, .iload 6, 2), (70, .iconst 1, 1), (71, .aload_n 0, 1), (72, .getfield 118, 3), (75, .iload 7, 2)]
set_option maxRecDepth 100000 in
theorem xi_ok344_2 : xi_ok cX12_begin xi_344_2 = true := by decide +kernel
def xi_344_3 : XIs := [(77, .iaload, 1), (78, .ishl, 1), (79, .ior, 1), (80, .istore 6, 2), (82, .iinc 7 1, 3), (85, .goto (-23), 3), (88, .aload_n 0, 1), (89, .getfield 124, 3), (92, .iload_n 1, 1), (93, .iload_n 3, 1), (94, .iconst 1, 1), (95, .iadd, 1), (96, .iload 4, 2), (98, .if_icmp .ge 8, 3), (101, .iload 6, 2), (103, .goto 12, 3)]
set_option maxRecDepth 100000 in
theorem xi_ok344_3 : xi_ok cX12_begin xi_344_3 = true := by decide +kernel
def xi_344_4 : XIs := [(106, .iload 6, 2), (108, .aload_n 0, 1), (109, .getfield 100, 3), (112, .iload_n 2, 1), (113, .iaload, 1), (114, .iand, 1), (115, .iastore, 1), (116, .return_, 1)]
set_option maxRecDepth 100000 in
theorem xi_ok344_4 : xi_ok cX12_begin xi_344_4 = true := by decide +kernel
def xi_344 (pc : Nat) : XIs := cond (Nat.blt pc 49) (cond (Nat.blt pc 26) (xi_344_0) (xi_344_1)) (cond (Nat.blt pc 77) (xi_344_2) (cond (Nat.blt pc 106) (xi_344_3) (xi_344_4)))
theorem xi_ok344 (pc : Nat) : xi_ok cX12_begin (xi_344 pc) = true := xi_c (xi_c (xi_ok344_0) (xi_ok344_1)) (xi_c (xi_ok344_2) (xi_c (xi_ok344_3) (xi_ok344_4)))
def xi_345_0 : XIs := [(0, .iconst 0, 1), (1, .istore_n 3, 1), (2, .aload_n 0, 1), (3, .iconst 0, 1), (4, .aload_n 0, 1), (5, .iload_n 1, 1), (6, .invokevirtual 513, 3), (9, .iload_n 2, 1), (10, .iload_n 1, 1), (11, .invokevirtual 516, 3), (14, .iload_n 3, 1), (15, .ifCond .lt 195, 3), (18, .aload_n 0, 1), (19, .getfield 118, 3), (22, .iload_n 3, 1), (23, .iaload, 1)]
set_option maxRecDepth 100000 in
theorem xi_ok345_0 : xi_ok cX12_isPartColourable xi_345_0 = true := by decide +kernel
def xi_345_1 : XIs := [(24, .istore 4, 2), (26, .aload_n 0, 1), (27, .getfield 112, 3), (30, .iload 4, 2), (32, .iconst (-1), 1), (33, .iastore, 1), (34, .aload_n 0, 1), (35, .getfield 121, 3), (38, .iload_n 3, 1), (39, .iaload, 1), (40, .ifCond .ne 79, 3), (43, .aload_n 0, 1), (44, .getfield 124, 3), (47, .iload_n 3, 1), (48, .iaload, 1), (49, .istore 5, 2)]
set_option maxRecDepth 100000 in
theorem xi_ok345_1 : xi_ok cX12_isPartColourable xi_345_1 = true := by decide +kernel
def xi_345_2 : XIs := [(51, .iinc 3 (-1), 3), (54, .iload_n 3, 1), (55, .ifCond .lt 35, 3), (58, .iload 5, 2), (60, .aload_n 0, 1), (61, .getfield 118, 3), (64, .iload_n 3, 1), (65, .iaload, 1), (66, .invokestatic 427, 3), (69, .ifCond .ne 21, 3), (72, .aload_n 0, 1), (73, .getfield 112, 3), (76, .aload_n 0, 1), (77, .getfield 118, 3), (80, .iload_n 3, 1), (81, .iaload, 1)]
set_option maxRecDepth 100000 in
theorem xi_ok345_2 : xi_ok cX12_isPartColourable xi_345_2 = true := by decide +kernel
def xi_345_3 : XIs := [(82, .iconst (-1), 1), (83, .iastore, 1), (84, .iinc 3 (-1), 3), (87, .goto (-33), 3), (90, .iload_n 3, 1), (91, .ifCond .lt 25, 3), (94, .aload_n 0, 1), (95, .getfield 124, 3), (98, .iload_n 3, 1), (99, .dup2, 1), (100, .iaload, 1), (101, .iload 5, 2), (103, .iconst 1, 1), (104, .aload_n 0, 1), (105, .getfield 118, 3), (108, .iload_n 3, 1)]
set_option maxRecDepth 100000 in
theorem xi_ok345_3 : xi_ok cX12_isPartColourable xi_345_3 = true := by decide +kernel
def xi_345_4 : XIs := [(109, .iaload, 1), (110, .ishl, 1), (111, .iconst (-1), 1), (112, .ixor, 1), (113, .iand, 1), (114, .ior, 1), (115, .iastore, 1), (116, .goto 91, 3), (119, .aload_n 0, 1), (120, .getfield 121, 3), (123, .iload_n 3, 1), (124, .iaload, 1), (125, .invokestatic 473, 3), (128, .istore 5, 2), (130, .aload_n 0, 1), (131, .getfield 121, 3)]
set_option maxRecDepth 100000 in
theorem xi_ok345_4 : xi_ok cX12_isPartColourable xi_345_4 = true := by decide +kernel
def xi_345_5 : XIs := [(134, .iload_n 3, 1), (135, .dup2, 1), (136, .iaload, 1), (137, .iconst 1, 1), (138, .iload 5, 2), (140, .ishl, 1), (141, .iconst (-1), 1), (142, .ixor, 1), (143, .iand, 1), (144, .iastore, 1), (145, .aload_n 0, 1), (146, .getfield 112, 3), (149, .iload 4, 2), (151, .iload 5, 2), (153, .iastore, 1), (154, .aload_n 0, 1)]
set_option maxRecDepth 100000 in
theorem xi_ok345_5 : xi_ok cX12_isPartColourable xi_345_5 = true := by decide +kernel
def xi_345_6 : XIs := [(155, .iload_n 1, 1), (156, .invokevirtual 513, 3), (159, .istore 6, 2), (161, .iload 6, 2), (163, .ifCond .ge 5, 3), (166, .iconst 1, 1), (167, .ireturn, 1), (168, .iinc 3 1, 3), (171, .aload_n 0, 1), (172, .iload_n 3, 1), (173, .iload 6, 2), (175, .iload 5, 2), (177, .aload_n 0, 1), (178, .getfield 115, 3), (181, .iload_n 3, 1), (182, .iconst 1, 1)]
set_option maxRecDepth 100000 in
theorem xi_ok345_6 : xi_ok cX12_isPartColourable xi_345_6 = true := by decide +kernel
def xi_345_7 : XIs := [(183, .isub, 1), (184, .iaload, 1), (185, .if_icmp .lt 10, 3), (188, .iload 5, 2), (190, .iconst 1, 1), (191, .iadd, 1), (192, .goto 11, 3), (195, .aload_n 0, 1), (196, .getfield 115, 3), (199, .iload_n 3, 1), (200, .iconst 1, 1), (201, .isub, 1), (202, .iaload, 1), (203, .iload_n 1, 1), (204, .invokevirtual 516, 3), (207, .goto (-193), 3)]
set_option maxRecDepth 100000 in
theorem xi_ok345_7 : xi_ok cX12_isPartColourable xi_345_7 = true := by decide +kernel
def xi_345_8 : XIs := [(210, .iconst 0, 1), (211, .ireturn, 1)]
set_option maxRecDepth 100000 in
theorem xi_ok345_8 : xi_ok cX12_isPartColourable xi_345_8 = true := by decide +kernel
def xi_345 (pc : Nat) : XIs := cond (Nat.blt pc 109) (cond (Nat.blt pc 51) (cond (Nat.blt pc 24) (xi_345_0) (xi_345_1)) (cond (Nat.blt pc 82) (xi_345_2) (xi_345_3))) (cond (Nat.blt pc 155) (cond (Nat.blt pc 134) (xi_345_4) (xi_345_5)) (cond (Nat.blt pc 183) (xi_345_6) (cond (Nat.blt pc 210) (xi_345_7) (xi_345_8))))
theorem xi_ok345 (pc : Nat) : xi_ok cX12_isPartColourable (xi_345 pc) = true := xi_c (xi_c (xi_c (xi_ok345_0) (xi_ok345_1)) (xi_c (xi_ok345_2) (xi_ok345_3))) (xi_c (xi_c (xi_ok345_4) (xi_ok345_5)) (xi_c (xi_ok345_6) (xi_c (xi_ok345_7) (xi_ok345_8))))
def xi_346_0 : XIs := [(0, .iload_n 0, 1), (1, .iconst 1, 1), (2, .iadd, 1), (3, .iload_n 1, 1), (4, .if_icmp .ge 9, 3), (7, .iload_n 0, 1), (8, .iconst 1, 1), (9, .iadd, 1), (10, .goto 4, 3), (13, .iload_n 1, 1), (14, .istore_n 2, 1), (15, .iload_n 2, 1), (16, .bipush 32, 2), (18, .if_icmp .lt 7, 3), (21, .iconst (-1), 1), (22, .goto 8, 3)]
set_option maxRecDepth 100000 in
theorem xi_ok346_0 : xi_ok cX12_capped xi_346_0 = true := by decide +kernel
def xi_346_1 : XIs := [(25, .iconst 1, 1), (26, .iload_n 2, 1), (27, .ishl, 1), (28, .iconst 1, 1), (29, .isub, 1), (30, .ireturn, 1)]
set_option maxRecDepth 100000 in
theorem xi_ok346_1 : xi_ok cX12_capped xi_346_1 = true := by decide +kernel
def xi_346 (pc : Nat) : XIs := cond (Nat.blt pc 25) (xi_346_0) (xi_346_1)
theorem xi_ok346 (pc : Nat) : xi_ok cX12_capped (xi_346 pc) = true := xi_c (xi_ok346_0) (xi_ok346_1)
def xi_347_0 : XIs := [(0, .aload_n 0, 1), (1, .aload_n 0, 1), (2, .iload_n 1, 1), (3, .invokevirtual 349, 3), (6, .invokevirtual 334, 3), (9, .ifCond .eq 5, 3), (12, .iconst 0, 1), (13, .ireturn, 1), (14, .aload_n 0, 1), (15, .invokevirtual 491, 3), (18, .invokestatic 488, 3), (21, .istore_n 2, 1), (22, .iconst 0, 1), (23, .istore_n 3, 1), (24, .iload_n 3, 1), (25, .aload_n 0, 1)]
set_option maxRecDepth 100000 in
theorem xi_ok347_0 : xi_ok cX12_colour xi_347_0 = true := by decide +kernel
def xi_347_1 : XIs := [(26, .getfield 285, 3), (29, .if_icmp .ge 16, 3), (32, .aload_n 0, 1), (33, .getfield 109, 3), (36, .iload_n 3, 1), (37, .iconst (-1), 1), (38, .iastore, 1), (39, .iinc 3 1, 3), (42, .goto (-18), 3), (45, .aload_n 0, 1), (46, .iload_n 2, 1), (47, .invokevirtual 519, 3), (50, .ifCond .ne 9, 3), (53, .iinc 2 1, 3), (56, .goto (-11), 3), (59, .iconst 0, 1)]
set_option maxRecDepth 100000 in
theorem xi_ok347_1 : xi_ok cX12_colour xi_347_1 = true := by decide +kernel
def xi_347_2 : XIs := [(60, .istore_n 3, 1), (61, .iload_n 3, 1), (62, .iload_n 1, 1), (63, .if_icmp .gt 93, 3), (66, .iconst (-1), 1), (67, .istore 4, 2), (69, .iconst 0, 1), (70, .istore 5, 2), (72, .iload 5, 2), (74, .ifCond .ne 76, 3), (77, .iinc 4 1, 3), (80, .aload_n 0, 1), (81, .getfield 109, 3), (84, .iload_n 3, 1), (85, .iconst (-1), 1), (86, .iastore, 1)]
set_option maxRecDepth 100000 in
theorem xi_ok347_2 : xi_ok cX12_colour xi_347_2 = true := by decide +kernel
def xi_347_3 : XIs := [(87, .iconst 0, 1), (88, .istore 6, 2), (90, .iload 6, 2), (92, .aload_n 0, 1), (93, .getfield 285, 3), (96, .if_icmp .ge 23, 3), (99, .aload_n 0, 1), (100, .getfield 112, 3), (103, .iload 6, 2), (105, .aload_n 0, 1), (106, .getfield 109, 3), (109, .iload 6, 2), (111, .iaload, 1), (112, .iastore, 1), (113, .iinc 6 1, 3), (116, .goto (-26), 3)]
set_option maxRecDepth 100000 in
theorem xi_ok347_3 : xi_ok cX12_colour xi_347_3 = true := by decide +kernel
def xi_347_4 : XIs := [(119, .aload_n 0, 1), (120, .iload_n 3, 1), (121, .invokevirtual 498, 3), (124, .iload 4, 2), (126, .invokestatic 427, 3), (129, .ifCond .ne (-57), 3), (132, .aload_n 0, 1), (133, .getfield 109, 3), (136, .iload_n 3, 1), (137, .iload 4, 2), (139, .iastore, 1), (140, .aload_n 0, 1), (141, .iload_n 2, 1), (142, .invokevirtual 519, 3), (145, .istore 5, 2), (147, .goto (-75), 3)]
set_option maxRecDepth 100000 in
theorem xi_ok347_4 : xi_ok cX12_colour xi_347_4 = true := by decide +kernel
