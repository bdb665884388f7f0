def xi_347_5 : XIs := [(150, .iinc 3 1, 3), (153, .goto (-92), 3), (156, .aload_n 0, 1), (157, .getfield 109, 3), (160, .iload_n 1, 1), (161, .iaload, 1), (162, .ireturn, 1)]
set_option maxRecDepth 100000 in
theorem xi_ok347_5 : xi_ok cX12_colour xi_347_5 = true := by decide +kernel
def xi_347 (pc : Nat) : XIs := cond (Nat.blt pc 87) (cond (Nat.blt pc 26) (xi_347_0) (cond (Nat.blt pc 60) (xi_347_1) (xi_347_2))) (cond (Nat.blt pc 119) (xi_347_3) (cond (Nat.blt pc 150) (xi_347_4) (xi_347_5)))
theorem xi_ok347 (pc : Nat) : xi_ok cX12_colour (xi_347 pc) = true := xi_c (xi_c (xi_ok347_0) (xi_c (xi_ok347_1) (xi_ok347_2))) (xi_c (xi_ok347_3) (xi_c (xi_ok347_4) (xi_ok347_5)))
def xi_348_0 : XIs := [(0, .iconst 0, 1), (1, .istore_n 2, 1), (2, .iload_n 2, 1), (3, .aload_n 0, 1), (4, .getfield 285, 3), (7, .if_icmp .ge 16, 3), (10, .aload_n 0, 1), (11, .getfield 130, 3), (14, .iload_n 2, 1), (15, .iconst (-1), 1), (16, .iastore, 1), (17, .iinc 2 1, 3), (20, .goto (-18), 3), (23, .aload_n 0, 1), (24, .getfield 130, 3), (27, .iload_n 1, 1)]
set_option maxRecDepth 100000 in
theorem xi_ok348_0 : xi_ok cX12_search xi_348_0 = true := by decide +kernel
def xi_348_1 : XIs := [(28, .sipush 1000, 3), (31, .iastore, 1), (32, .iconst 0, 1), (33, .istore_n 2, 1), (34, .iconst 1, 1), (35, .istore_n 3, 1), (36, .aload_n 0, 1), (37, .getfield 82, 3), (40, .iconst 0, 1), (41, .iload_n 1, 1), (42, .iastore, 1), (43, .iload_n 2, 1), (44, .iload_n 3, 1), (45, .if_icmp .ge 215, 3), (48, .aload_n 0, 1), (49, .getfield 82, 3)]
set_option maxRecDepth 100000 in
theorem xi_ok348_1 : xi_ok cX12_search xi_348_1 = true := by decide +kernel
def xi_348_2 : XIs := [(52, .iload_n 2, 1), (53, .iaload, 1), (54, .istore 4, 2), (56, .iinc 2 1, 3), (59, .iconst 0, 1), (60, .istore 5, 2), (62, .iload 5, 2), (64, .sipush 160, 3), (67, .if_icmp .ge 190, 3), (70, .aload_n 0, 1), (71, .getfield 288, 3), (74, .iload 5, 2), (76, .iadd, 1), (77, .istore 6, 2), (79, .aload_n 0, 1), (80, .getfield 16, 3)]
set_option maxRecDepth 100000 in
theorem xi_ok348_2 : xi_ok cX12_search xi_348_2 = true := by decide +kernel
def xi_348_3 : XIs := [(83, .iload 6, 2), (85, .baload, 1), (86, .ifCond .eq 82, 3), (89, .aload_n 0, 1), (90, .getfield 20, 3), (93, .iload 6, 2), (95, .iaload, 1), (96, .iload 4, 2), (98, .if_icmp .ne 70, 3), (101, .aload_n 0, 1), (102, .getfield 130, 3), (105, .aload_n 0, 1), (106, .getfield 23, 3), (109, .iload 6, 2), (111, .iaload, 1), (112, .iaload, 1)]
set_option maxRecDepth 100000 in
theorem xi_ok348_3 : xi_ok cX12_search xi_348_3 = true := by decide +kernel
def xi_348_4 : XIs := [(113, .ifCond .ge 55, 3), (116, .aload_n 0, 1), (117, .getfield 127, 3), (120, .iload 5, 2), (122, .laload, 1), (123, .aload_n 0, 1), (124, .getfield 29, 3), (127, .iload 6, 2), (129, .iaload, 1), (130, .i2l, 1), (131, .lcmp, 1), (132, .ifCond .ge 36, 3), (135, .aload_n 0, 1), (136, .getfield 130, 3), (139, .aload_n 0, 1), (140, .getfield 23, 3)]
set_option maxRecDepth 100000 in
theorem xi_ok348_4 : xi_ok cX12_search xi_348_4 = true := by decide +kernel
def xi_348_5 : XIs := [(143, .iload 6, 2), (145, .iaload, 1), (146, .iload 5, 2), (148, .iastore, 1), (149, .aload_n 0, 1), (150, .getfield 82, 3), (153, .iload_n 3, 1), (154, .aload_n 0, 1), (155, .getfield 23, 3), (158, .iload 6, 2), (160, .iaload, 1), (161, .iastore, 1), (162, .iinc 3 1, 3), (165, .goto 86, 3), (168, .aload_n 0, 1), (169, .getfield 16, 3)]
set_option maxRecDepth 100000 in
theorem xi_ok348_5 : xi_ok cX12_search xi_348_5 = true := by decide +kernel
def xi_348_6 : XIs := [(172, .iload 6, 2), (174, .baload, 1), (175, .ifCond .eq 76, 3), (178, .aload_n 0, 1), (179, .getfield 23, 3), (182, .iload 6, 2), (184, .iaload, 1), (185, .iload 4, 2), (187, .if_icmp .ne 64, 3), (190, .aload_n 0, 1), (191, .getfield 130, 3), (194, .aload_n 0, 1), (195, .getfield 20, 3), (198, .iload 6, 2), (200, .iaload, 1), (201, .iaload, 1)]
set_option maxRecDepth 100000 in
theorem xi_ok348_6 : xi_ok cX12_search xi_348_6 = true := by decide +kernel
def xi_348_7 : XIs := [(202, .ifCond .ge 49, 3), (205, .aload_n 0, 1), (206, .getfield 127, 3), (209, .iload 5, 2), (211, .laload, 1), (212, .lconst 0, 1), (213, .lcmp, 1), (214, .ifCond .le 37, 3), (217, .aload_n 0, 1), (218, .getfield 130, 3), (221, .aload_n 0, 1), (222, .getfield 20, 3), (225, .iload 6, 2), (227, .iaload, 1), (228, .sipush 200, 3), (231, .iload 5, 2)]
set_option maxRecDepth 100000 in
theorem xi_ok348_7 : xi_ok cX12_search xi_348_7 = true := by decide +kernel
def xi_348_8 : XIs := [(233, .iadd, 1), (234, .iastore, 1), (235, .aload_n 0, 1), (236, .getfield 82, 3), (239, .iload_n 3, 1), (240, .aload_n 0, 1), (241, .getfield 20, 3), (244, .iload 6, 2), (246, .iaload, 1), (247, .iastore, 1), (248, .iinc 3 1, 3), (251, .iinc 5 1, 3), (254, .goto (-192), 3), (257, .goto (-214), 3), (260, .return_, 1)]
set_option maxRecDepth 100000 in
theorem xi_ok348_8 : xi_ok cX12_search xi_348_8 = true := by decide +kernel
def xi_348 (pc : Nat) : XIs := cond (Nat.blt pc 113) (cond (Nat.blt pc 52) (cond (Nat.blt pc 28) (xi_348_0) (xi_348_1)) (cond (Nat.blt pc 83) (xi_348_2) (xi_348_3))) (cond (Nat.blt pc 172) (cond (Nat.blt pc 143) (xi_348_4) (xi_348_5)) (cond (Nat.blt pc 202) (xi_348_6) (cond (Nat.blt pc 233) (xi_348_7) (xi_348_8))))
theorem xi_ok348 (pc : Nat) : xi_ok cX12_search (xi_348 pc) = true := xi_c (xi_c (xi_c (xi_ok348_0) (xi_ok348_1)) (xi_c (xi_ok348_2) (xi_ok348_3))) (xi_c (xi_c (xi_ok348_4) (xi_ok348_5)) (xi_c (xi_ok348_6) (xi_c (xi_ok348_7) (xi_ok348_8))))
def xi_349_0 : XIs := [(0, .aload_n 0, 1), (1, .getfield 130, 3), (4, .iload_n 1, 1), (5, .iaload, 1), (6, .istore_n 2, 1), (7, .iload_n 2, 1), (8, .sipush 200, 3), (11, .if_icmp .lt 21, 3), (14, .aload_n 0, 1), (15, .getfield 23, 3), (18, .aload_n 0, 1), (19, .getfield 288, 3), (22, .iload_n 2, 1), (23, .iadd, 1), (24, .sipush 200, 3), (27, .isub, 1)]
set_option maxRecDepth 100000 in
theorem xi_ok349_0 : xi_ok cX12_before xi_349_0 = true := by decide +kernel
def xi_349_1 : XIs := [(28, .iaload, 1), (29, .goto 14, 3), (32, .aload_n 0, 1), (33, .getfield 20, 3), (36, .aload_n 0, 1), (37, .getfield 288, 3), (40, .iload_n 2, 1), (41, .iadd, 1), (42, .iaload, 1), (43, .ireturn, 1)]
set_option maxRecDepth 100000 in
theorem xi_ok349_1 : xi_ok cX12_before xi_349_1 = true := by decide +kernel
def xi_349 (pc : Nat) : XIs := cond (Nat.blt pc 28) (xi_349_0) (xi_349_1)
theorem xi_ok349 (pc : Nat) : xi_ok cX12_before (xi_349 pc) = true := xi_c (xi_ok349_0) (xi_ok349_1)
def xi_350_0 : XIs := [(0, .aload_n 0, 1), (1, .getfield 130, 3), (4, .iload_n 1, 1), (5, .iaload, 1), (6, .istore_n 2, 1), (7, .iload_n 2, 1), (8, .sipush 200, 3), (11, .if_icmp .lt 16, 3), (14, .aload_n 0, 1), (15, .getfield 127, 3), (18, .iload_n 2, 1), (19, .sipush 200, 3), (22, .isub, 1), (23, .laload, 1), (24, .goto 22, 3), (27, .aload_n 0, 1)]
set_option maxRecDepth 100000 in
theorem xi_ok350_0 : xi_ok cX12_roomOn xi_350_0 = true := by decide +kernel
def xi_350_1 : XIs := [(28, .getfield 29, 3), (31, .aload_n 0, 1), (32, .getfield 288, 3), (35, .iload_n 2, 1), (36, .iadd, 1), (37, .iaload, 1), (38, .i2l, 1), (39, .aload_n 0, 1), (40, .getfield 127, 3), (43, .iload_n 2, 1), (44, .laload, 1), (45, .lsub, 1), (46, .lreturn, 1)]
set_option maxRecDepth 100000 in
theorem xi_ok350_1 : xi_ok cX12_roomOn xi_350_1 = true := by decide +kernel
def xi_350 (pc : Nat) : XIs := cond (Nat.blt pc 28) (xi_350_0) (xi_350_1)
theorem xi_ok350 (pc : Nat) : xi_ok cX12_roomOn (xi_350 pc) = true := xi_c (xi_ok350_0) (xi_ok350_1)
def xi_351_0 : XIs := [(0, .aload_n 0, 1), (1, .getfield 130, 3), (4, .iload_n 1, 1), (5, .iaload, 1), (6, .istore 4, 2), (8, .iload 4, 2), (10, .sipush 200, 3), (13, .if_icmp .lt 21, 3), (16, .aload_n 0, 1), (17, .getfield 127, 3), (20, .iload 4, 2), (22, .sipush 200, 3), (25, .isub, 1), (26, .dup2, 1), (27, .laload, 1), (28, .lload_n 2, 1)]
set_option maxRecDepth 100000 in
theorem xi_ok351_0 : xi_ok cX12_push xi_351_0 = true := by decide +kernel
def xi_351_1 : XIs := [(29, .lsub, 1), (30, .lastore, 1), (31, .goto 14, 3), (34, .aload_n 0, 1), (35, .getfield 127, 3), (38, .iload 4, 2), (40, .dup2, 1), (41, .laload, 1), (42, .lload_n 2, 1), (43, .ladd, 1), (44, .lastore, 1), (45, .return_, 1)]
set_option maxRecDepth 100000 in
theorem xi_ok351_1 : xi_ok cX12_push xi_351_1 = true := by decide +kernel
def xi_351 (pc : Nat) : XIs := cond (Nat.blt pc 29) (xi_351_0) (xi_351_1)
theorem xi_ok351 (pc : Nat) : xi_ok cX12_push (xi_351 pc) = true := xi_c (xi_ok351_0) (xi_ok351_1)
def xi_352_0 : XIs := [(0, .iconst 0, 1), (1, .istore_n 3, 1), (2, .iload_n 3, 1), (3, .sipush 160, 3), (6, .if_icmp .ge 16, 3), (9, .aload_n 0, 1), (10, .getfield 127, 3), (13, .iload_n 3, 1), (14, .lconst 0, 1), (15, .lastore, 1), (16, .iinc 3 1, 3), (19, .goto (-17), 3), (22, .lconst 0, 1), (23, .lstore_n 3, 1), (24, .aload_n 0, 1), (25, .iload_n 1, 1)]
set_option maxRecDepth 100000 in
theorem xi_ok352_0 : xi_ok cX12_most xi_352_0 = true := by decide +kernel
def xi_352_1 : XIs := [(26, .invokevirtual 522, 3), (29, .aload_n 0, 1), (30, .getfield 130, 3), (33, .iload_n 2, 1), (34, .iaload, 1), (35, .ifCond .lt 98, 3), (38, .ldc2_w 525, 3), (41, .lstore 5, 2), (43, .iload_n 2, 1), (44, .istore 7, 2), (46, .iload 7, 2), (48, .iload_n 1, 1), (49, .if_icmp .eq 39, 3), (52, .aload_n 0, 1), (53, .iload 7, 2), (55, .invokevirtual 527, 3)]
set_option maxRecDepth 100000 in
theorem xi_ok352_1 : xi_ok cX12_most xi_352_1 = true := by decide +kernel
def xi_352_2 : XIs := [(58, .lload 5, 2), (60, .lcmp, 1), (61, .ifCond .ge 12, 3), (64, .aload_n 0, 1), (65, .iload 7, 2), (67, .invokevirtual 527, 3), (70, .goto 5, 3), (73, .lload 5, 2), (75, .lstore 5, 2), (77, .aload_n 0, 1), (78, .iload 7, 2), (80, .invokevirtual 531, 3), (83, .istore 7, 2), (85, .goto (-39), 3), (88, .iload_n 2, 1), (89, .istore 7, 2)]
set_option maxRecDepth 100000 in
theorem xi_ok352_2 : xi_ok cX12_most xi_352_2 = true := by decide +kernel
def xi_352_3 : XIs := [(91, .iload 7, 2), (93, .iload_n 1, 1), (94, .if_icmp .eq 26, 3), (97, .aload_n 0, 1), (98, .iload 7, 2), (100, .invokevirtual 531, 3), (103, .istore 8, 2), (105, .aload_n 0, 1), (106, .iload 7, 2), (108, .lload 5, 2), (110, .invokevirtual 534, 3), (113, .iload 8, 2), (115, .istore 7, 2), (117, .goto (-26), 3), (120, .lload_n 3, 1), (121, .lload 5, 2)]
set_option maxRecDepth 100000 in
theorem xi_ok352_3 : xi_ok cX12_most xi_352_3 = true := by decide +kernel
def xi_352_4 : XIs := [(123, .ladd, 1), (124, .lstore_n 3, 1), (125, .aload_n 0, 1), (126, .iload_n 1, 1), (127, .invokevirtual 522, 3), (130, .goto (-101), 3), (133, .lload_n 3, 1), (134, .lreturn, 1)]
set_option maxRecDepth 100000 in
theorem xi_ok352_4 : xi_ok cX12_most xi_352_4 = true := by decide +kernel
def xi_352 (pc : Nat) : XIs := cond (Nat.blt pc 58) (cond (Nat.blt pc 26) (xi_352_0) (xi_352_1)) (cond (Nat.blt pc 91) (xi_352_2) (cond (Nat.blt pc 123) (xi_352_3) (xi_352_4)))
theorem xi_ok352 (pc : Nat) : xi_ok cX12_most (xi_352 pc) = true := xi_c (xi_c (xi_ok352_0) (xi_ok352_1)) (xi_c (xi_ok352_2) (xi_c (xi_ok352_3) (xi_ok352_4)))
def xi_353_0 : XIs := [(0, .aload_n 0, 1), (1, .iload_n 1, 1), (2, .invokevirtual 349, 3), (5, .ifCond .eq 20, 3), (8, .aload_n 0, 1), (9, .iload_n 2, 1), (10, .invokevirtual 349, 3), (13, .ifCond .eq 12, 3), (16, .iload_n 1, 1), (17, .iload_n 2, 1), (18, .if_icmp .eq 7, 3), (21, .iconst 1, 1), (22, .goto 4, 3), (25, .iconst 0, 1), (26, .ireturn, 1)]
set_option maxRecDepth 100000 in
theorem xi_ok353_0 : xi_ok cX12_twoNodes xi_353_0 = true := by decide +kernel
def xi_353 (pc : Nat) : XIs := xi_353_0
theorem xi_ok353 (pc : Nat) : xi_ok cX12_twoNodes (xi_353 pc) = true := xi_ok353_0
def xi_354_0 : XIs := [(0, .aload_n 0, 1), (1, .aload_n 0, 1), (2, .iload_n 1, 1), (3, .iload_n 2, 1), (4, .invokevirtual 538, 3), (7, .invokevirtual 334, 3), (10, .ifCond .eq 7, 3), (13, .lconst 0, 1), (14, .goto 9, 3), (17, .aload_n 0, 1), (18, .iload_n 1, 1), (19, .iload_n 2, 1), (20, .invokevirtual 541, 3), (23, .lreturn, 1)]
set_option maxRecDepth 100000 in
theorem xi_ok354_0 : xi_ok cX12_flow xi_354_0 = true := by decide +kernel
def xi_354 (pc : Nat) : XIs := xi_354_0
theorem xi_ok354 (pc : Nat) : xi_ok cX12_flow (xi_354 pc) = true := xi_ok354_0
def xi_355_0 : XIs := [(0, .aload_n 0, 1), (1, .aload_n 0, 1), (2, .iload_n 1, 1), (3, .iload_n 2, 1), (4, .invokevirtual 538, 3), (7, .ifCond .eq 15, 3), (10, .aload_n 0, 1), (11, .iload_n 3, 1), (12, .invokevirtual 349, 3), (15, .ifCond .eq 7, 3), (18, .iconst 1, 1), (19, .goto 4, 3), (22, .iconst 0, 1), (23, .invokevirtual 334, 3), (26, .ifCond .eq 5, 3), (29, .iconst 0, 1)]
set_option maxRecDepth 100000 in
theorem xi_ok355_0 : xi_ok cX12_side xi_355_0 = true := by decide +kernel
def xi_355_1 : XIs := [(30, .ireturn, 1), (31, .aload_n 0, 1), (32, .iload_n 1, 1), (33, .iload_n 2, 1), (34, .invokevirtual 541, 3), (37, .lstore 4, 2), (39, .aload_n 0, 1), (40, .getfield 130, 3), (43, .iload_n 3, 1), (44, .iaload, 1), (45, .ifCond .lt 7, 3), (48, .iconst 1, 1), (49, .goto 4, 3), (52, .iconst 0, 1), (53, .ireturn, 1)]
set_option maxRecDepth 100000 in
theorem xi_ok355_1 : xi_ok cX12_side xi_355_1 = true := by decide +kernel
def xi_355 (pc : Nat) : XIs := cond (Nat.blt pc 30) (xi_355_0) (xi_355_1)
theorem xi_ok355 (pc : Nat) : xi_ok cX12_side (xi_355 pc) = true := xi_c (xi_ok355_0) (xi_ok355_1)
def xi_356_0 : XIs := [(0, .iconst 0, 1), (1, .istore_n 2, 1), (2, .iload_n 2, 1), (3, .aload_n 0, 1), (4, .getfield 285, 3), (7, .if_icmp .ge 25, 3), (10, .aload_n 0, 1), (11, .getfield 133, 3), (14, .iload_n 2, 1), (15, .ldc2_w 347, 3), (18, .lastore, 1), (19, .aload_n 0, 1), (20, .getfield 130, 3), (23, .iload_n 2, 1), (24, .iconst (-1), 1), (25, .iastore, 1)]
set_option maxRecDepth 100000 in
theorem xi_ok356_0 : xi_ok cX12_cheapest xi_356_0 = true := by decide +kernel
def xi_356_1 : XIs := [(26, .iinc 2 1, 3), (29, .goto (-27), 3), (32, .aload_n 0, 1), (33, .getfield 133, 3), (36, .iload_n 1, 1), (37, .lconst 0, 1), (38, .lastore, 1), (39, .aload_n 0, 1), (40, .getfield 130, 3), (43, .iload_n 1, 1), (44, .sipush 1000, 3), (47, .iastore, 1), (48, .iconst 1, 1), (49, .istore_n 2, 1), (50, .iload_n 2, 1), (51, .ifCond .eq 282, 3)]
set_option maxRecDepth 100000 in
theorem xi_ok356_1 : xi_ok cX12_cheapest xi_356_1 = true := by decide +kernel
def xi_356_2 : XIs := [(54, .iconst 0, 1), (55, .istore_n 2, 1), (56, .iconst 0, 1), (57, .istore_n 3, 1), (58, .iload_n 3, 1), (59, .sipush 160, 3), (62, .if_icmp .ge 268, 3), (65, .aload_n 0, 1), (66, .getfield 288, 3), (69, .iload_n 3, 1), (70, .iadd, 1), (71, .istore 4, 2), (73, .aload_n 0, 1), (74, .getfield 16, 3), (77, .iload 4, 2), (79, .baload, 1)]
set_option maxRecDepth 100000 in
theorem xi_ok356_2 : xi_ok cX12_cheapest xi_356_2 = true := by decide +kernel
def xi_356_3 : XIs := [(80, .ifCond .eq 244, 3), (83, .aload_n 0, 1), (84, .getfield 127, 3), (87, .iload_n 3, 1), (88, .laload, 1), (89, .aload_n 0, 1), (90, .getfield 29, 3), (93, .iload 4, 2), (95, .iaload, 1), (96, .i2l, 1), (97, .lcmp, 1), (98, .ifCond .ge 107, 3), (101, .aload_n 0, 1), (102, .getfield 133, 3), (105, .aload_n 0, 1), (106, .getfield 20, 3)]
set_option maxRecDepth 100000 in
theorem xi_ok356_3 : xi_ok cX12_cheapest xi_356_3 = true := by decide +kernel
def xi_356_4 : XIs := [(109, .iload 4, 2), (111, .iaload, 1), (112, .laload, 1), (113, .ldc2_w 347, 3), (116, .lcmp, 1), (117, .ifCond .ge 88, 3), (120, .aload_n 0, 1), (121, .getfield 133, 3), (124, .aload_n 0, 1), (125, .getfield 20, 3), (128, .iload 4, 2), (130, .iaload, 1), (131, .laload, 1), (132, .aload_n 0, 1), (133, .getfield 26, 3), (136, .iload 4, 2)]
set_option maxRecDepth 100000 in
theorem xi_ok356_4 : xi_ok cX12_cheapest xi_356_4 = true := by decide +kernel
def xi_356_5 : XIs := [(138, .iaload, 1), (139, .i2l, 1), (140, .ladd, 1), (141, .aload_n 0, 1), (142, .getfield 133, 3), (145, .aload_n 0, 1), (146, .getfield 23, 3), (149, .iload 4, 2), (151, .iaload, 1), (152, .laload, 1), (153, .lcmp, 1), (154, .ifCond .ge 51, 3), (157, .aload_n 0, 1), (158, .getfield 133, 3), (161, .aload_n 0, 1), (162, .getfield 23, 3)]
set_option maxRecDepth 100000 in
theorem xi_ok356_5 : xi_ok cX12_cheapest xi_356_5 = true := by decide +kernel
def xi_356_6 : XIs := [(165, .iload 4, 2), (167, .iaload, 1), (168, .aload_n 0, 1), (169, .getfield 133, 3), (172, .aload_n 0, 1), (173, .getfield 20, 3), (176, .iload 4, 2), (178, .iaload, 1), (179, .laload, 1), (180, .aload_n 0, 1), (181, .getfield 26, 3), (184, .iload 4, 2), (186, .iaload, 1), (187, .i2l, 1), (188, .ladd, 1), (189, .lastore, 1)]
set_option maxRecDepth 100000 in
theorem xi_ok356_6 : xi_ok cX12_cheapest xi_356_6 = true := by decide +kernel
def xi_356_7 : XIs := [(190, .aload_n 0, 1), (191, .getfield 130, 3), (194, .aload_n 0, 1), (195, .getfield 23, 3), (198, .iload 4, 2), (200, .iaload, 1), (201, .iload_n 3, 1), (202, .iastore, 1), (203, .iconst 1, 1), (204, .istore_n 2, 1), (205, .aload_n 0, 1), (206, .getfield 127, 3), (209, .iload_n 3, 1), (210, .laload, 1), (211, .lconst 0, 1), (212, .lcmp, 1)]
set_option maxRecDepth 100000 in
theorem xi_ok356_7 : xi_ok cX12_cheapest xi_356_7 = true := by decide +kernel
def xi_356_8 : XIs := [(213, .ifCond .le 111, 3), (216, .aload_n 0, 1), (217, .getfield 133, 3), (220, .aload_n 0, 1), (221, .getfield 23, 3), (224, .iload 4, 2), (226, .iaload, 1), (227, .laload, 1), (228, .ldc2_w 347, 3), (231, .lcmp, 1), (232, .ifCond .ge 92, 3), (235, .aload_n 0, 1), (236, .getfield 133, 3), (239, .aload_n 0, 1), (240, .getfield 23, 3), (243, .iload 4, 2)]
set_option maxRecDepth 100000 in
theorem xi_ok356_8 : xi_ok cX12_cheapest xi_356_8 = true := by decide +kernel
def xi_356_9 : XIs := [(245, .iaload, 1), (246, .laload, 1), (247, .aload_n 0, 1), (248, .getfield 26, 3), (251, .iload 4, 2), (253, .iaload, 1), (254, .i2l, 1), (255, .lsub, 1), (256, .aload_n 0, 1), (257, .getfield 133, 3), (260, .aload_n 0, 1), (261, .getfield 20, 3), (264, .iload 4, 2), (266, .iaload, 1), (267, .laload, 1), (268, .lcmp, 1)]
set_option maxRecDepth 100000 in
theorem xi_ok356_9 : xi_ok cX12_cheapest xi_356_9 = true := by decide +kernel
def xi_356_10 : XIs := [(269, .ifCond .ge 55, 3), (272, .aload_n 0, 1), (273, .getfield 133, 3), (276, .aload_n 0, 1), (277, .getfield 20, 3), (280, .iload 4, 2), (282, .iaload, 1), (283, .aload_n 0, 1), (284, .getfield 133, 3), (287, .aload_n 0, 1), (288, .getfield 23, 3), (291, .iload 4, 2), (293, .iaload, 1), (294, .laload, 1), (295, .aload_n 0, 1), (296, .getfield 26, 3)]
set_option maxRecDepth 100000 in
theorem xi_ok356_10 : xi_ok cX12_cheapest xi_356_10 = true := by decide +kernel
def xi_356_11 : XIs := [(299, .iload 4, 2), (301, .iaload, 1), (302, .i2l, 1), (303, .lsub, 1), (304, .lastore, 1), (305, .aload_n 0, 1), (306, .getfield 130, 3), (309, .aload_n 0, 1), (310, .getfield 20, 3), (313, .iload 4, 2), (315, .iaload, 1), (316, .sipush 200, 3), (319, .iload_n 3, 1), (320, .iadd, 1), (321, .iastore, 1), (322, .iconst 1, 1)]
set_option maxRecDepth 100000 in
theorem xi_ok356_11 : xi_ok cX12_cheapest xi_356_11 = true := by decide +kernel
def xi_356_12 : XIs := [(323, .istore_n 2, 1), (324, .iinc 3 1, 3), (327, .goto (-269), 3), (330, .goto (-280), 3), (333, .return_, 1)]
set_option maxRecDepth 100000 in
theorem xi_ok356_12 : xi_ok cX12_cheapest xi_356_12 = true := by decide +kernel
def xi_356 (pc : Nat) : XIs := cond (Nat.blt pc 165) (cond (Nat.blt pc 80) (cond (Nat.blt pc 26) (xi_356_0) (cond (Nat.blt pc 54) (xi_356_1) (xi_356_2))) (cond (Nat.blt pc 109) (xi_356_3) (cond (Nat.blt pc 138) (xi_356_4) (xi_356_5)))) (cond (Nat.blt pc 245) (cond (Nat.blt pc 190) (xi_356_6) (cond (Nat.blt pc 213) (xi_356_7) (xi_356_8))) (cond (Nat.blt pc 299) (cond (Nat.blt pc 269) (xi_356_9) (xi_356_10)) (cond (Nat.blt pc 323) (xi_356_11) (xi_356_12))))
theorem xi_ok356 (pc : Nat) : xi_ok cX12_cheapest (xi_356 pc) = true := xi_c (xi_c (xi_c (xi_ok356_0) (xi_c (xi_ok356_1) (xi_ok356_2))) (xi_c (xi_ok356_3) (xi_c (xi_ok356_4) (xi_ok356_5)))) (xi_c (xi_c (xi_ok356_6) (xi_c (xi_ok356_7) (xi_ok356_8))) (xi_c (xi_c (xi_ok356_9) (xi_ok356_10)) (xi_c (xi_ok356_11) (xi_ok356_12))))
def xi_357_0 : XIs := [(0, .aload_n 0, 1), (1, .aload_n 0, 1), (2, .iload_n 1, 1), (3, .iload_n 2, 1), (4, .invokevirtual 538, 3), (7, .ifCond .eq 19, 3), (10, .iload_n 3, 1), (11, .i2l, 1), (12, .lconst 0, 1), (13, .ldc2_w 545, 3), (16, .invokestatic 308, 3), (19, .ifCond .eq 7, 3), (22, .iconst 1, 1), (23, .goto 4, 3), (26, .iconst 0, 1), (27, .invokevirtual 334, 3)]
set_option maxRecDepth 100000 in
theorem xi_ok357_0 : xi_ok cX12_cost xi_357_0 = true := by decide +kernel
def xi_357_1 : XIs := [(30, .ifCond .eq 5, 3), (33, .lconst 0, 1), (34, .lreturn, 1), (35, .iconst 0, 1), (36, .istore 4, 2), (38, .iload 4, 2), (40, .aload_n 0, 1), (41, .getfield 285, 3), (44, .if_icmp .ge 40, 3), (47, .aload_n 0, 1), (48, .getfield 136, 3), (51, .iload 4, 2), (53, .iload 4, 2), (55, .iload_n 1, 1), (56, .if_icmp .ne 8, 3), (59, .iload_n 3, 1)]
set_option maxRecDepth 100000 in
theorem xi_ok357_1 : xi_ok cX12_cost xi_357_1 = true := by decide +kernel
def xi_357_2 : XIs := [(60, .i2l, 1), (61, .goto 16, 3), (64, .iload 4, 2), (66, .iload_n 2, 1), (67, .if_icmp .ne 9, 3), (70, .iload_n 3, 1), (71, .ineg, 1), (72, .i2l, 1), (73, .goto 4, 3), (76, .lconst 0, 1), (77, .lastore, 1), (78, .iinc 4 1, 3), (81, .goto (-43), 3), (84, .iconst 0, 1), (85, .istore 4, 2), (87, .iload 4, 2)]
set_option maxRecDepth 100000 in
theorem xi_ok357_2 : xi_ok cX12_cost xi_357_2 = true := by decide +kernel
def xi_357_3 : XIs := [(89, .sipush 160, 3), (92, .if_icmp .ge 111, 3), (95, .aload_n 0, 1), (96, .getfield 288, 3), (99, .iload 4, 2), (101, .iadd, 1), (102, .istore 5, 2), (104, .aload_n 0, 1), (105, .getfield 127, 3), (108, .iload 4, 2), (110, .aload_n 0, 1), (111, .getfield 16, 3), (114, .iload 5, 2), (116, .baload, 1), (117, .ifCond .eq 24, 3), (120, .aload_n 0, 1)]
set_option maxRecDepth 100000 in
theorem xi_ok357_3 : xi_ok cX12_cost xi_357_3 = true := by decide +kernel
def xi_357_4 : XIs := [(121, .getfield 26, 3), (124, .iload 5, 2), (126, .iaload, 1), (127, .ifCond .ge 14, 3), (130, .aload_n 0, 1), (131, .getfield 29, 3), (134, .iload 5, 2), (136, .iaload, 1), (137, .i2l, 1), (138, .goto 4, 3), (141, .lconst 0, 1), (142, .lastore, 1), (143, .aload_n 0, 1), (144, .getfield 16, 3), (147, .iload 5, 2), (149, .baload, 1)]
set_option maxRecDepth 100000 in
theorem xi_ok357_4 : xi_ok cX12_cost xi_357_4 = true := by decide +kernel
def xi_357_5 : XIs := [(150, .ifCond .eq 47, 3), (153, .aload_n 0, 1), (154, .getfield 136, 3), (157, .aload_n 0, 1), (158, .getfield 20, 3), (161, .iload 5, 2), (163, .iaload, 1), (164, .dup2, 1), (165, .laload, 1), (166, .aload_n 0, 1), (167, .getfield 127, 3), (170, .iload 4, 2), (172, .laload, 1), (173, .lsub, 1), (174, .lastore, 1), (175, .aload_n 0, 1)]
set_option maxRecDepth 100000 in
theorem xi_ok357_5 : xi_ok cX12_cost xi_357_5 = true := by decide +kernel
def xi_357_6 : XIs := [(176, .getfield 136, 3), (179, .aload_n 0, 1), (180, .getfield 23, 3), (183, .iload 5, 2), (185, .iaload, 1), (186, .dup2, 1), (187, .laload, 1), (188, .aload_n 0, 1), (189, .getfield 127, 3), (192, .iload 4, 2), (194, .laload, 1), (195, .ladd, 1), (196, .lastore, 1), (197, .iinc 4 1, 3), (200, .goto (-113), 3), (203, .iconst 1, 1)]
set_option maxRecDepth 100000 in
theorem xi_ok357_6 : xi_ok cX12_cost xi_357_6 = true := by decide +kernel
def xi_357_7 : XIs := [(204, .istore 4, 2), (206, .iconst 0, 1), (207, .istore 5, 2), (209, .iload 5, 2), (211, .aload_n 0, 1), (212, .getfield 285, 3), (215, .if_icmp .ge 42, 3), (218, .iload 4, 2), (220, .ifCond .eq 37, 3), (223, .aload_n 0, 1), (224, .getfield 136, 3), (227, .iload 5, 2), (229, .laload, 1), (230, .lconst 0, 1), (231, .lcmp, 1), (232, .ifCond .le 19, 3)]
set_option maxRecDepth 100000 in
theorem xi_ok357_7 : xi_ok cX12_cost xi_357_7 = true := by decide +kernel
def xi_357_8 : XIs := [(235, .iload 4, 2), (237, .ifCond .eq 14, 3), (240, .aload_n 0, 1), (241, .iload 5, 2), (243, .invokevirtual 547, 3), (246, .istore 4, 2), (248, .goto (-25), 3), (251, .iinc 5 1, 3), (254, .goto (-45), 3), (257, .lconst 0, 1), (258, .lstore 5, 2), (260, .iconst 0, 1), (261, .istore 7, 2), (263, .iload 7, 2), (265, .sipush 160, 3), (268, .if_icmp .ge 54, 3)]
set_option maxRecDepth 100000 in
theorem xi_ok357_8 : xi_ok cX12_cost xi_357_8 = true := by decide +kernel
def xi_357_9 : XIs := [(271, .lload 5, 2), (273, .aload_n 0, 1), (274, .getfield 16, 3), (277, .aload_n 0, 1), (278, .getfield 288, 3), (281, .iload 7, 2), (283, .iadd, 1), (284, .baload, 1), (285, .ifCond .eq 27, 3), (288, .aload_n 0, 1), (289, .getfield 127, 3), (292, .iload 7, 2), (294, .laload, 1), (295, .aload_n 0, 1), (296, .getfield 26, 3), (299, .aload_n 0, 1)]
set_option maxRecDepth 100000 in
theorem xi_ok357_9 : xi_ok cX12_cost xi_357_9 = true := by decide +kernel
def xi_357_10 : XIs := [(300, .getfield 288, 3), (303, .iload 7, 2), (305, .iadd, 1), (306, .iaload, 1), (307, .i2l, 1), (308, .lmul, 1), (309, .goto 4, 3), (312, .lconst 0, 1), (313, .ladd, 1), (314, .lstore 5, 2), (316, .iinc 7 1, 3), (319, .goto (-56), 3), (322, .iload 4, 2), (324, .ifCond .eq 8, 3), (327, .lload 5, 2), (329, .goto 6, 3)]
set_option maxRecDepth 100000 in
theorem xi_ok357_10 : xi_ok cX12_cost xi_357_10 = true := by decide +kernel
def xi_357_11 : XIs := [(332, .ldc2_w 347, 3), (335, .lreturn, 1)]
set_option maxRecDepth 100000 in
theorem xi_ok357_11 : xi_ok cX12_cost xi_357_11 = true := by decide +kernel
def xi_357 (pc : Nat) : XIs := cond (Nat.blt pc 176) (cond (Nat.blt pc 89) (cond (Nat.blt pc 30) (xi_357_0) (cond (Nat.blt pc 60) (xi_357_1) (xi_357_2))) (cond (Nat.blt pc 121) (xi_357_3) (cond (Nat.blt pc 150) (xi_357_4) (xi_357_5)))) (cond (Nat.blt pc 271) (cond (Nat.blt pc 204) (xi_357_6) (cond (Nat.blt pc 235) (xi_357_7) (xi_357_8))) (cond (Nat.blt pc 300) (xi_357_9) (cond (Nat.blt pc 332) (xi_357_10) (xi_357_11))))
theorem xi_ok357 (pc : Nat) : xi_ok cX12_cost (xi_357 pc) = true := xi_c (xi_c (xi_c (xi_ok357_0) (xi_c (xi_ok357_1) (xi_ok357_2))) (xi_c (xi_ok357_3) (xi_c (xi_ok357_4) (xi_ok357_5)))) (xi_c (xi_c (xi_ok357_6) (xi_c (xi_ok357_7) (xi_ok357_8))) (xi_c (xi_ok357_9) (xi_c (xi_ok357_10) (xi_ok357_11))))
def xi_358_0 : XIs := [(0, .aload_n 0, 1), (1, .iload_n 1, 1), (2, .invokevirtual 550, 3), (5, .iconst (-1), 1), (6, .istore_n 2, 1), (7, .iconst 0, 1), (8, .istore_n 3, 1), (9, .iload_n 3, 1), (10, .aload_n 0, 1), (11, .getfield 285, 3), (14, .if_icmp .ge 59, 3), (17, .aload_n 0, 1), (18, .getfield 136, 3), (21, .iload_n 3, 1), (22, .laload, 1), (23, .lconst 0, 1)]
set_option maxRecDepth 100000 in
theorem xi_ok358_0 : xi_ok cX12_sends xi_358_0 = true := by decide +kernel
def xi_358_1 : XIs := [(24, .lcmp, 1), (25, .ifCond .ge 40, 3), (28, .aload_n 0, 1), (29, .getfield 133, 3), (32, .iload_n 3, 1), (33, .laload, 1), (34, .ldc2_w 347, 3), (37, .lcmp, 1), (38, .ifCond .ge 27, 3), (41, .iload_n 2, 1), (42, .ifCond .lt 19, 3), (45, .aload_n 0, 1), (46, .getfield 133, 3), (49, .iload_n 3, 1), (50, .laload, 1), (51, .aload_n 0, 1)]
set_option maxRecDepth 100000 in
theorem xi_ok358_1 : xi_ok cX12_sends xi_358_1 = true := by decide +kernel
def xi_358_2 : XIs := [(52, .getfield 133, 3), (55, .iload_n 2, 1), (56, .laload, 1), (57, .lcmp, 1), (58, .ifCond .ge 7, 3), (61, .iload_n 3, 1), (62, .goto 4, 3), (65, .iload_n 2, 1), (66, .istore_n 2, 1), (67, .iinc 3 1, 3), (70, .goto (-61), 3), (73, .iload_n 2, 1), (74, .ifCond .ge 5, 3), (77, .iconst 0, 1), (78, .ireturn, 1), (79, .aload_n 0, 1)]
set_option maxRecDepth 100000 in
theorem xi_ok358_2 : xi_ok cX12_sends xi_358_2 = true := by decide +kernel
def xi_358_3 : XIs := [(80, .getfield 136, 3), (83, .iload_n 1, 1), (84, .laload, 1), (85, .aload_n 0, 1), (86, .getfield 136, 3), (89, .iload_n 2, 1), (90, .laload, 1), (91, .lneg, 1), (92, .lcmp, 1), (93, .ifCond .ge 12, 3), (96, .aload_n 0, 1), (97, .getfield 136, 3), (100, .iload_n 1, 1), (101, .laload, 1), (102, .goto 10, 3), (105, .aload_n 0, 1)]
set_option maxRecDepth 100000 in
theorem xi_ok358_3 : xi_ok cX12_sends xi_358_3 = true := by decide +kernel
def xi_358_4 : XIs := [(106, .getfield 136, 3), (109, .iload_n 2, 1), (110, .laload, 1), (111, .lneg, 1), (112, .lstore_n 3, 1), (113, .iload_n 2, 1), (114, .istore 5, 2), (116, .iload 5, 2), (118, .iload_n 1, 1), (119, .if_icmp .eq 36, 3), (122, .aload_n 0, 1), (123, .iload 5, 2), (125, .invokevirtual 527, 3), (128, .lload_n 3, 1), (129, .lcmp, 1), (130, .ifCond .ge 12, 3)]
set_option maxRecDepth 100000 in
theorem xi_ok358_4 : xi_ok cX12_sends xi_358_4 = true := by decide +kernel
def xi_358_5 : XIs := [(133, .aload_n 0, 1), (134, .iload 5, 2), (136, .invokevirtual 527, 3), (139, .goto 4, 3), (142, .lload_n 3, 1), (143, .lstore_n 3, 1), (144, .aload_n 0, 1), (145, .iload 5, 2), (147, .invokevirtual 531, 3), (150, .istore 5, 2), (152, .goto (-36), 3), (155, .iload_n 2, 1), (156, .istore 5, 2), (158, .iload 5, 2), (160, .iload_n 1, 1), (161, .if_icmp .eq 25, 3)]
set_option maxRecDepth 100000 in
theorem xi_ok358_5 : xi_ok cX12_sends xi_358_5 = true := by decide +kernel
def xi_358_6 : XIs := [(164, .aload_n 0, 1), (165, .iload 5, 2), (167, .invokevirtual 531, 3), (170, .istore 6, 2), (172, .aload_n 0, 1), (173, .iload 5, 2), (175, .lload_n 3, 1), (176, .invokevirtual 534, 3), (179, .iload 6, 2), (181, .istore 5, 2), (183, .goto (-25), 3), (186, .aload_n 0, 1), (187, .getfield 136, 3), (190, .iload_n 1, 1), (191, .dup2, 1), (192, .laload, 1)]
set_option maxRecDepth 100000 in
theorem xi_ok358_6 : xi_ok cX12_sends xi_358_6 = true := by decide +kernel
def xi_358_7 : XIs := [(193, .lload_n 3, 1), (194, .lsub, 1), (195, .lastore, 1), (196, .aload_n 0, 1), (197, .getfield 136, 3), (200, .iload_n 2, 1), (201, .dup2, 1), (202, .laload, 1), (203, .lload_n 3, 1), (204, .ladd, 1), (205, .lastore, 1), (206, .iconst 1, 1), (207, .ireturn, 1)]
set_option maxRecDepth 100000 in
theorem xi_ok358_7 : xi_ok cX12_sends xi_358_7 = true := by decide +kernel
def xi_358 (pc : Nat) : XIs := cond (Nat.blt pc 106) (cond (Nat.blt pc 52) (cond (Nat.blt pc 24) (xi_358_0) (xi_358_1)) (cond (Nat.blt pc 80) (xi_358_2) (xi_358_3))) (cond (Nat.blt pc 164) (cond (Nat.blt pc 133) (xi_358_4) (xi_358_5)) (cond (Nat.blt pc 193) (xi_358_6) (xi_358_7)))
theorem xi_ok358 (pc : Nat) : xi_ok cX12_sends (xi_358 pc) = true := xi_c (xi_c (xi_c (xi_ok358_0) (xi_ok358_1)) (xi_c (xi_ok358_2) (xi_ok358_3))) (xi_c (xi_c (xi_ok358_4) (xi_ok358_5)) (xi_c (xi_ok358_6) (xi_ok358_7)))
def xi_359_0 : XIs := [(0, .aload_n 0, 1), (1, .getfield 13, 3), (4, .bipush 32, 2), (6, .aload_n 0, 1), (7, .getfield 301, 3), (10, .imul, 1), (11, .iload_n 1, 1), (12, .iadd, 1), (13, .iaload, 1), (14, .bipush 13, 2), (16, .if_icmp .ge 7, 3), (19, .iconst 1, 1), (20, .goto 4, 3), (23, .iconst 0, 1), (24, .ireturn, 1)]
set_option maxRecDepth 100000 in
theorem xi_ok359_0 : xi_ok cX12_isFirstSort xi_359_0 = true := by decide +kernel
def xi_359 (pc : Nat) : XIs := xi_359_0
theorem xi_ok359 (pc : Nat) : xi_ok cX12_isFirstSort (xi_359 pc) = true := xi_ok359_0
def xi_360_0 : XIs := [(0, .iconst 0, 1), (1, .istore_n 1, 1), (2, .iload_n 1, 1), (3, .sipush 1024, 3), (6, .if_icmp .ge 18, 3), (9, .aload_n 0, 1), (10, .getfield 142, 3), (13, .iload_n 1, 1), (14, .ldc2_w 347, 3), (17, .lastore, 1), (18, .iinc 1 1, 3), (21, .goto (-19), 3), (24, .iconst 0, 1), (25, .istore_n 1, 1), (26, .iload_n 1, 1), (27, .sipush 160, 3)]
set_option maxRecDepth 100000 in
theorem xi_ok360_0 : xi_ok cX12_pairUp xi_360_0 = true := by decide +kernel
def xi_360_1 : XIs := [(30, .if_icmp .ge 131, 3), (33, .aload_n 0, 1), (34, .iload_n 1, 1), (35, .invokevirtual 340, 3), (38, .ifCond .eq 117, 3), (41, .aload_n 0, 1), (42, .getfield 20, 3), (45, .aload_n 0, 1), (46, .getfield 288, 3), (49, .iload_n 1, 1), (50, .iadd, 1), (51, .iaload, 1), (52, .istore_n 2, 1), (53, .aload_n 0, 1), (54, .getfield 23, 3), (57, .aload_n 0, 1)]
set_option maxRecDepth 100000 in
theorem xi_ok360_1 : xi_ok cX12_pairUp xi_360_1 = true := by decide +kernel
def xi_360_2 : XIs := [(58, .getfield 288, 3), (61, .iload_n 1, 1), (62, .iadd, 1), (63, .iaload, 1), (64, .istore_n 3, 1), (65, .aload_n 0, 1), (66, .iload_n 2, 1), (67, .invokevirtual 553, 3), (70, .aload_n 0, 1), (71, .iload_n 3, 1), (72, .invokevirtual 553, 3), (75, .if_icmp .eq 80, 3), (78, .aload_n 0, 1), (79, .iload_n 2, 1), (80, .invokevirtual 553, 3), (83, .ifCond .eq 12, 3)]
set_option maxRecDepth 100000 in
theorem xi_ok360_2 : xi_ok cX12_pairUp xi_360_2 = true := by decide +kernel
def xi_360_3 : XIs := [(86, .bipush 32, 2), (88, .iload_n 2, 1), (89, .imul, 1), (90, .iload_n 3, 1), (91, .iadd, 1), (92, .goto 9, 3), (95, .bipush 32, 2), (97, .iload_n 3, 1), (98, .imul, 1), (99, .iload_n 2, 1), (100, .iadd, 1), (101, .istore 4, 2), (103, .aload_n 0, 1), (104, .getfield 142, 3), (107, .iload 4, 2), (109, .aload_n 0, 1)]
set_option maxRecDepth 100000 in
theorem xi_ok360_3 : xi_ok cX12_pairUp xi_360_3 = true := by decide +kernel
def xi_360_4 : XIs := [(110, .getfield 26, 3), (113, .aload_n 0, 1), (114, .getfield 288, 3), (117, .iload_n 1, 1), (118, .iadd, 1), (119, .iaload, 1), (120, .i2l, 1), (121, .aload_n 0, 1), (122, .getfield 142, 3), (125, .iload 4, 2), (127, .laload, 1), (128, .lcmp, 1), (129, .ifCond .ge 18, 3), (132, .aload_n 0, 1), (133, .getfield 26, 3), (136, .aload_n 0, 1)]
set_option maxRecDepth 100000 in
theorem xi_ok360_4 : xi_ok cX12_pairUp xi_360_4 = true := by decide +kernel
def xi_360_5 : XIs := [(137, .getfield 288, 3), (140, .iload_n 1, 1), (141, .iadd, 1), (142, .iaload, 1), (143, .i2l, 1), (144, .goto 10, 3), (147, .aload_n 0, 1), (148, .getfield 142, 3), (151, .iload 4, 2), (153, .laload, 1), (154, .lastore, 1), (155, .iinc 1 1, 3), (158, .goto (-132), 3), (161, .iconst 0, 1), (162, .istore_n 1, 1), (163, .iload_n 1, 1)]
set_option maxRecDepth 100000 in
theorem xi_ok360_5 : xi_ok cX12_pairUp xi_360_5 = true := by decide +kernel
def xi_360_6 : XIs := [(164, .aload_n 0, 1), (165, .getfield 285, 3), (168, .if_icmp .ge 16, 3), (171, .aload_n 0, 1), (172, .getfield 139, 3), (175, .iload_n 1, 1), (176, .iconst (-1), 1), (177, .iastore, 1), (178, .iinc 1 1, 3), (181, .goto (-18), 3), (184, .iconst 1, 1), (185, .istore_n 1, 1), (186, .iload_n 1, 1), (187, .ifCond .eq 60, 3), (190, .aload_n 0, 1), (191, .invokevirtual 556, 3)]
set_option maxRecDepth 100000 in
theorem xi_ok360_6 : xi_ok cX12_pairUp xi_360_6 = true := by decide +kernel
def xi_360_7 : XIs := [(194, .istore_n 2, 1), (195, .iload_n 2, 1), (196, .ifCond .lt 7, 3), (199, .iconst 1, 1), (200, .goto 4, 3), (203, .iconst 0, 1), (204, .istore_n 1, 1), (205, .iload_n 2, 1), (206, .ifCond .lt 38, 3), (209, .aload_n 0, 1), (210, .getfield 130, 3), (213, .iload_n 2, 1), (214, .iaload, 1), (215, .istore_n 3, 1), (216, .aload_n 0, 1), (217, .getfield 139, 3)]
set_option maxRecDepth 100000 in
theorem xi_ok360_7 : xi_ok cX12_pairUp xi_360_7 = true := by decide +kernel
def xi_360_8 : XIs := [(220, .iload_n 3, 1), (221, .iaload, 1), (222, .istore 4, 2), (224, .aload_n 0, 1), (225, .getfield 139, 3), (228, .iload_n 3, 1), (229, .iload_n 2, 1), (230, .iastore, 1), (231, .aload_n 0, 1), (232, .getfield 139, 3), (235, .iload_n 2, 1), (236, .iload_n 3, 1), (237, .iastore, 1), (238, .iload 4, 2), (240, .istore_n 2, 1), (241, .goto (-36), 3)]
set_option maxRecDepth 100000 in
theorem xi_ok360_8 : xi_ok cX12_pairUp xi_360_8 = true := by decide +kernel
def xi_360_9 : XIs := [(244, .goto (-58), 3), (247, .return_, 1)]
set_option maxRecDepth 100000 in
theorem xi_ok360_9 : xi_ok cX12_pairUp xi_360_9 = true := by decide +kernel
def xi_360 (pc : Nat) : XIs := cond (Nat.blt pc 137) (cond (Nat.blt pc 58) (cond (Nat.blt pc 30) (xi_360_0) (xi_360_1)) (cond (Nat.blt pc 86) (xi_360_2) (cond (Nat.blt pc 110) (xi_360_3) (xi_360_4)))) (cond (Nat.blt pc 194) (cond (Nat.blt pc 164) (xi_360_5) (xi_360_6)) (cond (Nat.blt pc 220) (xi_360_7) (cond (Nat.blt pc 244) (xi_360_8) (xi_360_9))))
theorem xi_ok360 (pc : Nat) : xi_ok cX12_pairUp (xi_360 pc) = true := xi_c (xi_c (xi_c (xi_ok360_0) (xi_ok360_1)) (xi_c (xi_ok360_2) (xi_c (xi_ok360_3) (xi_ok360_4)))) (xi_c (xi_c (xi_ok360_5) (xi_ok360_6)) (xi_c (xi_ok360_7) (xi_c (xi_ok360_8) (xi_ok360_9))))
def xi_361_0 : XIs := [(0, .iconst 0, 1), (1, .istore_n 1, 1), (2, .iload_n 1, 1), (3, .aload_n 0, 1), (4, .getfield 285, 3), (7, .if_icmp .ge 46, 3), (10, .aload_n 0, 1), (11, .getfield 133, 3), (14, .iload_n 1, 1), (15, .aload_n 0, 1), (16, .iload_n 1, 1), (17, .invokevirtual 553, 3), (20, .ifCond .eq 16, 3), (23, .aload_n 0, 1), (24, .getfield 139, 3), (27, .iload_n 1, 1)]
set_option maxRecDepth 100000 in
theorem xi_ok361_0 : xi_ok cX12_cheapestPair xi_361_0 = true := by decide +kernel
def xi_361_1 : XIs := [(28, .iaload, 1), (29, .ifCond .ge 7, 3), (32, .lconst 0, 1), (33, .goto 6, 3), (36, .ldc2_w 347, 3), (39, .lastore, 1), (40, .aload_n 0, 1), (41, .getfield 130, 3), (44, .iload_n 1, 1), (45, .iconst (-1), 1), (46, .iastore, 1), (47, .iinc 1 1, 3), (50, .goto (-48), 3), (53, .iconst 1, 1), (54, .istore_n 1, 1), (55, .iload_n 1, 1)]
set_option maxRecDepth 100000 in
theorem xi_ok361_1 : xi_ok cX12_cheapestPair xi_361_1 = true := by decide +kernel
def xi_361_2 : XIs := [(56, .ifCond .eq 173, 3), (59, .iconst 0, 1), (60, .istore_n 1, 1), (61, .iconst 0, 1), (62, .istore_n 2, 1), (63, .iload_n 2, 1), (64, .sipush 1024, 3), (67, .if_icmp .ge 159, 3), (70, .iload_n 2, 1), (71, .bipush 32, 2), (73, .idiv, 1), (74, .istore_n 3, 1), (75, .iload_n 2, 1), (76, .bipush 32, 2), (78, .irem, 1), (79, .istore 4, 2)]
set_option maxRecDepth 100000 in
theorem xi_ok361_2 : xi_ok cX12_cheapestPair xi_361_2 = true := by decide +kernel
def xi_361_3 : XIs := [(81, .aload_n 0, 1), (82, .getfield 142, 3), (85, .iload_n 2, 1), (86, .laload, 1), (87, .ldc2_w 347, 3), (90, .lcmp, 1), (91, .ifCond .ge 129, 3), (94, .aload_n 0, 1), (95, .getfield 133, 3), (98, .iload_n 3, 1), (99, .laload, 1), (100, .ldc2_w 347, 3), (103, .lcmp, 1), (104, .ifCond .ge 116, 3), (107, .aload_n 0, 1), (108, .getfield 139, 3)]
set_option maxRecDepth 100000 in
theorem xi_ok361_3 : xi_ok cX12_cheapestPair xi_361_3 = true := by decide +kernel
def xi_361_4 : XIs := [(111, .iload_n 3, 1), (112, .iaload, 1), (113, .iload 4, 2), (115, .if_icmp .eq 105, 3), (118, .aload_n 0, 1), (119, .getfield 133, 3), (122, .iload_n 3, 1), (123, .laload, 1), (124, .aload_n 0, 1), (125, .getfield 142, 3), (128, .iload_n 2, 1), (129, .laload, 1), (130, .ladd, 1), (131, .aload_n 0, 1), (132, .getfield 133, 3), (135, .iload 4, 2)]
set_option maxRecDepth 100000 in
theorem xi_ok361_4 : xi_ok cX12_cheapestPair xi_361_4 = true := by decide +kernel
def xi_361_5 : XIs := [(137, .laload, 1), (138, .lcmp, 1), (139, .ifCond .ge 81, 3), (142, .aload_n 0, 1), (143, .getfield 133, 3), (146, .iload 4, 2), (148, .aload_n 0, 1), (149, .getfield 133, 3), (152, .iload_n 3, 1), (153, .laload, 1), (154, .aload_n 0, 1), (155, .getfield 142, 3), (158, .iload_n 2, 1), (159, .laload, 1), (160, .ladd, 1), (161, .lastore, 1)]
set_option maxRecDepth 100000 in
theorem xi_ok361_5 : xi_ok cX12_cheapestPair xi_361_5 = true := by decide +kernel
def xi_361_6 : XIs := [(162, .aload_n 0, 1), (163, .getfield 130, 3), (166, .iload 4, 2), (168, .iload_n 3, 1), (169, .iastore, 1), (170, .iconst 1, 1), (171, .istore_n 1, 1), (172, .aload_n 0, 1), (173, .getfield 139, 3), (176, .iload 4, 2), (178, .iaload, 1), (179, .ifCond .lt 41, 3), (182, .aload_n 0, 1), (183, .getfield 133, 3), (186, .aload_n 0, 1), (187, .getfield 139, 3)]
set_option maxRecDepth 100000 in
theorem xi_ok361_6 : xi_ok cX12_cheapestPair xi_361_6 = true := by decide +kernel
def xi_361_7 : XIs := [(190, .iload 4, 2), (192, .iaload, 1), (193, .aload_n 0, 1), (194, .getfield 133, 3), (197, .iload 4, 2), (199, .laload, 1), (200, .aload_n 0, 1), (201, .getfield 142, 3), (204, .bipush 32, 2), (206, .aload_n 0, 1), (207, .getfield 139, 3), (210, .iload 4, 2), (212, .iaload, 1), (213, .imul, 1), (214, .iload 4, 2), (216, .iadd, 1)]
set_option maxRecDepth 100000 in
theorem xi_ok361_7 : xi_ok cX12_cheapestPair xi_361_7 = true := by decide +kernel
def xi_361_8 : XIs := [(217, .laload, 1), (218, .lsub, 1), (219, .lastore, 1), (220, .iinc 2 1, 3), (223, .goto (-160), 3), (226, .goto (-171), 3), (229, .iconst (-1), 1), (230, .istore_n 2, 1), (231, .iconst 0, 1), (232, .istore_n 3, 1), (233, .iload_n 3, 1), (234, .aload_n 0, 1), (235, .getfield 285, 3), (238, .if_icmp .ge 77, 3), (241, .aload_n 0, 1), (242, .iload_n 3, 1)]
set_option maxRecDepth 100000 in
theorem xi_ok361_8 : xi_ok cX12_cheapestPair xi_361_8 = true := by decide +kernel
def xi_361_9 : XIs := [(243, .invokevirtual 553, 3), (246, .ifCond .ne 29, 3), (249, .aload_n 0, 1), (250, .getfield 139, 3), (253, .iload_n 3, 1), (254, .iaload, 1), (255, .ifCond .ge 20, 3), (258, .aload_n 0, 1), (259, .getfield 133, 3), (262, .iload_n 3, 1), (263, .laload, 1), (264, .ldc2_w 347, 3), (267, .lcmp, 1), (268, .ifCond .ge 7, 3), (271, .iconst 1, 1), (272, .goto 4, 3)]
set_option maxRecDepth 100000 in
theorem xi_ok361_9 : xi_ok cX12_cheapestPair xi_361_9 = true := by decide +kernel
def xi_361_10 : XIs := [(275, .iconst 0, 1), (276, .istore 4, 2), (278, .iload 4, 2), (280, .ifCond .eq 27, 3), (283, .iload_n 2, 1), (284, .ifCond .lt 19, 3), (287, .aload_n 0, 1), (288, .getfield 133, 3), (291, .iload_n 3, 1), (292, .laload, 1), (293, .aload_n 0, 1), (294, .getfield 133, 3), (297, .iload_n 2, 1), (298, .laload, 1), (299, .lcmp, 1), (300, .ifCond .ge 7, 3)]
set_option maxRecDepth 100000 in
theorem xi_ok361_10 : xi_ok cX12_cheapestPair xi_361_10 = true := by decide +kernel
def xi_361_11 : XIs := [(303, .iload_n 3, 1), (304, .goto 4, 3), (307, .iload_n 2, 1), (308, .istore_n 2, 1), (309, .iinc 3 1, 3), (312, .goto (-79), 3), (315, .iload_n 2, 1), (316, .ireturn, 1)]
set_option maxRecDepth 100000 in
theorem xi_ok361_11 : xi_ok cX12_cheapestPair xi_361_11 = true := by decide +kernel
def xi_361 (pc : Nat) : XIs := cond (Nat.blt pc 162) (cond (Nat.blt pc 81) (cond (Nat.blt pc 28) (xi_361_0) (cond (Nat.blt pc 56) (xi_361_1) (xi_361_2))) (cond (Nat.blt pc 111) (xi_361_3) (cond (Nat.blt pc 137) (xi_361_4) (xi_361_5)))) (cond (Nat.blt pc 243) (cond (Nat.blt pc 190) (xi_361_6) (cond (Nat.blt pc 217) (xi_361_7) (xi_361_8))) (cond (Nat.blt pc 275) (xi_361_9) (cond (Nat.blt pc 303) (xi_361_10) (xi_361_11))))
theorem xi_ok361 (pc : Nat) : xi_ok cX12_cheapestPair (xi_361 pc) = true := xi_c (xi_c (xi_c (xi_ok361_0) (xi_c (xi_ok361_1) (xi_ok361_2))) (xi_c (xi_ok361_3) (xi_c (xi_ok361_4) (xi_ok361_5)))) (xi_c (xi_c (xi_ok361_6) (xi_c (xi_ok361_7) (xi_ok361_8))) (xi_c (xi_ok361_9) (xi_c (xi_ok361_10) (xi_ok361_11))))
def xi_362_0 : XIs := [(0, .aload_n 0, 1), (1, .iload_n 1, 1), (2, .i2l, 1), (3, .lconst 0, 1), (4, .lconst 1, 1), (5, .invokestatic 308, 3), (8, .invokevirtual 334, 3), (11, .ifCond .eq 5, 3), (14, .lconst 0, 1), (15, .lreturn, 1), (16, .aload_n 0, 1), (17, .invokevirtual 559, 3), (20, .lconst 0, 1), (21, .lstore_n 2, 1), (22, .lconst 0, 1), (23, .lstore 4, 2)]
set_option maxRecDepth 100000 in
theorem xi_ok362_0 : xi_ok cX12_pairing xi_362_0 = true := by decide +kernel
def xi_362_1 : XIs := [(25, .iconst 0, 1), (26, .istore 6, 2), (28, .iload 6, 2), (30, .aload_n 0, 1), (31, .getfield 285, 3), (34, .if_icmp .ge 55, 3), (37, .aload_n 0, 1), (38, .iload 6, 2), (40, .invokevirtual 553, 3), (43, .ifCond .eq 40, 3), (46, .aload_n 0, 1), (47, .getfield 139, 3), (50, .iload 6, 2), (52, .iaload, 1), (53, .ifCond .lt 30, 3), (56, .lload_n 2, 1)]
set_option maxRecDepth 100000 in
theorem xi_ok362_1 : xi_ok cX12_pairing xi_362_1 = true := by decide +kernel
def xi_362_2 : XIs := [(57, .lconst 1, 1), (58, .ladd, 1), (59, .lstore_n 2, 1), (60, .lload 4, 2), (62, .aload_n 0, 1), (63, .getfield 142, 3), (66, .bipush 32, 2), (68, .iload 6, 2), (70, .imul, 1), (71, .aload_n 0, 1), (72, .getfield 139, 3), (75, .iload 6, 2), (77, .iaload, 1), (78, .iadd, 1), (79, .laload, 1), (80, .ladd, 1)]
set_option maxRecDepth 100000 in
theorem xi_ok362_2 : xi_ok cX12_pairing xi_362_2 = true := by decide +kernel
def xi_362_3 : XIs := [(81, .lstore 4, 2), (83, .iinc 6 1, 3), (86, .goto (-58), 3), (89, .iload_n 1, 1), (90, .ifCond .ne 7, 3), (93, .lload_n 2, 1), (94, .goto 5, 3), (97, .lload 4, 2), (99, .lreturn, 1)]
set_option maxRecDepth 100000 in
theorem xi_ok362_3 : xi_ok cX12_pairing xi_362_3 = true := by decide +kernel
def xi_362 (pc : Nat) : XIs := cond (Nat.blt pc 57) (cond (Nat.blt pc 25) (xi_362_0) (xi_362_1)) (cond (Nat.blt pc 81) (xi_362_2) (xi_362_3))
theorem xi_ok362 (pc : Nat) : xi_ok cX12_pairing (xi_362 pc) = true := xi_c (xi_c (xi_ok362_0) (xi_ok362_1)) (xi_c (xi_ok362_2) (xi_ok362_3))
def xi_363_0 : XIs := [(0, .aload_n 0, 1), (1, .aload_n 0, 1), (2, .iload_n 1, 1), (3, .invokevirtual 349, 3), (6, .invokevirtual 334, 3), (9, .ifCond .eq 5, 3), (12, .lconst 0, 1), (13, .lreturn, 1), (14, .iconst 0, 1), (15, .istore_n 2, 1), (16, .iconst 0, 1), (17, .istore_n 3, 1), (18, .iload_n 3, 1), (19, .sipush 160, 3), (22, .if_icmp .ge 72, 3), (25, .aload_n 0, 1)]
set_option maxRecDepth 100000 in
theorem xi_ok363_0 : xi_ok cX12_tree xi_363_0 = true := by decide +kernel
def xi_363_1 : XIs := [(26, .iload_n 3, 1), (27, .invokevirtual 340, 3), (30, .ifCond .eq 58, 3), (33, .aload_n 0, 1), (34, .getfield 145, 3), (37, .iload_n 2, 1), (38, .aload_n 0, 1), (39, .getfield 20, 3), (42, .aload_n 0, 1), (43, .getfield 288, 3), (46, .iload_n 3, 1), (47, .iadd, 1), (48, .iaload, 1), (49, .iastore, 1), (50, .aload_n 0, 1), (51, .getfield 148, 3)]
set_option maxRecDepth 100000 in
theorem xi_ok363_1 : xi_ok cX12_tree xi_363_1 = true := by decide +kernel
def xi_363_2 : XIs := [(54, .iload_n 2, 1), (55, .aload_n 0, 1), (56, .getfield 23, 3), (59, .aload_n 0, 1), (60, .getfield 288, 3), (63, .iload_n 3, 1), (64, .iadd, 1), (65, .iaload, 1), (66, .iastore, 1), (67, .aload_n 0, 1), (68, .getfield 151, 3), (71, .iload_n 2, 1), (72, .aload_n 0, 1), (73, .getfield 26, 3), (76, .aload_n 0, 1), (77, .getfield 288, 3)]
set_option maxRecDepth 100000 in
theorem xi_ok363_2 : xi_ok cX12_tree xi_363_2 = true := by decide +kernel
def xi_363_3 : XIs := [(80, .iload_n 3, 1), (81, .iadd, 1), (82, .iaload, 1), (83, .i2l, 1), (84, .lastore, 1), (85, .iinc 2 1, 3), (88, .iinc 3 1, 3), (91, .goto (-73), 3), (94, .aload_n 0, 1), (95, .getfield 285, 3), (98, .istore_n 3, 1), (99, .iload_n 1, 1), (100, .istore 4, 2), (102, .lconst 0, 1), (103, .lstore 5, 2), (105, .iload_n 3, 1)]
set_option maxRecDepth 100000 in
theorem xi_ok363_3 : xi_ok cX12_tree xi_363_3 = true := by decide +kernel
def xi_363_4 : XIs := [(106, .iconst 1, 1), (107, .if_icmp .le 350, 3), (110, .iconst 0, 1), (111, .istore 7, 2), (113, .iload 7, 2), (115, .iload_n 3, 1), (116, .if_icmp .ge 17, 3), (119, .aload_n 0, 1), (120, .getfield 157, 3), (123, .iload 7, 2), (125, .iconst (-1), 1), (126, .iastore, 1), (127, .iinc 7 1, 3), (130, .goto (-17), 3), (133, .iconst 0, 1), (134, .istore 7, 2)]
set_option maxRecDepth 100000 in
theorem xi_ok363_4 : xi_ok cX12_tree xi_363_4 = true := by decide +kernel
def xi_363_5 : XIs := [(136, .iload 7, 2), (138, .iload_n 2, 1), (139, .if_icmp .ge 110, 3), (142, .aload_n 0, 1), (143, .getfield 145, 3), (146, .iload 7, 2), (148, .iaload, 1), (149, .aload_n 0, 1), (150, .getfield 148, 3), (153, .iload 7, 2), (155, .iaload, 1), (156, .if_icmp .eq 50, 3), (159, .aload_n 0, 1), (160, .getfield 157, 3), (163, .aload_n 0, 1), (164, .getfield 148, 3)]
set_option maxRecDepth 100000 in
theorem xi_ok363_5 : xi_ok cX12_tree xi_363_5 = true := by decide +kernel
def xi_363_6 : XIs := [(167, .iload 7, 2), (169, .iaload, 1), (170, .iaload, 1), (171, .ifCond .lt 31, 3), (174, .aload_n 0, 1), (175, .getfield 151, 3), (178, .iload 7, 2), (180, .laload, 1), (181, .aload_n 0, 1), (182, .getfield 151, 3), (185, .aload_n 0, 1), (186, .getfield 157, 3), (189, .aload_n 0, 1), (190, .getfield 148, 3), (193, .iload 7, 2), (195, .iaload, 1)]
set_option maxRecDepth 100000 in
theorem xi_ok363_6 : xi_ok cX12_tree xi_363_6 = true := by decide +kernel
def xi_363_7 : XIs := [(196, .iaload, 1), (197, .laload, 1), (198, .lcmp, 1), (199, .ifCond .ge 7, 3), (202, .iconst 1, 1), (203, .goto 4, 3), (206, .iconst 0, 1), (207, .istore 8, 2), (209, .aload_n 0, 1), (210, .getfield 157, 3), (213, .aload_n 0, 1), (214, .getfield 148, 3), (217, .iload 7, 2), (219, .iaload, 1), (220, .iload 8, 2), (222, .ifCond .eq 8, 3)]
set_option maxRecDepth 100000 in
theorem xi_ok363_7 : xi_ok cX12_tree xi_363_7 = true := by decide +kernel
def xi_363_8 : XIs := [(225, .iload 7, 2), (227, .goto 15, 3), (230, .aload_n 0, 1), (231, .getfield 157, 3), (234, .aload_n 0, 1), (235, .getfield 148, 3), (238, .iload 7, 2), (240, .iaload, 1), (241, .iaload, 1), (242, .iastore, 1), (243, .iinc 7 1, 3), (246, .goto (-110), 3), (249, .iconst 0, 1), (250, .istore 7, 2), (252, .iload 7, 2), (254, .iload_n 3, 1)]
set_option maxRecDepth 100000 in
theorem xi_ok363_8 : xi_ok cX12_tree xi_363_8 = true := by decide +kernel
def xi_363_9 : XIs := [(255, .if_icmp .ge 72, 3), (258, .iload 7, 2), (260, .iload 4, 2), (262, .if_icmp .eq 17, 3), (265, .aload_n 0, 1), (266, .getfield 157, 3), (269, .iload 7, 2), (271, .iaload, 1), (272, .ifCond .ge 7, 3), (275, .ldc2_w 347, 3), (278, .lreturn, 1), (279, .aload_n 0, 1), (280, .getfield 154, 3), (283, .iload 7, 2), (285, .iload 7, 2), (287, .iload 4, 2)]
set_option maxRecDepth 100000 in
theorem xi_ok363_9 : xi_ok cX12_tree xi_363_9 = true := by decide +kernel
def xi_363_10 : XIs := [(289, .if_icmp .ne 7, 3), (292, .lconst 0, 1), (293, .goto 15, 3), (296, .aload_n 0, 1), (297, .getfield 151, 3), (300, .aload_n 0, 1), (301, .getfield 157, 3), (304, .iload 7, 2), (306, .iaload, 1), (307, .laload, 1), (308, .lastore, 1), (309, .lload 5, 2), (311, .aload_n 0, 1), (312, .getfield 154, 3), (315, .iload 7, 2), (317, .laload, 1)]
set_option maxRecDepth 100000 in
theorem xi_ok363_10 : xi_ok cX12_tree xi_363_10 = true := by decide +kernel
def xi_363_11 : XIs := [(318, .ladd, 1), (319, .lstore 5, 2), (321, .iinc 7 1, 3), (324, .goto (-72), 3), (327, .aload_n 0, 1), (328, .iload_n 3, 1), (329, .iload 4, 2), (331, .invokevirtual 562, 3), (334, .istore 7, 2), (336, .iload 7, 2), (338, .iload_n 3, 1), (339, .if_icmp .ne 6, 3), (342, .lload 5, 2), (344, .lreturn, 1), (345, .iconst 0, 1), (346, .istore 8, 2)]
set_option maxRecDepth 100000 in
theorem xi_ok363_11 : xi_ok cX12_tree xi_363_11 = true := by decide +kernel
def xi_363_12 : XIs := [(348, .iload 8, 2), (350, .iload_n 2, 1), (351, .if_icmp .ge 91, 3), (354, .aload_n 0, 1), (355, .getfield 148, 3), (358, .iload 8, 2), (360, .iaload, 1), (361, .istore 9, 2), (363, .aload_n 0, 1), (364, .getfield 151, 3), (367, .iload 8, 2), (369, .dup2, 1), (370, .laload, 1), (371, .aload_n 0, 1), (372, .getfield 145, 3), (375, .iload 8, 2)]
set_option maxRecDepth 100000 in
theorem xi_ok363_12 : xi_ok cX12_tree xi_363_12 = true := by decide +kernel
def xi_363_13 : XIs := [(377, .iaload, 1), (378, .iload 9, 2), (380, .if_icmp .eq 20, 3), (383, .iload 9, 2), (385, .iload 4, 2), (387, .if_icmp .eq 13, 3), (390, .aload_n 0, 1), (391, .getfield 154, 3), (394, .iload 9, 2), (396, .laload, 1), (397, .goto 4, 3), (400, .lconst 0, 1), (401, .lsub, 1), (402, .lastore, 1), (403, .aload_n 0, 1), (404, .getfield 145, 3)]
set_option maxRecDepth 100000 in
theorem xi_ok363_13 : xi_ok cX12_tree xi_363_13 = true := by decide +kernel
def xi_363_14 : XIs := [(407, .iload 8, 2), (409, .aload_n 0, 1), (410, .getfield 160, 3), (413, .aload_n 0, 1), (414, .getfield 145, 3), (417, .iload 8, 2), (419, .iaload, 1), (420, .iaload, 1), (421, .iastore, 1), (422, .aload_n 0, 1), (423, .getfield 148, 3), (426, .iload 8, 2), (428, .aload_n 0, 1), (429, .getfield 160, 3), (432, .iload 9, 2), (434, .iaload, 1)]
set_option maxRecDepth 100000 in
theorem xi_ok363_14 : xi_ok cX12_tree xi_363_14 = true := by decide +kernel
def xi_363_15 : XIs := [(435, .iastore, 1), (436, .iinc 8 1, 3), (439, .goto (-91), 3), (442, .aload_n 0, 1), (443, .getfield 160, 3), (446, .iload 4, 2), (448, .iaload, 1), (449, .istore 4, 2), (451, .iload 7, 2), (453, .istore_n 3, 1), (454, .goto (-349), 3), (457, .lload 5, 2), (459, .lreturn, 1)]
set_option maxRecDepth 100000 in
theorem xi_ok363_15 : xi_ok cX12_tree xi_363_15 = true := by decide +kernel
def xi_363 (pc : Nat) : XIs := cond (Nat.blt pc 225) (cond (Nat.blt pc 106) (cond (Nat.blt pc 54) (cond (Nat.blt pc 26) (xi_363_0) (xi_363_1)) (cond (Nat.blt pc 80) (xi_363_2) (xi_363_3))) (cond (Nat.blt pc 167) (cond (Nat.blt pc 136) (xi_363_4) (xi_363_5)) (cond (Nat.blt pc 196) (xi_363_6) (xi_363_7)))) (cond (Nat.blt pc 348) (cond (Nat.blt pc 289) (cond (Nat.blt pc 255) (xi_363_8) (xi_363_9)) (cond (Nat.blt pc 318) (xi_363_10) (xi_363_11))) (cond (Nat.blt pc 407) (cond (Nat.blt pc 377) (xi_363_12) (xi_363_13)) (cond (Nat.blt pc 435) (xi_363_14) (xi_363_15))))
theorem xi_ok363 (pc : Nat) : xi_ok cX12_tree (xi_363 pc) = true := xi_c (xi_c (xi_c (xi_c (xi_ok363_0) (xi_ok363_1)) (xi_c (xi_ok363_2) (xi_ok363_3))) (xi_c (xi_c (xi_ok363_4) (xi_ok363_5)) (xi_c (xi_ok363_6) (xi_ok363_7)))) (xi_c (xi_c (xi_c (xi_ok363_8) (xi_ok363_9)) (xi_c (xi_ok363_10) (xi_ok363_11))) (xi_c (xi_c (xi_ok363_12) (xi_ok363_13)) (xi_c (xi_ok363_14) (xi_ok363_15))))
def xi_364_0 : XIs := [(0, .iconst 0, 1), (1, .istore_n 3, 1), (2, .iload_n 3, 1), (3, .iload_n 1, 1), (4, .if_icmp .ge 23, 3), (7, .aload_n 0, 1), (8, .getfield 160, 3), (11, .iload_n 3, 1), (12, .iconst (-1), 1), (13, .iastore, 1), (14, .aload_n 0, 1), (15, .getfield 163, 3), (18, .iload_n 3, 1), (19, .iconst (-1), 1), (20, .iastore, 1), (21, .iinc 3 1, 3)]
set_option maxRecDepth 100000 in
theorem xi_ok364_0 : xi_ok cX12_rings xi_364_0 = true := by decide +kernel
def xi_364_1 : XIs := [(24, .goto (-22), 3), (27, .iconst 0, 1), (28, .istore_n 3, 1), (29, .iconst 0, 1), (30, .istore 4, 2), (32, .iload 4, 2), (34, .iload_n 1, 1), (35, .if_icmp .ge 135, 3), (38, .iload 4, 2), (40, .istore 5, 2), (42, .iload 5, 2), (44, .iload_n 2, 1), (45, .if_icmp .eq 49, 3), (48, .aload_n 0, 1), (49, .getfield 163, 3), (52, .iload 5, 2)]
set_option maxRecDepth 100000 in
theorem xi_ok364_1 : xi_ok cX12_rings xi_364_1 = true := by decide +kernel
def xi_364_2 : XIs := [(54, .iaload, 1), (55, .ifCond .ge 39, 3), (58, .aload_n 0, 1), (59, .getfield 160, 3), (62, .iload 5, 2), (64, .iaload, 1), (65, .ifCond .ge 29, 3), (68, .aload_n 0, 1), (69, .getfield 163, 3), (72, .iload 5, 2), (74, .iload 4, 2), (76, .iastore, 1), (77, .aload_n 0, 1), (78, .getfield 145, 3), (81, .aload_n 0, 1), (82, .getfield 157, 3)]
set_option maxRecDepth 100000 in
theorem xi_ok364_2 : xi_ok cX12_rings xi_364_2 = true := by decide +kernel
def xi_364_3 : XIs := [(85, .iload 5, 2), (87, .iaload, 1), (88, .iaload, 1), (89, .istore 5, 2), (91, .goto (-49), 3), (94, .iload 5, 2), (96, .iload_n 2, 1), (97, .if_icmp .eq 67, 3), (100, .aload_n 0, 1), (101, .getfield 160, 3), (104, .iload 5, 2), (106, .iaload, 1), (107, .ifCond .ge 57, 3), (110, .aload_n 0, 1), (111, .getfield 163, 3), (114, .iload 5, 2)]
set_option maxRecDepth 100000 in
theorem xi_ok364_3 : xi_ok cX12_rings xi_364_3 = true := by decide +kernel
def xi_364_4 : XIs := [(116, .iaload, 1), (117, .iload 4, 2), (119, .if_icmp .ne 45, 3), (122, .iload 5, 2), (124, .istore 6, 2), (126, .aload_n 0, 1), (127, .getfield 160, 3), (130, .iload 6, 2), (132, .iaload, 1), (133, .ifCond .ge 28, 3), (136, .aload_n 0, 1), (137, .getfield 160, 3), (140, .iload 6, 2), (142, .iload_n 3, 1), (143, .iastore, 1), (144, .aload_n 0, 1)]
set_option maxRecDepth 100000 in
theorem xi_ok364_4 : xi_ok cX12_rings xi_364_4 = true := by decide +kernel
def xi_364_5 : XIs := [(145, .getfield 145, 3), (148, .aload_n 0, 1), (149, .getfield 157, 3), (152, .iload 6, 2), (154, .iaload, 1), (155, .iaload, 1), (156, .istore 6, 2), (158, .goto (-32), 3), (161, .iinc 3 1, 3), (164, .iinc 4 1, 3), (167, .goto (-135), 3), (170, .iconst 0, 1), (171, .istore 4, 2), (173, .iload 4, 2), (175, .iload_n 1, 1), (176, .if_icmp .ge 30, 3)]
set_option maxRecDepth 100000 in
theorem xi_ok364_5 : xi_ok cX12_rings xi_364_5 = true := by decide +kernel
def xi_364_6 : XIs := [(179, .aload_n 0, 1), (180, .getfield 160, 3), (183, .iload 4, 2), (185, .iaload, 1), (186, .ifCond .ge 14, 3), (189, .aload_n 0, 1), (190, .getfield 160, 3), (193, .iload 4, 2), (195, .iload_n 3, 1), (196, .iastore, 1), (197, .iinc 3 1, 3), (200, .iinc 4 1, 3), (203, .goto (-30), 3), (206, .iload_n 3, 1), (207, .ireturn, 1)]
set_option maxRecDepth 100000 in
theorem xi_ok364_6 : xi_ok cX12_rings xi_364_6 = true := by decide +kernel
def xi_364 (pc : Nat) : XIs := cond (Nat.blt pc 85) (cond (Nat.blt pc 24) (xi_364_0) (cond (Nat.blt pc 54) (xi_364_1) (xi_364_2))) (cond (Nat.blt pc 145) (cond (Nat.blt pc 116) (xi_364_3) (xi_364_4)) (cond (Nat.blt pc 179) (xi_364_5) (xi_364_6)))
theorem xi_ok364 (pc : Nat) : xi_ok cX12_rings (xi_364 pc) = true := xi_c (xi_c (xi_ok364_0) (xi_c (xi_ok364_1) (xi_ok364_2))) (xi_c (xi_c (xi_ok364_3) (xi_ok364_4)) (xi_c (xi_ok364_5) (xi_ok364_6)))
