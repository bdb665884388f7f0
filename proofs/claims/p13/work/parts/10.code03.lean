def xi_407_2 : XIs := [(47, .lastore, 1), (48, .aload_n 0, 1), (49, .getfield 272, 3), (52, .iconst 4, 1), (53, .lconst 0, 1), (54, .lastore, 1), (55, .aload_n 0, 1), (56, .getfield 272, 3), (59, .iconst 5, 1), (60, .iload_n 2, 1), (61, .i2l, 1), (62, .lastore, 1), (63, .aload_n 0, 1), (64, .getfield 272, 3), (67, .bipush 6, 2), (69, .lconst 0, 1)]
set_option maxRecDepth 100000 in
theorem xi_ok407_2 : xi_ok cX12_nameAll xi_407_2 = true := by decide +kernel
def xi_407_3 : XIs := [(70, .lastore, 1), (71, .aload_n 0, 1), (72, .getfield 272, 3), (75, .bipush 7, 2), (77, .ldc2_w 584, 3), (80, .lastore, 1), (81, .aload_n 0, 1), (82, .getfield 272, 3), (85, .bipush 8, 2), (87, .ldc2_w 716, 3), (90, .lastore, 1), (91, .aload_n 0, 1), (92, .getfield 288, 3), (95, .istore_n 3, 1), (96, .iload_n 3, 1), (97, .aload_n 0, 1)]
set_option maxRecDepth 100000 in
theorem xi_ok407_3 : xi_ok cX12_nameAll xi_407_3 = true := by decide +kernel
def xi_407_4 : XIs := [(98, .getfield 288, 3), (101, .sipush 160, 3), (104, .iadd, 1), (105, .if_icmp .ge 171, 3), (108, .aload_n 0, 1), (109, .getfield 16, 3), (112, .iload_n 3, 1), (113, .baload, 1), (114, .ifCond .eq 23, 3), (117, .aload_n 0, 1), (118, .getfield 20, 3), (121, .iload_n 3, 1), (122, .iaload, 1), (123, .iload_n 1, 1), (124, .if_icmp .ne 13, 3), (127, .aload_n 0, 1)]
set_option maxRecDepth 100000 in
theorem xi_ok407_4 : xi_ok cX12_nameAll xi_407_4 = true := by decide +kernel
def xi_407_5 : XIs := [(128, .getfield 272, 3), (131, .iconst 3, 1), (132, .dup2, 1), (133, .laload, 1), (134, .lconst 1, 1), (135, .ladd, 1), (136, .lastore, 1), (137, .aload_n 0, 1), (138, .getfield 16, 3), (141, .iload_n 3, 1), (142, .baload, 1), (143, .ifCond .eq 127, 3), (146, .aload_n 0, 1), (147, .getfield 23, 3), (150, .iload_n 3, 1), (151, .iaload, 1)]
set_option maxRecDepth 100000 in
theorem xi_ok407_5 : xi_ok cX12_nameAll xi_407_5 = true := by decide +kernel
def xi_407_6 : XIs := [(152, .iload_n 1, 1), (153, .if_icmp .ne 117, 3), (156, .aload_n 0, 1), (157, .getfield 263, 3), (160, .aload_n 0, 1), (161, .getfield 20, 3), (164, .iload_n 3, 1), (165, .iaload, 1), (166, .laload, 1), (167, .lstore 4, 2), (169, .lload 4, 2), (171, .aload_n 0, 1), (172, .getfield 26, 3), (175, .iload_n 3, 1), (176, .iaload, 1), (177, .i2l, 1)]
set_option maxRecDepth 100000 in
theorem xi_ok407_6 : xi_ok cX12_nameAll xi_407_6 = true := by decide +kernel
def xi_407_7 : XIs := [(178, .ladd, 1), (179, .invokestatic 718, 3), (182, .lstore 6, 2), (184, .aload_n 0, 1), (185, .getfield 272, 3), (188, .iconst 4, 1), (189, .dup2, 1), (190, .laload, 1), (191, .lconst 1, 1), (192, .ladd, 1), (193, .lastore, 1), (194, .aload_n 0, 1), (195, .getfield 272, 3), (198, .bipush 6, 2), (200, .dup2, 1), (201, .laload, 1)]
set_option maxRecDepth 100000 in
theorem xi_ok407_7 : xi_ok cX12_nameAll xi_407_7 = true := by decide +kernel
def xi_407_8 : XIs := [(202, .lload 4, 2), (204, .ladd, 1), (205, .lastore, 1), (206, .aload_n 0, 1), (207, .getfield 272, 3), (210, .bipush 7, 2), (212, .lload 6, 2), (214, .aload_n 0, 1), (215, .getfield 272, 3), (218, .bipush 7, 2), (220, .laload, 1), (221, .lcmp, 1), (222, .ifCond .ge 8, 3), (225, .lload 6, 2), (227, .goto 10, 3), (230, .aload_n 0, 1)]
set_option maxRecDepth 100000 in
theorem xi_ok407_8 : xi_ok cX12_nameAll xi_407_8 = true := by decide +kernel
def xi_407_9 : XIs := [(231, .getfield 272, 3), (234, .bipush 7, 2), (236, .laload, 1), (237, .lastore, 1), (238, .aload_n 0, 1), (239, .getfield 272, 3), (242, .bipush 8, 2), (244, .lload 6, 2), (246, .aload_n 0, 1), (247, .getfield 272, 3), (250, .bipush 8, 2), (252, .laload, 1), (253, .lcmp, 1), (254, .ifCond .le 8, 3), (257, .lload 6, 2), (259, .goto 10, 3)]
set_option maxRecDepth 100000 in
theorem xi_ok407_9 : xi_ok cX12_nameAll xi_407_9 = true := by decide +kernel
def xi_407_10 : XIs := [(262, .aload_n 0, 1), (263, .getfield 272, 3), (266, .bipush 8, 2), (268, .laload, 1), (269, .lastore, 1), (270, .iinc 3 1, 3), (273, .goto (-177), 3), (276, .aload_n 0, 1), (277, .getfield 272, 3), (280, .bipush 6, 2), (282, .aload_n 0, 1), (283, .getfield 272, 3), (286, .bipush 6, 2), (288, .laload, 1), (289, .invokestatic 718, 3), (292, .lastore, 1)]
set_option maxRecDepth 100000 in
theorem xi_ok407_10 : xi_ok cX12_nameAll xi_407_10 = true := by decide +kernel
def xi_407_11 : XIs := [(293, .return_, 1)]
set_option maxRecDepth 100000 in
theorem xi_ok407_11 : xi_ok cX12_nameAll xi_407_11 = true := by decide +kernel
def xi_407 (pc : Nat) : XIs := cond (Nat.blt pc 152) (cond (Nat.blt pc 70) (cond (Nat.blt pc 24) (xi_407_0) (cond (Nat.blt pc 47) (xi_407_1) (xi_407_2))) (cond (Nat.blt pc 98) (xi_407_3) (cond (Nat.blt pc 128) (xi_407_4) (xi_407_5)))) (cond (Nat.blt pc 231) (cond (Nat.blt pc 178) (xi_407_6) (cond (Nat.blt pc 202) (xi_407_7) (xi_407_8))) (cond (Nat.blt pc 262) (xi_407_9) (cond (Nat.blt pc 293) (xi_407_10) (xi_407_11))))
theorem xi_ok407 (pc : Nat) : xi_ok cX12_nameAll (xi_407 pc) = true := xi_c (xi_c (xi_c (xi_ok407_0) (xi_c (xi_ok407_1) (xi_ok407_2))) (xi_c (xi_ok407_3) (xi_c (xi_ok407_4) (xi_ok407_5)))) (xi_c (xi_c (xi_ok407_6) (xi_c (xi_ok407_7) (xi_ok407_8))) (xi_c (xi_ok407_9) (xi_c (xi_ok407_10) (xi_ok407_11))))
def xi_408 (pc : Nat) : XIs := []
theorem xi_ok408 (pc : Nat) : xi_ok cX12_workOut (xi_408 pc) = true := rfl
def xi_409 (pc : Nat) : XIs := []
theorem xi_ok409 (pc : Nat) : xi_ok cX12_run (xi_409 pc) = true := rfl
def xi_410 (pc : Nat) : XIs := []
theorem xi_ok410 (pc : Nat) : xi_ok cX12_goesTo (xi_410 pc) = true := rfl
def xi_411 (pc : Nat) : XIs := []
theorem xi_ok411 (pc : Nat) : xi_ok cX12_send (xi_411 pc) = true := rfl
def xi_412_0 : XIs := [(0, .aload_n 0, 1), (1, .iload_n 1, 1), (2, .ifCond .lt 15, 3), (5, .iload_n 1, 1), (6, .aload_n 0, 1), (7, .getfield 729, 3), (10, .if_icmp .ge 7, 3), (13, .iconst 1, 1), (14, .goto 4, 3), (17, .iconst 0, 1), (18, .invokevirtual 334, 3), (21, .ifCond .eq 7, 3), (24, .lconst 0, 1), (25, .goto 9, 3), (28, .aload_n 0, 1), (29, .getfield 263, 3)]
set_option maxRecDepth 100000 in
theorem xi_ok412_0 : xi_ok cX12_state xi_412_0 = true := by decide +kernel
def xi_412_1 : XIs := [(32, .iload_n 1, 1), (33, .laload, 1), (34, .lreturn, 1)]
set_option maxRecDepth 100000 in
theorem xi_ok412_1 : xi_ok cX12_state xi_412_1 = true := by decide +kernel
def xi_412 (pc : Nat) : XIs := cond (Nat.blt pc 32) (xi_412_0) (xi_412_1)
theorem xi_ok412 (pc : Nat) : xi_ok cX12_state (xi_412 pc) = true := xi_c (xi_ok412_0) (xi_ok412_1)
def xi_413_0 : XIs := [(0, .aload_n 0, 1), (1, .iload_n 1, 1), (2, .i2l, 1), (3, .lconst 0, 1), (4, .ldc2_w 570, 3), (7, .invokestatic 308, 3), (10, .invokevirtual 334, 3), (13, .ifCond .eq 5, 3), (16, .iconst 0, 1), (17, .ireturn, 1), (18, .iload_n 1, 1), (19, .ifCond .ne 10, 3), (22, .aload_n 0, 1), (23, .getfield 732, 3), (26, .goto 19, 3), (29, .iload_n 1, 1)]
set_option maxRecDepth 100000 in
theorem xi_ok413_0 : xi_ok cX12_letters xi_413_0 = true := by decide +kernel
def xi_413_1 : XIs := [(30, .iconst 1, 1), (31, .if_icmp .ne 10, 3), (34, .aload_n 0, 1), (35, .getfield 735, 3), (38, .goto 7, 3), (41, .aload_n 0, 1), (42, .getfield 738, 3), (45, .ireturn, 1)]
set_option maxRecDepth 100000 in
theorem xi_ok413_1 : xi_ok cX12_letters xi_413_1 = true := by decide +kernel
def xi_413 (pc : Nat) : XIs := cond (Nat.blt pc 30) (xi_413_0) (xi_413_1)
theorem xi_ok413 (pc : Nat) : xi_ok cX12_letters (xi_413 pc) = true := xi_c (xi_ok413_0) (xi_ok413_1)
def xi_414_0 : XIs := [(0, .iload_n 0, 1), (1, .iload_n 0, 1), (2, .iconst 1, 1), (3, .iushr, 1), (4, .ldc_w 265, 3), (7, .iand, 1), (8, .isub, 1), (9, .istore_n 0, 1), (10, .iload_n 0, 1), (11, .ldc_w 266, 3), (14, .iand, 1), (15, .iload_n 0, 1), (16, .iconst 2, 1), (17, .iushr, 1), (18, .ldc_w 266, 3), (21, .iand, 1)]
set_option maxRecDepth 100000 in
theorem xi_ok414_0 : xi_ok cJ6_bitCount_0f7a4 xi_414_0 = true := by decide +kernel
def xi_414_1 : XIs := [(22, .iadd, 1), (23, .istore_n 0, 1), (24, .iload_n 0, 1), (25, .iload_n 0, 1), (26, .iconst 4, 1), (27, .iushr, 1), (28, .iadd, 1), (29, .ldc_w 267, 3), (32, .iand, 1), (33, .istore_n 0, 1), (34, .iload_n 0, 1), (35, .iload_n 0, 1), (36, .bipush 8, 2), (38, .iushr, 1), (39, .iadd, 1), (40, .istore_n 0, 1)]
set_option maxRecDepth 100000 in
theorem xi_ok414_1 : xi_ok cJ6_bitCount_0f7a4 xi_414_1 = true := by decide +kernel
def xi_414_2 : XIs := [(41, .iload_n 0, 1), (42, .iload_n 0, 1), (43, .bipush 16, 2), (45, .iushr, 1), (46, .iadd, 1), (47, .istore_n 0, 1), (48, .iload_n 0, 1), (49, .bipush 63, 2), (51, .iand, 1), (52, .ireturn, 1)]
set_option maxRecDepth 100000 in
theorem xi_ok414_2 : xi_ok cJ6_bitCount_0f7a4 xi_414_2 = true := by decide +kernel
def xi_414 (pc : Nat) : XIs := cond (Nat.blt pc 22) (xi_414_0) (cond (Nat.blt pc 41) (xi_414_1) (xi_414_2))
theorem xi_ok414 (pc : Nat) : xi_ok cJ6_bitCount_0f7a4 (xi_414 pc) = true := xi_c (xi_ok414_0) (xi_c (xi_ok414_1) (xi_ok414_2))
def xi_415_0 : XIs := [(0, .lload_n 0, 1), (1, .lload_n 0, 1), (2, .iconst 1, 1), (3, .lushr, 1), (4, .ldc2_w 314, 3), (7, .land, 1), (8, .lsub, 1), (9, .lstore_n 0, 1), (10, .lload_n 0, 1), (11, .ldc2_w 316, 3), (14, .land, 1), (15, .lload_n 0, 1), (16, .iconst 2, 1), (17, .lushr, 1), (18, .ldc2_w 316, 3), (21, .land, 1)]
set_option maxRecDepth 100000 in
theorem xi_ok415_0 : xi_ok cJ13_bitCount_95d88 xi_415_0 = true := by decide +kernel
def xi_415_1 : XIs := [(22, .ladd, 1), (23, .lstore_n 0, 1), (24, .lload_n 0, 1), (25, .lload_n 0, 1), (26, .iconst 4, 1), (27, .lushr, 1), (28, .ladd, 1), (29, .ldc2_w 318, 3), (32, .land, 1), (33, .lstore_n 0, 1), (34, .lload_n 0, 1), (35, .lload_n 0, 1), (36, .bipush 8, 2), (38, .lushr, 1), (39, .ladd, 1), (40, .lstore_n 0, 1)]
set_option maxRecDepth 100000 in
theorem xi_ok415_1 : xi_ok cJ13_bitCount_95d88 xi_415_1 = true := by decide +kernel
def xi_415_2 : XIs := [(41, .lload_n 0, 1), (42, .lload_n 0, 1), (43, .bipush 16, 2), (45, .lushr, 1), (46, .ladd, 1), (47, .lstore_n 0, 1), (48, .lload_n 0, 1), (49, .lload_n 0, 1), (50, .bipush 32, 2), (52, .lushr, 1), (53, .ladd, 1), (54, .lstore_n 0, 1), (55, .lload_n 0, 1), (56, .l2i, 1), (57, .bipush 127, 2), (59, .iand, 1)]
set_option maxRecDepth 100000 in
theorem xi_ok415_2 : xi_ok cJ13_bitCount_95d88 xi_415_2 = true := by decide +kernel
def xi_415_3 : XIs := [(60, .ireturn, 1)]
set_option maxRecDepth 100000 in
theorem xi_ok415_3 : xi_ok cJ13_bitCount_95d88 xi_415_3 = true := by decide +kernel
def xi_415 (pc : Nat) : XIs := cond (Nat.blt pc 41) (cond (Nat.blt pc 22) (xi_415_0) (xi_415_1)) (cond (Nat.blt pc 60) (xi_415_2) (xi_415_3))
theorem xi_ok415 (pc : Nat) : xi_ok cJ13_bitCount_95d88 (xi_415 pc) = true := xi_c (xi_c (xi_ok415_0) (xi_ok415_1)) (xi_c (xi_ok415_2) (xi_ok415_3))
def xi_416_0 : XIs := [(0, .lload_n 0, 1), (1, .lload_n 2, 1), (2, .ldiv, 1), (3, .lstore 4, 2), (5, .lload_n 0, 1), (6, .lload_n 2, 1), (7, .lxor, 1), (8, .lconst 0, 1), (9, .lcmp, 1), (10, .ifCond .ge 17, 3), (13, .lload 4, 2), (15, .lload_n 2, 1), (16, .lmul, 1), (17, .lload_n 0, 1), (18, .lcmp, 1), (19, .ifCond .eq 8, 3)]
set_option maxRecDepth 100000 in
theorem xi_ok416_0 : xi_ok cJ9_floorDiv_f86c9 xi_416_0 = true := by decide +kernel
def xi_416_1 : XIs := [(22, .lload 4, 2), (24, .lconst 1, 1), (25, .lsub, 1), (26, .lreturn, 1), (27, .lload 4, 2), (29, .lreturn, 1)]
set_option maxRecDepth 100000 in
theorem xi_ok416_1 : xi_ok cJ9_floorDiv_f86c9 xi_416_1 = true := by decide +kernel
def xi_416 (pc : Nat) : XIs := cond (Nat.blt pc 22) (xi_416_0) (xi_416_1)
theorem xi_ok416 (pc : Nat) : xi_ok cJ9_floorDiv_f86c9 (xi_416 pc) = true := xi_c (xi_ok416_0) (xi_ok416_1)
def xi_417_0 : XIs := [(0, .lload_n 0, 1), (1, .lload_n 2, 1), (2, .lrem, 1), (3, .lstore 4, 2), (5, .lload_n 0, 1), (6, .lload_n 2, 1), (7, .lxor, 1), (8, .lconst 0, 1), (9, .lcmp, 1), (10, .ifCond .ge 15, 3), (13, .lload 4, 2), (15, .lconst 0, 1), (16, .lcmp, 1), (17, .ifCond .eq 8, 3), (20, .lload 4, 2), (22, .lload_n 2, 1)]
set_option maxRecDepth 100000 in
theorem xi_ok417_0 : xi_ok cJ9_floorMod_f86c9 xi_417_0 = true := by decide +kernel
def xi_417_1 : XIs := [(23, .ladd, 1), (24, .lreturn, 1), (25, .lload 4, 2), (27, .lreturn, 1)]
set_option maxRecDepth 100000 in
theorem xi_ok417_1 : xi_ok cJ9_floorMod_f86c9 xi_417_1 = true := by decide +kernel
def xi_417 (pc : Nat) : XIs := cond (Nat.blt pc 23) (xi_417_0) (xi_417_1)
theorem xi_ok417 (pc : Nat) : xi_ok cJ9_floorMod_f86c9 (xi_417 pc) = true := xi_c (xi_ok417_0) (xi_ok417_1)
def xi_418_0 : XIs := [(0, .iload_n 0, 1), (1, .ifCond .ge 8, 3), (4, .iload_n 0, 1), (5, .ineg, 1), (6, .goto 4, 3), (9, .iload_n 0, 1), (10, .ireturn, 1)]
set_option maxRecDepth 100000 in
theorem xi_ok418_0 : xi_ok cJ9_abs_0f7a4 xi_418_0 = true := by decide +kernel
def xi_418 (pc : Nat) : XIs := xi_418_0
theorem xi_ok418 (pc : Nat) : xi_ok cJ9_abs_0f7a4 (xi_418 pc) = true := xi_ok418_0
def xi_419_0 : XIs := [(0, .lload_n 0, 1), (1, .lconst 0, 1), (2, .lcmp, 1), (3, .ifCond .ge 8, 3), (6, .lload_n 0, 1), (7, .lneg, 1), (8, .goto 4, 3), (11, .lload_n 0, 1), (12, .lreturn, 1)]
set_option maxRecDepth 100000 in
theorem xi_ok419_0 : xi_ok cJ9_abs_067f4 xi_419_0 = true := by decide +kernel
def xi_419 (pc : Nat) : XIs := xi_419_0
theorem xi_ok419 (pc : Nat) : xi_ok cJ9_abs_067f4 (xi_419 pc) = true := xi_ok419_0
def xi_420_0 : XIs := [(0, .iload_n 0, 1), (1, .iload_n 1, 1), (2, .if_icmp .lt 7, 3), (5, .iload_n 0, 1), (6, .goto 4, 3), (9, .iload_n 1, 1), (10, .ireturn, 1)]
set_option maxRecDepth 100000 in
theorem xi_ok420_0 : xi_ok cJ9_max_7cf53 xi_420_0 = true := by decide +kernel
def xi_420 (pc : Nat) : XIs := xi_420_0
theorem xi_ok420 (pc : Nat) : xi_ok cJ9_max_7cf53 (xi_420 pc) = true := xi_ok420_0
def xi_421_0 : XIs := [(0, .lload_n 0, 1), (1, .lload_n 2, 1), (2, .lcmp, 1), (3, .ifCond .lt 7, 3), (6, .lload_n 0, 1), (7, .goto 4, 3), (10, .lload_n 2, 1), (11, .lreturn, 1)]
set_option maxRecDepth 100000 in
theorem xi_ok421_0 : xi_ok cJ9_max_f86c9 xi_421_0 = true := by decide +kernel
def xi_421 (pc : Nat) : XIs := xi_421_0
theorem xi_ok421 (pc : Nat) : xi_ok cJ9_max_f86c9 (xi_421 pc) = true := xi_ok421_0
def xi_422_0 : XIs := [(0, .iload_n 0, 1), (1, .iload_n 1, 1), (2, .if_icmp .gt 7, 3), (5, .iload_n 0, 1), (6, .goto 4, 3), (9, .iload_n 1, 1), (10, .ireturn, 1)]
set_option maxRecDepth 100000 in
theorem xi_ok422_0 : xi_ok cJ9_min_7cf53 xi_422_0 = true := by decide +kernel
def xi_422 (pc : Nat) : XIs := xi_422_0
theorem xi_ok422 (pc : Nat) : xi_ok cJ9_min_7cf53 (xi_422 pc) = true := xi_ok422_0
def xi_423_0 : XIs := [(0, .lload_n 0, 1), (1, .lload_n 2, 1), (2, .lcmp, 1), (3, .ifCond .gt 7, 3), (6, .lload_n 0, 1), (7, .goto 4, 3), (10, .lload_n 2, 1), (11, .lreturn, 1)]
set_option maxRecDepth 100000 in
theorem xi_ok423_0 : xi_ok cJ9_min_f86c9 xi_423_0 = true := by decide +kernel
def xi_423 (pc : Nat) : XIs := xi_423_0
theorem xi_ok423 (pc : Nat) : xi_ok cJ9_min_f86c9 (xi_423 pc) = true := xi_ok423_0
def xi_424_0 : XIs := [(0, .iconst 0, 1), (1, .istore_n 3, 1), (2, .aload_n 0, 1), (3, .arraylength, 1), (4, .istore 4, 2), (6, .iload_n 3, 1), (7, .iload 4, 2), (9, .if_icmp .ge 13, 3), (12, .aload_n 0, 1), (13, .iload_n 3, 1), (14, .lload_n 1, 1), (15, .lastore, 1), (16, .iinc 3 1, 3), (19, .goto (-13), 3), (22, .return_, 1)]
set_option maxRecDepth 100000 in
theorem xi_ok424_0 : xi_ok cJ7_fill_d0a16 xi_424_0 = true := by decide +kernel
def xi_424 (pc : Nat) : XIs := xi_424_0
theorem xi_ok424 (pc : Nat) : xi_ok cJ7_fill_d0a16 (xi_424 pc) = true := xi_ok424_0
def xi_425_0 : XIs := [(0, .iconst 0, 1), (1, .istore_n 2, 1), (2, .aload_n 0, 1), (3, .arraylength, 1), (4, .istore_n 3, 1), (5, .iload_n 2, 1), (6, .iload_n 3, 1), (7, .if_icmp .ge 13, 3), (10, .aload_n 0, 1), (11, .iload_n 2, 1), (12, .iload_n 1, 1), (13, .iastore, 1), (14, .iinc 2 1, 3), (17, .goto (-12), 3), (20, .return_, 1)]
set_option maxRecDepth 100000 in
theorem xi_ok425_0 : xi_ok cJ7_fill_53178 xi_425_0 = true := by decide +kernel
def xi_425 (pc : Nat) : XIs := xi_425_0
theorem xi_ok425 (pc : Nat) : xi_ok cJ7_fill_53178 (xi_425 pc) = true := xi_ok425_0
