def xi_289_3 : XIs := [(81, .getfield 288, 3), (84, .iload 5, 2), (86, .iadd, 1), (87, .baload, 1), (88, .ifCond .eq 8, 3), (91, .iload 5, 2), (93, .goto 5, 3), (96, .iload 4, 2), (98, .istore 4, 2), (100, .iinc 5 1, 3), (103, .goto (-75), 3), (106, .iload_n 1, 1), (107, .ifCond .ne 10, 3), (110, .aload_n 0, 1), (111, .getfield 285, 3), (114, .goto 23, 3)]
set_option maxRecDepth 100000 in
theorem xi_ok289_3 : xi_ok cX12_size xi_289_3 = true := by decide +kernel
def xi_289_4 : XIs := [(117, .iload_n 1, 1), (118, .iconst 1, 1), (119, .if_icmp .ne 7, 3), (122, .iload_n 2, 1), (123, .goto 14, 3), (126, .iload_n 1, 1), (127, .iconst 2, 1), (128, .if_icmp .ne 7, 3), (131, .iload_n 3, 1), (132, .goto 5, 3), (135, .iload 4, 2), (137, .ireturn, 1)]
set_option maxRecDepth 100000 in
theorem xi_ok289_4 : xi_ok cX12_size xi_289_4 = true := by decide +kernel
def xi_289 (pc : Nat) : XIs := cond (Nat.blt pc 56) (cond (Nat.blt pc 25) (xi_289_0) (xi_289_1)) (cond (Nat.blt pc 81) (xi_289_2) (cond (Nat.blt pc 117) (xi_289_3) (xi_289_4)))
theorem xi_ok289 (pc : Nat) : xi_ok cX12_size (xi_289 pc) = true := xi_c (xi_c (xi_ok289_0) (xi_ok289_1)) (xi_c (xi_ok289_2) (xi_c (xi_ok289_3) (xi_ok289_4)))
def xi_290_0 : XIs := [(0, .aload_n 0, 1), (1, .iload_n 1, 1), (2, .i2l, 1), (3, .lconst 0, 1), (4, .ldc2_w 343, 3), (7, .invokestatic 308, 3), (10, .ifCond .eq 19, 3), (13, .iload_n 2, 1), (14, .i2l, 1), (15, .lconst 0, 1), (16, .ldc2_w 345, 3), (19, .invokestatic 308, 3), (22, .ifCond .eq 7, 3), (25, .iconst 1, 1), (26, .goto 4, 3), (29, .iconst 0, 1)]
set_option maxRecDepth 100000 in
theorem xi_ok290_0 : xi_ok cX12_told xi_290_0 = true := by decide +kernel
def xi_290_1 : XIs := [(30, .invokevirtual 334, 3), (33, .ifCond .eq 5, 3), (36, .lconst 0, 1), (37, .lreturn, 1), (38, .aload_n 0, 1), (39, .getfield 288, 3), (42, .iload_n 1, 1), (43, .iadd, 1), (44, .istore_n 3, 1), (45, .aload_n 0, 1), (46, .getfield 16, 3), (49, .iload_n 3, 1), (50, .baload, 1), (51, .ifCond .ne 7, 3), (54, .ldc2_w 347, 3), (57, .lreturn, 1)]
set_option maxRecDepth 100000 in
theorem xi_ok290_1 : xi_ok cX12_told xi_290_1 = true := by decide +kernel
def xi_290_2 : XIs := [(58, .iload_n 2, 1), (59, .ifCond .ne 13, 3), (62, .aload_n 0, 1), (63, .getfield 20, 3), (66, .iload_n 3, 1), (67, .iaload, 1), (68, .i2l, 1), (69, .goto 55, 3), (72, .iload_n 2, 1), (73, .iconst 1, 1), (74, .if_icmp .ne 13, 3), (77, .aload_n 0, 1), (78, .getfield 23, 3), (81, .iload_n 3, 1), (82, .iaload, 1), (83, .i2l, 1)]
set_option maxRecDepth 100000 in
theorem xi_ok290_2 : xi_ok cX12_told xi_290_2 = true := by decide +kernel
def xi_290_3 : XIs := [(84, .goto 40, 3), (87, .iload_n 2, 1), (88, .iconst 2, 1), (89, .if_icmp .ne 13, 3), (92, .aload_n 0, 1), (93, .getfield 26, 3), (96, .iload_n 3, 1), (97, .iaload, 1), (98, .i2l, 1), (99, .goto 25, 3), (102, .iload_n 2, 1), (103, .iconst 3, 1), (104, .if_icmp .ne 13, 3), (107, .aload_n 0, 1), (108, .getfield 29, 3), (111, .iload_n 3, 1)]
set_option maxRecDepth 100000 in
theorem xi_ok290_3 : xi_ok cX12_told xi_290_3 = true := by decide +kernel
def xi_290_4 : XIs := [(112, .iaload, 1), (113, .i2l, 1), (114, .goto 10, 3), (117, .aload_n 0, 1), (118, .getfield 32, 3), (121, .iload_n 3, 1), (122, .iaload, 1), (123, .i2l, 1), (124, .lreturn, 1)]
set_option maxRecDepth 100000 in
theorem xi_ok290_4 : xi_ok cX12_told xi_290_4 = true := by decide +kernel
def xi_290 (pc : Nat) : XIs := cond (Nat.blt pc 58) (cond (Nat.blt pc 30) (xi_290_0) (xi_290_1)) (cond (Nat.blt pc 84) (xi_290_2) (cond (Nat.blt pc 112) (xi_290_3) (xi_290_4)))
theorem xi_ok290 (pc : Nat) : xi_ok cX12_told (xi_290 pc) = true := xi_c (xi_c (xi_ok290_0) (xi_ok290_1)) (xi_c (xi_ok290_2) (xi_c (xi_ok290_3) (xi_ok290_4)))
def xi_291_0 : XIs := [(0, .aload_n 0, 1), (1, .aload_n 0, 1), (2, .iload_n 1, 1), (3, .invokevirtual 349, 3), (6, .invokevirtual 334, 3), (9, .ifCond .eq 7, 3), (12, .iconst 0, 1), (13, .goto 17, 3), (16, .aload_n 0, 1), (17, .getfield 13, 3), (20, .bipush 32, 2), (22, .aload_n 0, 1), (23, .getfield 301, 3), (26, .imul, 1), (27, .iload_n 1, 1), (28, .iadd, 1)]
set_option maxRecDepth 100000 in
theorem xi_ok291_0 : xi_ok cX12_labelOf xi_291_0 = true := by decide +kernel
def xi_291_1 : XIs := [(29, .iaload, 1), (30, .ireturn, 1)]
set_option maxRecDepth 100000 in
theorem xi_ok291_1 : xi_ok cX12_labelOf xi_291_1 = true := by decide +kernel
def xi_291 (pc : Nat) : XIs := cond (Nat.blt pc 29) (xi_291_0) (xi_291_1)
theorem xi_ok291 (pc : Nat) : xi_ok cX12_labelOf (xi_291 pc) = true := xi_c (xi_ok291_0) (xi_ok291_1)
def xi_292_0 : XIs := [(0, .aload_n 0, 1), (1, .aload_n 0, 1), (2, .iload_n 1, 1), (3, .invokevirtual 349, 3), (6, .ifCond .eq 21, 3), (9, .iload_n 2, 1), (10, .i2l, 1), (11, .lconst 0, 1), (12, .lconst 1, 1), (13, .invokestatic 308, 3), (16, .ifCond .eq 11, 3), (19, .iload_n 3, 1), (20, .ifCond .lt 7, 3), (23, .iconst 1, 1), (24, .goto 4, 3), (27, .iconst 0, 1)]
set_option maxRecDepth 100000 in
theorem xi_ok292_0 : xi_ok cX12_arcAt xi_292_0 = true := by decide +kernel
def xi_292_1 : XIs := [(28, .invokevirtual 334, 3), (31, .ifCond .eq 5, 3), (34, .iconst 0, 1), (35, .ireturn, 1), (36, .iconst 0, 1), (37, .istore 4, 2), (39, .iconst 0, 1), (40, .istore 5, 2), (42, .iload 5, 2), (44, .sipush 160, 3), (47, .if_icmp .ge 71, 3), (50, .aload_n 0, 1), (51, .getfield 16, 3), (54, .aload_n 0, 1), (55, .getfield 288, 3), (58, .iload 5, 2)]
set_option maxRecDepth 100000 in
theorem xi_ok292_1 : xi_ok cX12_arcAt xi_292_1 = true := by decide +kernel
def xi_292_2 : XIs := [(60, .iadd, 1), (61, .baload, 1), (62, .ifCond .eq 50, 3), (65, .iload_n 2, 1), (66, .ifCond .ne 18, 3), (69, .aload_n 0, 1), (70, .getfield 20, 3), (73, .aload_n 0, 1), (74, .getfield 288, 3), (77, .iload 5, 2), (79, .iadd, 1), (80, .iaload, 1), (81, .goto 15, 3), (84, .aload_n 0, 1), (85, .getfield 23, 3), (88, .aload_n 0, 1)]
set_option maxRecDepth 100000 in
theorem xi_ok292_2 : xi_ok cX12_arcAt xi_292_2 = true := by decide +kernel
def xi_292_3 : XIs := [(89, .getfield 288, 3), (92, .iload 5, 2), (94, .iadd, 1), (95, .iaload, 1), (96, .iload_n 1, 1), (97, .if_icmp .ne 15, 3), (100, .iload 4, 2), (102, .iload_n 3, 1), (103, .if_icmp .ne 6, 3), (106, .iload 5, 2), (108, .ireturn, 1), (109, .iinc 4 1, 3), (112, .iinc 5 1, 3), (115, .goto (-73), 3), (118, .iconst (-1), 1), (119, .ireturn, 1)]
set_option maxRecDepth 100000 in
theorem xi_ok292_3 : xi_ok cX12_arcAt xi_292_3 = true := by decide +kernel
def xi_292 (pc : Nat) : XIs := cond (Nat.blt pc 60) (cond (Nat.blt pc 28) (xi_292_0) (xi_292_1)) (cond (Nat.blt pc 89) (xi_292_2) (xi_292_3))
theorem xi_ok292 (pc : Nat) : xi_ok cX12_arcAt (xi_292 pc) = true := xi_c (xi_c (xi_ok292_0) (xi_ok292_1)) (xi_c (xi_ok292_2) (xi_ok292_3))
def xi_293_0 : XIs := [(0, .aload_n 0, 1), (1, .iload_n 1, 1), (2, .i2l, 1), (3, .ldc2_w 352, 3), (6, .ldc2_w 354, 3), (9, .invokestatic 308, 3), (12, .aload_n 0, 1), (13, .getfield 356, 3), (16, .sipush 1000, 3), (19, .if_icmp .ge 7, 3), (22, .iconst 1, 1), (23, .goto 4, 3), (26, .iconst 0, 1), (27, .invokevirtual 281, 3), (30, .ifCond .eq 5, 3), (33, .iconst 0, 1)]
set_option maxRecDepth 100000 in
theorem xi_ok293_0 : xi_ok cX12_type xi_293_0 = true := by decide +kernel
def xi_293_1 : XIs := [(34, .ireturn, 1), (35, .aload_n 0, 1), (36, .getfield 60, 3), (39, .aload_n 0, 1), (40, .getfield 356, 3), (43, .iload_n 1, 1), (44, .iastore, 1), (45, .aload_n 0, 1), (46, .dup, 1), (47, .getfield 356, 3), (50, .iconst 1, 1), (51, .iadd, 1), (52, .putfield 356, 3), (55, .aload_n 0, 1), (56, .getfield 356, 3), (59, .ireturn, 1)]
set_option maxRecDepth 100000 in
theorem xi_ok293_1 : xi_ok cX12_type xi_293_1 = true := by decide +kernel
def xi_293 (pc : Nat) : XIs := cond (Nat.blt pc 34) (xi_293_0) (xi_293_1)
theorem xi_ok293 (pc : Nat) : xi_ok cX12_type (xi_293 pc) = true := xi_c (xi_ok293_0) (xi_ok293_1)
def xi_294_0 : XIs := [(0, .aload_n 0, 1), (1, .iconst 0, 1), (2, .putfield 278, 3), (5, .aload_n 0, 1), (6, .getfield 356, 3), (9, .istore_n 1, 1), (10, .aload_n 0, 1), (11, .iconst 0, 1), (12, .putfield 356, 3), (15, .iload_n 1, 1), (16, .ireturn, 1)]
set_option maxRecDepth 100000 in
theorem xi_ok294_0 : xi_ok cX12_wipe xi_294_0 = true := by decide +kernel
def xi_294 (pc : Nat) : XIs := xi_294_0
theorem xi_ok294 (pc : Nat) : xi_ok cX12_wipe (xi_294 pc) = true := xi_ok294_0
def xi_295_0 : XIs := [(0, .aload_n 0, 1), (1, .iload_n 1, 1), (2, .i2l, 1), (3, .lconst 0, 1), (4, .lconst 1, 1), (5, .invokestatic 308, 3), (8, .invokevirtual 334, 3), (11, .ifCond .eq 5, 3), (14, .iconst 0, 1), (15, .ireturn, 1), (16, .aload_n 0, 1), (17, .getfield 359, 3), (20, .ifCond .ne 7, 3), (23, .iconst (-1), 1), (24, .goto 18, 3), (27, .iload_n 1, 1)]
set_option maxRecDepth 100000 in
theorem xi_ok295_0 : xi_ok cX12_fault xi_295_0 = true := by decide +kernel
def xi_295_1 : XIs := [(28, .ifCond .ne 10, 3), (31, .aload_n 0, 1), (32, .getfield 359, 3), (35, .goto 7, 3), (38, .aload_n 0, 1), (39, .getfield 362, 3), (42, .ireturn, 1)]
set_option maxRecDepth 100000 in
theorem xi_ok295_1 : xi_ok cX12_fault xi_295_1 = true := by decide +kernel
def xi_295 (pc : Nat) : XIs := cond (Nat.blt pc 28) (xi_295_0) (xi_295_1)
theorem xi_ok295 (pc : Nat) : xi_ok cX12_fault (xi_295 pc) = true := xi_c (xi_ok295_0) (xi_ok295_1)
def xi_296_0 : XIs := [(0, .iload_n 0, 1), (1, .bipush 97, 2), (3, .if_icmp .lt 13, 3), (6, .iload_n 0, 1), (7, .bipush 122, 2), (9, .if_icmp .gt 7, 3), (12, .iconst 1, 1), (13, .goto 4, 3), (16, .iconst 0, 1), (17, .ireturn, 1)]
set_option maxRecDepth 100000 in
theorem xi_ok296_0 : xi_ok cX12_isLetter xi_296_0 = true := by decide +kernel
def xi_296 (pc : Nat) : XIs := xi_296_0
theorem xi_ok296 (pc : Nat) : xi_ok cX12_isLetter (xi_296 pc) = true := xi_ok296_0
def xi_297_0 : XIs := [(0, .iload_n 0, 1), (1, .bipush 48, 2), (3, .if_icmp .lt 13, 3), (6, .iload_n 0, 1), (7, .bipush 57, 2), (9, .if_icmp .gt 7, 3), (12, .iconst 1, 1), (13, .goto 4, 3), (16, .iconst 0, 1), (17, .ireturn, 1)]
set_option maxRecDepth 100000 in
theorem xi_ok297_0 : xi_ok cX12_isDigit xi_297_0 = true := by decide +kernel
def xi_297 (pc : Nat) : XIs := xi_297_0
theorem xi_ok297 (pc : Nat) : xi_ok cX12_isDigit (xi_297 pc) = true := xi_ok297_0
def xi_298_0 : XIs := [(0, .aload_n 0, 1), (1, .getfield 359, 3), (4, .ifCond .ne 13, 3), (7, .aload_n 0, 1), (8, .iload_n 1, 1), (9, .putfield 359, 3), (12, .aload_n 0, 1), (13, .iload_n 2, 1), (14, .putfield 362, 3), (17, .return_, 1)]
set_option maxRecDepth 100000 in
theorem xi_ok298_0 : xi_ok cX12_blame xi_298_0 = true := by decide +kernel
def xi_298 (pc : Nat) : XIs := xi_298_0
theorem xi_ok298 (pc : Nat) : xi_ok cX12_blame (xi_298 pc) = true := xi_ok298_0
def xi_299_0 : XIs := [(0, .aload_n 0, 1), (1, .getfield 365, 3), (4, .aload_n 0, 1), (5, .getfield 356, 3), (8, .if_icmp .ge 30, 3), (11, .aload_n 0, 1), (12, .getfield 60, 3), (15, .aload_n 0, 1), (16, .getfield 365, 3), (19, .iaload, 1), (20, .bipush 32, 2), (22, .if_icmp .ne 16, 3), (25, .aload_n 0, 1), (26, .dup, 1), (27, .getfield 365, 3), (30, .iconst 1, 1)]
set_option maxRecDepth 100000 in
theorem xi_ok299_0 : xi_ok cX12_nextToken xi_299_0 = true := by decide +kernel
def xi_299_1 : XIs := [(31, .iadd, 1), (32, .putfield 365, 3), (35, .goto (-35), 3), (38, .aload_n 0, 1), (39, .aload_n 0, 1), (40, .getfield 365, 3), (43, .putfield 368, 3), (46, .aload_n 0, 1), (47, .getfield 365, 3), (50, .aload_n 0, 1), (51, .getfield 356, 3), (54, .if_icmp .ne 9, 3), (57, .aload_n 0, 1), (58, .iconst 0, 1), (59, .putfield 371, 3), (62, .return_, 1)]
set_option maxRecDepth 100000 in
theorem xi_ok299_1 : xi_ok cX12_nextToken xi_299_1 = true := by decide +kernel
def xi_299_2 : XIs := [(63, .aload_n 0, 1), (64, .getfield 60, 3), (67, .aload_n 0, 1), (68, .getfield 365, 3), (71, .iaload, 1), (72, .istore_n 1, 1), (73, .aload_n 0, 1), (74, .iload_n 1, 1), (75, .putfield 374, 3), (78, .iload_n 1, 1), (79, .bipush 45, 2), (81, .if_icmp .ne 37, 3), (84, .aload_n 0, 1), (85, .getfield 365, 3), (88, .iconst 1, 1), (89, .iadd, 1)]
set_option maxRecDepth 100000 in
theorem xi_ok299_2 : xi_ok cX12_nextToken xi_299_2 = true := by decide +kernel
def xi_299_3 : XIs := [(90, .aload_n 0, 1), (91, .getfield 356, 3), (94, .if_icmp .ge 24, 3), (97, .aload_n 0, 1), (98, .getfield 60, 3), (101, .aload_n 0, 1), (102, .getfield 365, 3), (105, .iconst 1, 1), (106, .iadd, 1), (107, .iaload, 1), (108, .invokestatic 377, 3), (111, .ifCond .eq 7, 3), (114, .iconst 1, 1), (115, .goto 4, 3), (118, .iconst 0, 1), (119, .istore_n 2, 1)]
set_option maxRecDepth 100000 in
theorem xi_ok299_3 : xi_ok cX12_nextToken xi_299_3 = true := by decide +kernel
def xi_299_4 : XIs := [(120, .iload_n 1, 1), (121, .invokestatic 377, 3), (124, .ifCond .ne 7, 3), (127, .iload_n 2, 1), (128, .ifCond .eq 53, 3), (131, .aload_n 0, 1), (132, .iconst 2, 1), (133, .putfield 371, 3), (136, .aload_n 0, 1), (137, .dup, 1), (138, .getfield 365, 3), (141, .iload_n 2, 1), (142, .ifCond .eq 7, 3), (145, .iconst 1, 1), (146, .goto 4, 3), (149, .iconst 0, 1)]
set_option maxRecDepth 100000 in
theorem xi_ok299_4 : xi_ok cX12_nextToken xi_299_4 = true := by decide +kernel
def xi_299_5 : XIs := [(150, .iadd, 1), (151, .putfield 365, 3), (154, .aload_n 0, 1), (155, .bipush 7, 2), (157, .invokevirtual 380, 3), (160, .aload_n 0, 1), (161, .iload_n 2, 1), (162, .ifCond .eq 11, 3), (165, .aload_n 0, 1), (166, .getfield 384, 3), (169, .lneg, 1), (170, .goto 7, 3), (173, .aload_n 0, 1), (174, .getfield 384, 3), (177, .putfield 384, 3), (180, .return_, 1)]
set_option maxRecDepth 100000 in
theorem xi_ok299_5 : xi_ok cX12_nextToken xi_299_5 = true := by decide +kernel
def xi_299_6 : XIs := [(181, .aload_n 0, 1), (182, .iload_n 1, 1), (183, .invokestatic 388, 3), (186, .ifCond .eq 7, 3), (189, .iconst 1, 1), (190, .goto 4, 3), (193, .iconst 3, 1), (194, .putfield 371, 3), (197, .aload_n 0, 1), (198, .getfield 371, 3), (201, .iconst 3, 1), (202, .if_icmp .ne 18, 3), (205, .iload_n 1, 1), (206, .bipush 59, 2), (208, .if_icmp .eq 12, 3), (211, .aload_n 0, 1)]
set_option maxRecDepth 100000 in
theorem xi_ok299_6 : xi_ok cX12_nextToken xi_299_6 = true := by decide +kernel
def xi_299_7 : XIs := [(212, .iconst 1, 1), (213, .aload_n 0, 1), (214, .getfield 368, 3), (217, .invokevirtual 391, 3), (220, .aload_n 0, 1), (221, .dup, 1), (222, .getfield 365, 3), (225, .iconst 1, 1), (226, .iadd, 1), (227, .putfield 365, 3), (230, .return_, 1)]
set_option maxRecDepth 100000 in
theorem xi_ok299_7 : xi_ok cX12_nextToken xi_299_7 = true := by decide +kernel
def xi_299 (pc : Nat) : XIs := cond (Nat.blt pc 120) (cond (Nat.blt pc 63) (cond (Nat.blt pc 31) (xi_299_0) (xi_299_1)) (cond (Nat.blt pc 90) (xi_299_2) (xi_299_3))) (cond (Nat.blt pc 181) (cond (Nat.blt pc 150) (xi_299_4) (xi_299_5)) (cond (Nat.blt pc 212) (xi_299_6) (xi_299_7)))
theorem xi_ok299 (pc : Nat) : xi_ok cX12_nextToken (xi_299 pc) = true := xi_c (xi_c (xi_c (xi_ok299_0) (xi_ok299_1)) (xi_c (xi_ok299_2) (xi_ok299_3))) (xi_c (xi_c (xi_ok299_4) (xi_ok299_5)) (xi_c (xi_ok299_6) (xi_ok299_7)))
def xi_300_0 : XIs := [(0, .aload_n 0, 1), (1, .getfield 365, 3), (4, .istore_n 2, 1), (5, .aload_n 0, 1), (6, .lconst 0, 1), (7, .putfield 384, 3), (10, .aload_n 0, 1), (11, .getfield 365, 3), (14, .aload_n 0, 1), (15, .getfield 356, 3), (18, .if_icmp .ge 75, 3), (21, .aload_n 0, 1), (22, .getfield 60, 3), (25, .aload_n 0, 1), (26, .getfield 365, 3), (29, .iaload, 1)]
set_option maxRecDepth 100000 in
theorem xi_ok300_0 : xi_ok cX12_readNumber xi_300_0 = true := by decide +kernel
def xi_300_1 : XIs := [(30, .invokestatic 377, 3), (33, .ifCond .eq 60, 3), (36, .aload_n 0, 1), (37, .aload_n 0, 1), (38, .getfield 365, 3), (41, .iload_n 2, 1), (42, .isub, 1), (43, .iload_n 1, 1), (44, .if_icmp .ge 29, 3), (47, .ldc2_w 394, 3), (50, .aload_n 0, 1), (51, .getfield 384, 3), (54, .lmul, 1), (55, .aload_n 0, 1), (56, .getfield 60, 3), (59, .aload_n 0, 1)]
set_option maxRecDepth 100000 in
theorem xi_ok300_1 : xi_ok cX12_readNumber xi_300_1 = true := by decide +kernel
def xi_300_2 : XIs := [(60, .getfield 365, 3), (63, .iaload, 1), (64, .i2l, 1), (65, .ladd, 1), (66, .ldc2_w 396, 3), (69, .lsub, 1), (70, .goto 7, 3), (73, .aload_n 0, 1), (74, .getfield 384, 3), (77, .putfield 384, 3), (80, .aload_n 0, 1), (81, .dup, 1), (82, .getfield 365, 3), (85, .iconst 1, 1), (86, .iadd, 1), (87, .putfield 365, 3)]
set_option maxRecDepth 100000 in
theorem xi_ok300_2 : xi_ok cX12_readNumber xi_300_2 = true := by decide +kernel
def xi_300_3 : XIs := [(90, .goto (-80), 3), (93, .aload_n 0, 1), (94, .getfield 365, 3), (97, .iload_n 2, 1), (98, .isub, 1), (99, .iload_n 1, 1), (100, .if_icmp .le 22, 3), (103, .aload_n 0, 1), (104, .iload_n 1, 1), (105, .bipush 7, 2), (107, .if_icmp .ne 7, 3), (110, .iconst 3, 1), (111, .goto 4, 3), (114, .iconst 4, 1), (115, .aload_n 0, 1), (116, .getfield 368, 3)]
set_option maxRecDepth 100000 in
theorem xi_ok300_3 : xi_ok cX12_readNumber xi_300_3 = true := by decide +kernel
def xi_300_4 : XIs := [(119, .invokevirtual 391, 3), (122, .return_, 1)]
set_option maxRecDepth 100000 in
theorem xi_ok300_4 : xi_ok cX12_readNumber xi_300_4 = true := by decide +kernel
def xi_300 (pc : Nat) : XIs := cond (Nat.blt pc 60) (cond (Nat.blt pc 30) (xi_300_0) (xi_300_1)) (cond (Nat.blt pc 90) (xi_300_2) (cond (Nat.blt pc 119) (xi_300_3) (xi_300_4)))
theorem xi_ok300 (pc : Nat) : xi_ok cX12_readNumber (xi_300 pc) = true := xi_c (xi_c (xi_ok300_0) (xi_ok300_1)) (xi_c (xi_ok300_2) (xi_c (xi_ok300_3) (xi_ok300_4)))
def xi_301_0 : XIs := [(0, .iload_n 1, 1), (1, .lookupswitch 76 #[(97, 45), (110, 35), (116, 65)], 35), (36, .iload_n 2, 1), (37, .ifCond .ne 7, 3), (40, .iconst 1, 1), (41, .goto 4, 3), (44, .iconst 3, 1), (45, .ireturn, 1), (46, .iload_n 2, 1), (47, .iconst 4, 1), (48, .if_icmp .ge 7, 3), (51, .iconst 2, 1), (52, .goto 13, 3), (55, .iload_n 2, 1), (56, .iconst 4, 1), (57, .if_icmp .ne 7, 3)]
set_option maxRecDepth 100000 in
theorem xi_ok301_0 : xi_ok cX12_shape xi_301_0 = true := by decide +kernel
def xi_301_1 : XIs := [(60, .iconst 1, 1), (61, .goto 4, 3), (64, .iconst 3, 1), (65, .ireturn, 1), (66, .iload_n 2, 1), (67, .iconst 1, 1), (68, .if_icmp .ge 7, 3), (71, .iconst 2, 1), (72, .goto 4, 3), (75, .iconst 3, 1), (76, .ireturn, 1), (77, .iload_n 2, 1), (78, .iconst 2, 1), (79, .if_icmp .ge 7, 3), (82, .iconst 2, 1), (83, .goto 4, 3)]
set_option maxRecDepth 100000 in
theorem xi_ok301_1 : xi_ok cX12_shape xi_301_1 = true := by decide +kernel
def xi_301_2 : XIs := [(86, .iconst 3, 1), (87, .ireturn, 1)]
set_option maxRecDepth 100000 in
theorem xi_ok301_2 : xi_ok cX12_shape xi_301_2 = true := by decide +kernel
def xi_301 (pc : Nat) : XIs := cond (Nat.blt pc 60) (xi_301_0) (cond (Nat.blt pc 86) (xi_301_1) (xi_301_2))
theorem xi_ok301 (pc : Nat) : xi_ok cX12_shape (xi_301 pc) = true := xi_c (xi_ok301_0) (xi_c (xi_ok301_1) (xi_ok301_2))
def xi_302_0 : XIs := [(0, .aload_n 0, 1), (1, .iconst 0, 1), (2, .putfield 278, 3), (5, .aload_n 0, 1), (6, .iconst 0, 1), (7, .putfield 359, 3), (10, .aload_n 0, 1), (11, .iconst 0, 1), (12, .putfield 398, 3), (15, .aload_n 0, 1), (16, .iconst 0, 1), (17, .putfield 365, 3), (20, .aload_n 0, 1), (21, .invokevirtual 401, 3), (24, .aload_n 0, 1), (25, .invokevirtual 404, 3)]
set_option maxRecDepth 100000 in
theorem xi_ok302_0 : xi_ok cX12_load xi_302_0 = true := by decide +kernel
def xi_302_1 : XIs := [(28, .aload_n 0, 1), (29, .getfield 371, 3), (32, .ifCond .eq 28, 3), (35, .aload_n 0, 1), (36, .getfield 359, 3), (39, .ifCond .ne 21, 3), (42, .aload_n 0, 1), (43, .invokevirtual 407, 3), (46, .aload_n 0, 1), (47, .getfield 359, 3), (50, .ifCond .ne (-22), 3), (53, .aload_n 0, 1), (54, .invokevirtual 404, 3), (57, .goto (-29), 3), (60, .aload_n 0, 1), (61, .getfield 359, 3)]
set_option maxRecDepth 100000 in
theorem xi_ok302_1 : xi_ok cX12_load xi_302_1 = true := by decide +kernel
def xi_302_2 : XIs := [(64, .ifCond .le 6, 3), (67, .bipush (-4), 2), (69, .ireturn, 1), (70, .iconst 0, 1), (71, .istore_n 1, 1), (72, .iload_n 1, 1), (73, .aload_n 0, 1), (74, .getfield 398, 3), (77, .if_icmp .ge 165, 3), (80, .iconst 5, 1), (81, .iload_n 1, 1), (82, .imul, 1), (83, .istore_n 2, 1), (84, .aload_n 0, 1), (85, .getfield 66, 3), (88, .iload_n 1, 1)]
set_option maxRecDepth 100000 in
theorem xi_ok302_2 : xi_ok cX12_load xi_302_2 = true := by decide +kernel
def xi_302_3 : XIs := [(89, .iaload, 1), (90, .lookupswitch 123 #[(97, 53), (110, 34), (116, 104)], 34), (124, .aload_n 0, 1), (125, .iconst 0, 1), (126, .aload_n 0, 1), (127, .getfield 69, 3), (130, .iload_n 2, 1), (131, .iaload, 1), (132, .iconst 0, 1), (133, .iconst 0, 1), (134, .iconst 0, 1), (135, .iconst 0, 1), (136, .iconst 0, 1), (137, .invokevirtual 314, 3), (140, .goto 96, 3), (143, .aload_n 0, 1)]
set_option maxRecDepth 100000 in
theorem xi_ok302_3 : xi_ok cX12_load xi_302_3 = true := by decide +kernel
def xi_302_4 : XIs := [(144, .iconst 1, 1), (145, .aload_n 0, 1), (146, .iconst 0, 1), (147, .invokevirtual 325, 3), (150, .aload_n 0, 1), (151, .getfield 69, 3), (154, .iload_n 2, 1), (155, .iaload, 1), (156, .aload_n 0, 1), (157, .getfield 69, 3), (160, .iload_n 2, 1), (161, .iconst 1, 1), (162, .iadd, 1), (163, .iaload, 1), (164, .aload_n 0, 1), (165, .getfield 69, 3)]
set_option maxRecDepth 100000 in
theorem xi_ok302_4 : xi_ok cX12_load xi_302_4 = true := by decide +kernel
def xi_302_5 : XIs := [(168, .iload_n 2, 1), (169, .iconst 2, 1), (170, .iadd, 1), (171, .iaload, 1), (172, .aload_n 0, 1), (173, .getfield 69, 3), (176, .iload_n 2, 1), (177, .iconst 3, 1), (178, .iadd, 1), (179, .iaload, 1), (180, .aload_n 0, 1), (181, .getfield 69, 3), (184, .iload_n 2, 1), (185, .iconst 4, 1), (186, .iadd, 1), (187, .iaload, 1)]
set_option maxRecDepth 100000 in
theorem xi_ok302_5 : xi_ok cX12_load xi_302_5 = true := by decide +kernel
def xi_302_6 : XIs := [(188, .invokevirtual 314, 3), (191, .goto 45, 3), (194, .aload_n 0, 1), (195, .iconst 2, 1), (196, .aload_n 0, 1), (197, .getfield 69, 3), (200, .iload_n 2, 1), (201, .iaload, 1), (202, .iconst 0, 1), (203, .iconst 0, 1), (204, .iconst 0, 1), (205, .iconst 0, 1), (206, .iconst 0, 1), (207, .invokevirtual 314, 3), (210, .goto 26, 3), (213, .aload_n 0, 1)]
set_option maxRecDepth 100000 in
theorem xi_ok302_6 : xi_ok cX12_load xi_302_6 = true := by decide +kernel
def xi_302_7 : XIs := [(214, .iconst 3, 1), (215, .aload_n 0, 1), (216, .getfield 69, 3), (219, .iload_n 2, 1), (220, .iaload, 1), (221, .iconst 0, 1), (222, .aload_n 0, 1), (223, .getfield 69, 3), (226, .iload_n 2, 1), (227, .iconst 1, 1), (228, .iadd, 1), (229, .iaload, 1), (230, .iconst 0, 1), (231, .iconst 0, 1), (232, .iconst 0, 1), (233, .invokevirtual 314, 3)]
set_option maxRecDepth 100000 in
theorem xi_ok302_7 : xi_ok cX12_load xi_302_7 = true := by decide +kernel
def xi_302_8 : XIs := [(236, .iinc 1 1, 3), (239, .goto (-167), 3), (242, .aload_n 0, 1), (243, .getfield 398, 3), (246, .ireturn, 1)]
set_option maxRecDepth 100000 in
theorem xi_ok302_8 : xi_ok cX12_load xi_302_8 = true := by decide +kernel
def xi_302 (pc : Nat) : XIs := cond (Nat.blt pc 144) (cond (Nat.blt pc 64) (cond (Nat.blt pc 28) (xi_302_0) (xi_302_1)) (cond (Nat.blt pc 89) (xi_302_2) (xi_302_3))) (cond (Nat.blt pc 188) (cond (Nat.blt pc 168) (xi_302_4) (xi_302_5)) (cond (Nat.blt pc 214) (xi_302_6) (cond (Nat.blt pc 236) (xi_302_7) (xi_302_8))))
theorem xi_ok302 (pc : Nat) : xi_ok cX12_load (xi_302 pc) = true := xi_c (xi_c (xi_c (xi_ok302_0) (xi_ok302_1)) (xi_c (xi_ok302_2) (xi_ok302_3))) (xi_c (xi_c (xi_ok302_4) (xi_ok302_5)) (xi_c (xi_ok302_6) (xi_c (xi_ok302_7) (xi_ok302_8))))
def xi_303_0 : XIs := [(0, .aload_n 0, 1), (1, .getfield 7, 3), (4, .iconst 2, 1), (5, .aload_n 0, 1), (6, .getfield 7, 3), (9, .iconst 0, 1), (10, .iaload, 1), (11, .iastore, 1), (12, .iconst 0, 1), (13, .istore_n 1, 1), (14, .iload_n 1, 1), (15, .sipush 160, 3), (18, .if_icmp .ge 25, 3), (21, .aload_n 0, 1), (22, .getfield 16, 3), (25, .sipush 320, 3)]
set_option maxRecDepth 100000 in
theorem xi_ok303_0 : xi_ok cX12_copyGraph xi_303_0 = true := by decide +kernel
def xi_303_1 : XIs := [(28, .iload_n 1, 1), (29, .iadd, 1), (30, .aload_n 0, 1), (31, .getfield 16, 3), (34, .iload_n 1, 1), (35, .baload, 1), (36, .bastore, 1), (37, .iinc 1 1, 3), (40, .goto (-26), 3), (43, .return_, 1)]
set_option maxRecDepth 100000 in
theorem xi_ok303_1 : xi_ok cX12_copyGraph xi_303_1 = true := by decide +kernel
def xi_303 (pc : Nat) : XIs := cond (Nat.blt pc 28) (xi_303_0) (xi_303_1)
theorem xi_ok303 (pc : Nat) : xi_ok cX12_copyGraph (xi_303 pc) = true := xi_c (xi_ok303_0) (xi_ok303_1)
def xi_304_0 : XIs := [(0, .aload_n 0, 1), (1, .getfield 368, 3), (4, .istore_n 1, 1), (5, .aload_n 0, 1), (6, .getfield 374, 3), (9, .istore_n 2, 1), (10, .aload_n 0, 1), (11, .getfield 371, 3), (14, .iconst 1, 1), (15, .if_icmp .ne 27, 3), (18, .iload_n 2, 1), (19, .bipush 110, 2), (21, .if_icmp .eq 31, 3), (24, .iload_n 2, 1), (25, .bipush 97, 2), (27, .if_icmp .eq 25, 3)]
set_option maxRecDepth 100000 in
theorem xi_ok304_0 : xi_ok cX12_command xi_304_0 = true := by decide +kernel
def xi_304_1 : XIs := [(30, .iload_n 2, 1), (31, .bipush 116, 2), (33, .if_icmp .eq 19, 3), (36, .iload_n 2, 1), (37, .bipush 119, 2), (39, .if_icmp .eq 13, 3), (42, .aload_n 0, 1), (43, .iconst 2, 1), (44, .aload_n 0, 1), (45, .getfield 368, 3), (48, .invokevirtual 391, 3), (51, .return_, 1), (52, .iconst 0, 1), (53, .istore_n 3, 1), (54, .iconst 1, 1), (55, .istore 4, 2)]
set_option maxRecDepth 100000 in
theorem xi_ok304_1 : xi_ok cX12_command xi_304_1 = true := by decide +kernel
def xi_304_2 : XIs := [(57, .iload 4, 2), (59, .ifCond .eq 127, 3), (62, .aload_n 0, 1), (63, .getfield 359, 3), (66, .ifCond .ne 120, 3), (69, .aload_n 0, 1), (70, .invokevirtual 404, 3), (73, .aload_n 0, 1), (74, .iload_n 2, 1), (75, .iload_n 3, 1), (76, .invokevirtual 410, 3), (79, .istore 5, 2), (81, .aload_n 0, 1), (82, .getfield 359, 3), (85, .ifCond .ne 36, 3), (88, .aload_n 0, 1)]
set_option maxRecDepth 100000 in
theorem xi_ok304_2 : xi_ok cX12_command xi_304_2 = true := by decide +kernel
def xi_304_3 : XIs := [(89, .getfield 371, 3), (92, .iload 5, 2), (94, .if_icmp .ne 18, 3), (97, .iload 5, 2), (99, .iconst 3, 1), (100, .if_icmp .ne 21, 3), (103, .aload_n 0, 1), (104, .getfield 374, 3), (107, .bipush 59, 2), (109, .if_icmp .eq 12, 3), (112, .aload_n 0, 1), (113, .iconst 2, 1), (114, .aload_n 0, 1), (115, .getfield 368, 3), (118, .invokevirtual 391, 3), (121, .iload 5, 2)]
set_option maxRecDepth 100000 in
theorem xi_ok304_3 : xi_ok cX12_command xi_304_3 = true := by decide +kernel
def xi_304_4 : XIs := [(123, .iconst 3, 1), (124, .if_icmp .eq 7, 3), (127, .iconst 1, 1), (128, .goto 4, 3), (131, .iconst 0, 1), (132, .istore 4, 2), (134, .aload_n 0, 1), (135, .getfield 359, 3), (138, .ifCond .ne 45, 3), (141, .iload 4, 2), (143, .ifCond .eq 40, 3), (146, .aload_n 0, 1), (147, .getfield 69, 3), (150, .iconst 5, 1), (151, .aload_n 0, 1), (152, .getfield 398, 3)]
set_option maxRecDepth 100000 in
theorem xi_ok304_4 : xi_ok cX12_command xi_304_4 = true := by decide +kernel
def xi_304_5 : XIs := [(155, .imul, 1), (156, .iload_n 3, 1), (157, .iadd, 1), (158, .iload 5, 2), (160, .iconst 1, 1), (161, .if_icmp .ne 13, 3), (164, .aload_n 0, 1), (165, .getfield 374, 3), (168, .bipush 97, 2), (170, .isub, 1), (171, .goto 8, 3), (174, .aload_n 0, 1), (175, .getfield 384, 3), (178, .l2i, 1), (179, .iastore, 1), (180, .iinc 3 1, 3)]
set_option maxRecDepth 100000 in
theorem xi_ok304_5 : xi_ok cX12_command xi_304_5 = true := by decide +kernel
def xi_304_6 : XIs := [(183, .goto (-126), 3), (186, .aload_n 0, 1), (187, .getfield 359, 3), (190, .ifCond .ne 58, 3), (193, .aload_n 0, 1), (194, .getfield 66, 3), (197, .aload_n 0, 1), (198, .getfield 398, 3), (201, .iload_n 2, 1), (202, .iastore, 1), (203, .aload_n 0, 1), (204, .iload_n 2, 1), (205, .iconst 5, 1), (206, .aload_n 0, 1), (207, .getfield 398, 3), (210, .imul, 1)]
set_option maxRecDepth 100000 in
theorem xi_ok304_6 : xi_ok cX12_command xi_304_6 = true := by decide +kernel
def xi_304_7 : XIs := [(211, .invokevirtual 414, 3), (214, .ifCond .eq 18, 3), (217, .aload_n 0, 1), (218, .getfield 291, 3), (221, .aload_n 0, 1), (222, .getfield 398, 3), (225, .iadd, 1), (226, .sipush 4000, 3), (229, .if_icmp .lt 9, 3), (232, .aload_n 0, 1), (233, .iconst 4, 1), (234, .iload_n 1, 1), (235, .invokevirtual 391, 3), (238, .aload_n 0, 1), (239, .dup, 1), (240, .getfield 398, 3)]
set_option maxRecDepth 100000 in
theorem xi_ok304_7 : xi_ok cX12_command xi_304_7 = true := by decide +kernel
def xi_304_8 : XIs := [(243, .iconst 1, 1), (244, .iadd, 1), (245, .putfield 398, 3), (248, .return_, 1)]
set_option maxRecDepth 100000 in
theorem xi_ok304_8 : xi_ok cX12_command xi_304_8 = true := by decide +kernel
def xi_304 (pc : Nat) : XIs := cond (Nat.blt pc 123) (cond (Nat.blt pc 57) (cond (Nat.blt pc 30) (xi_304_0) (xi_304_1)) (cond (Nat.blt pc 89) (xi_304_2) (xi_304_3))) (cond (Nat.blt pc 183) (cond (Nat.blt pc 155) (xi_304_4) (xi_304_5)) (cond (Nat.blt pc 211) (xi_304_6) (cond (Nat.blt pc 243) (xi_304_7) (xi_304_8))))
theorem xi_ok304 (pc : Nat) : xi_ok cX12_command (xi_304 pc) = true := xi_c (xi_c (xi_c (xi_ok304_0) (xi_ok304_1)) (xi_c (xi_ok304_2) (xi_ok304_3))) (xi_c (xi_c (xi_ok304_4) (xi_ok304_5)) (xi_c (xi_ok304_6) (xi_c (xi_ok304_7) (xi_ok304_8))))
def xi_305_0 : XIs := [(0, .aload_n 0, 1), (1, .getfield 69, 3), (4, .iload_n 2, 1), (5, .iaload, 1), (6, .istore_n 3, 1), (7, .aload_n 0, 1), (8, .getfield 69, 3), (11, .iload_n 2, 1), (12, .iconst 1, 1), (13, .iadd, 1), (14, .iaload, 1), (15, .istore 4, 2), (17, .iload_n 1, 1), (18, .lookupswitch 240 #[(97, 61), (110, 34), (116, 173)], 34), (52, .aload_n 0, 1), (53, .getfield 7, 3)]
set_option maxRecDepth 100000 in
theorem xi_ok305_0 : xi_ok cX12_isDone xi_305_0 = true := by decide +kernel
def xi_305_1 : XIs := [(56, .iconst 2, 1), (57, .dup2, 1), (58, .iaload, 1), (59, .iconst 1, 1), (60, .iadd, 1), (61, .iastore, 1), (62, .aload_n 0, 1), (63, .getfield 7, 3), (66, .iconst 2, 1), (67, .iaload, 1), (68, .bipush 32, 2), (70, .if_icmp .gt 7, 3), (73, .iconst 1, 1), (74, .goto 4, 3), (77, .iconst 0, 1), (78, .ireturn, 1)]
set_option maxRecDepth 100000 in
theorem xi_ok305_1 : xi_ok cX12_isDone xi_305_1 = true := by decide +kernel
def xi_305_2 : XIs := [(79, .aload_n 0, 1), (80, .iconst 2, 1), (81, .invokevirtual 325, 3), (84, .istore 5, 2), (86, .iload 5, 2), (88, .sipush 160, 3), (91, .if_icmp .ge 77, 3), (94, .iload_n 3, 1), (95, .i2l, 1), (96, .lconst 0, 1), (97, .aload_n 0, 1), (98, .getfield 7, 3), (101, .iconst 2, 1), (102, .iaload, 1), (103, .iconst 1, 1), (104, .isub, 1)]
set_option maxRecDepth 100000 in
theorem xi_ok305_2 : xi_ok cX12_isDone xi_305_2 = true := by decide +kernel
def xi_305_3 : XIs := [(105, .i2l, 1), (106, .invokestatic 308, 3), (109, .ifCond .eq 59, 3), (112, .iload 4, 2), (114, .i2l, 1), (115, .lconst 0, 1), (116, .aload_n 0, 1), (117, .getfield 7, 3), (120, .iconst 2, 1), (121, .iaload, 1), (122, .iconst 1, 1), (123, .isub, 1), (124, .i2l, 1), (125, .invokestatic 308, 3), (128, .ifCond .eq 40, 3), (131, .aload_n 0, 1)]
set_option maxRecDepth 100000 in
theorem xi_ok305_3 : xi_ok cX12_isDone xi_305_3 = true := by decide +kernel
def xi_305_4 : XIs := [(132, .getfield 69, 3), (135, .iload_n 2, 1), (136, .iconst 2, 1), (137, .iadd, 1), (138, .iaload, 1), (139, .invokestatic 322, 3), (142, .ifCond .eq 26, 3), (145, .aload_n 0, 1), (146, .getfield 69, 3), (149, .iload_n 2, 1), (150, .iconst 3, 1), (151, .iadd, 1), (152, .iaload, 1), (153, .i2l, 1), (154, .lconst 0, 1), (155, .ldc2_w 306, 3)]
set_option maxRecDepth 100000 in
theorem xi_ok305_4 : xi_ok cX12_isDone xi_305_4 = true := by decide +kernel
def xi_305_5 : XIs := [(158, .invokestatic 308, 3), (161, .ifCond .eq 7, 3), (164, .iconst 1, 1), (165, .goto 4, 3), (168, .iconst 0, 1), (169, .istore 6, 2), (171, .iload 6, 2), (173, .ifCond .eq 15, 3), (176, .aload_n 0, 1), (177, .getfield 16, 3), (180, .sipush 320, 3), (183, .iload 5, 2), (185, .iadd, 1), (186, .iconst 1, 1), (187, .bastore, 1), (188, .iload 6, 2)]
set_option maxRecDepth 100000 in
theorem xi_ok305_5 : xi_ok cX12_isDone xi_305_5 = true := by decide +kernel
def xi_305_6 : XIs := [(190, .ireturn, 1), (191, .iload_n 3, 1), (192, .i2l, 1), (193, .lconst 0, 1), (194, .ldc2_w 343, 3), (197, .invokestatic 308, 3), (200, .ifCond .eq 36, 3), (203, .aload_n 0, 1), (204, .getfield 16, 3), (207, .sipush 320, 3), (210, .iload_n 3, 1), (211, .i2l, 1), (212, .lconst 0, 1), (213, .ldc2_w 343, 3), (216, .invokestatic 308, 3), (219, .ifCond .eq 7, 3)]
set_option maxRecDepth 100000 in
theorem xi_ok305_6 : xi_ok cX12_isDone xi_305_6 = true := by decide +kernel
def xi_305_7 : XIs := [(222, .iload_n 3, 1), (223, .goto 4, 3), (226, .iconst 0, 1), (227, .iadd, 1), (228, .baload, 1), (229, .ifCond .eq 7, 3), (232, .iconst 1, 1), (233, .goto 4, 3), (236, .iconst 0, 1), (237, .istore 7, 2), (239, .iload 7, 2), (241, .ifCond .eq 14, 3), (244, .aload_n 0, 1), (245, .getfield 16, 3), (248, .sipush 320, 3), (251, .iload_n 3, 1)]
set_option maxRecDepth 100000 in
theorem xi_ok305_7 : xi_ok cX12_isDone xi_305_7 = true := by decide +kernel
def xi_305_8 : XIs := [(252, .iadd, 1), (253, .iconst 0, 1), (254, .bastore, 1), (255, .iload 7, 2), (257, .ireturn, 1), (258, .iload_n 3, 1), (259, .i2l, 1), (260, .lconst 0, 1), (261, .ldc2_w 343, 3), (264, .invokestatic 308, 3), (267, .ifCond .eq 44, 3), (270, .aload_n 0, 1), (271, .getfield 16, 3), (274, .sipush 320, 3), (277, .iload_n 3, 1), (278, .i2l, 1)]
set_option maxRecDepth 100000 in
theorem xi_ok305_8 : xi_ok cX12_isDone xi_305_8 = true := by decide +kernel
def xi_305_9 : XIs := [(279, .lconst 0, 1), (280, .ldc2_w 343, 3), (283, .invokestatic 308, 3), (286, .ifCond .eq 7, 3), (289, .iload_n 3, 1), (290, .goto 4, 3), (293, .iconst 0, 1), (294, .iadd, 1), (295, .baload, 1), (296, .ifCond .eq 15, 3), (299, .iload 4, 2), (301, .invokestatic 322, 3), (304, .ifCond .eq 7, 3), (307, .iconst 1, 1), (308, .goto 4, 3), (311, .iconst 0, 1)]
set_option maxRecDepth 100000 in
theorem xi_ok305_9 : xi_ok cX12_isDone xi_305_9 = true := by decide +kernel
def xi_305_10 : XIs := [(312, .ireturn, 1)]
set_option maxRecDepth 100000 in
theorem xi_ok305_10 : xi_ok cX12_isDone xi_305_10 = true := by decide +kernel
def xi_305 (pc : Nat) : XIs := cond (Nat.blt pc 158) (cond (Nat.blt pc 79) (cond (Nat.blt pc 56) (xi_305_0) (xi_305_1)) (cond (Nat.blt pc 105) (xi_305_2) (cond (Nat.blt pc 132) (xi_305_3) (xi_305_4)))) (cond (Nat.blt pc 252) (cond (Nat.blt pc 190) (xi_305_5) (cond (Nat.blt pc 222) (xi_305_6) (xi_305_7))) (cond (Nat.blt pc 279) (xi_305_8) (cond (Nat.blt pc 312) (xi_305_9) (xi_305_10))))
theorem xi_ok305 (pc : Nat) : xi_ok cX12_isDone (xi_305 pc) = true := xi_c (xi_c (xi_c (xi_ok305_0) (xi_ok305_1)) (xi_c (xi_ok305_2) (xi_c (xi_ok305_3) (xi_ok305_4)))) (xi_c (xi_c (xi_ok305_5) (xi_c (xi_ok305_6) (xi_ok305_7))) (xi_c (xi_ok305_8) (xi_c (xi_ok305_9) (xi_ok305_10))))
def xi_306_0 : XIs := [(0, .aload_n 0, 1), (1, .getfield 63, 3), (4, .aload_n 0, 1), (5, .getfield 418, 3), (8, .iload_n 1, 1), (9, .iastore, 1), (10, .aload_n 0, 1), (11, .dup, 1), (12, .getfield 418, 3), (15, .iconst 1, 1), (16, .iadd, 1), (17, .putfield 418, 3), (20, .return_, 1)]
set_option maxRecDepth 100000 in
theorem xi_ok306_0 : xi_ok cX12_put xi_306_0 = true := by decide +kernel
def xi_306 (pc : Nat) : XIs := xi_306_0
theorem xi_ok306 (pc : Nat) : xi_ok cX12_put (xi_306 pc) = true := xi_ok306_0
def xi_307_0 : XIs := [(0, .aload_n 0, 1), (1, .bipush 32, 2), (3, .invokevirtual 421, 3), (6, .iload_n 1, 1), (7, .ifCond .ge 9, 3), (10, .aload_n 0, 1), (11, .bipush 45, 2), (13, .invokevirtual 421, 3), (16, .iload_n 1, 1), (17, .ifCond .ge 8, 3), (20, .iload_n 1, 1), (21, .ineg, 1), (22, .goto 4, 3), (25, .iload_n 1, 1), (26, .istore_n 2, 1), (27, .iconst 1, 1)]
set_option maxRecDepth 100000 in
theorem xi_ok307_0 : xi_ok cX12_putNumber xi_307_0 = true := by decide +kernel
def xi_307_1 : XIs := [(28, .istore_n 3, 1), (29, .iload_n 2, 1), (30, .iload_n 3, 1), (31, .idiv, 1), (32, .bipush 10, 2), (34, .if_icmp .lt 11, 3), (37, .iload_n 3, 1), (38, .bipush 10, 2), (40, .imul, 1), (41, .istore_n 3, 1), (42, .goto (-13), 3), (45, .iload_n 3, 1), (46, .ifCond .le 24, 3), (49, .aload_n 0, 1), (50, .bipush 48, 2), (52, .iload_n 2, 1)]
set_option maxRecDepth 100000 in
theorem xi_ok307_1 : xi_ok cX12_putNumber xi_307_1 = true := by decide +kernel
def xi_307_2 : XIs := [(53, .iload_n 3, 1), (54, .idiv, 1), (55, .bipush 10, 2), (57, .irem, 1), (58, .iadd, 1), (59, .invokevirtual 421, 3), (62, .iload_n 3, 1), (63, .bipush 10, 2), (65, .idiv, 1), (66, .istore_n 3, 1), (67, .goto (-22), 3), (70, .return_, 1)]
set_option maxRecDepth 100000 in
theorem xi_ok307_2 : xi_ok cX12_putNumber xi_307_2 = true := by decide +kernel
def xi_307 (pc : Nat) : XIs := cond (Nat.blt pc 28) (xi_307_0) (cond (Nat.blt pc 53) (xi_307_1) (xi_307_2))
theorem xi_ok307 (pc : Nat) : xi_ok cX12_putNumber (xi_307 pc) = true := xi_c (xi_ok307_0) (xi_c (xi_ok307_1) (xi_ok307_2))
def xi_308_0 : XIs := [(0, .aload_n 0, 1), (1, .iconst 0, 1), (2, .putfield 278, 3), (5, .aload_n 0, 1), (6, .iconst 0, 1), (7, .putfield 418, 3), (10, .iconst 0, 1), (11, .istore_n 1, 1), (12, .iload_n 1, 1), (13, .aload_n 0, 1), (14, .getfield 285, 3), (17, .if_icmp .ge 48, 3), (20, .aload_n 0, 1), (21, .bipush 110, 2), (23, .invokevirtual 421, 3), (26, .aload_n 0, 1)]
set_option maxRecDepth 100000 in
theorem xi_ok308_0 : xi_ok cX12_print xi_308_0 = true := by decide +kernel
def xi_308_1 : XIs := [(27, .bipush 32, 2), (29, .invokevirtual 421, 3), (32, .aload_n 0, 1), (33, .bipush 97, 2), (35, .aload_n 0, 1), (36, .getfield 13, 3), (39, .bipush 32, 2), (41, .aload_n 0, 1), (42, .getfield 301, 3), (45, .imul, 1), (46, .iload_n 1, 1), (47, .iadd, 1), (48, .iaload, 1), (49, .iadd, 1), (50, .invokevirtual 421, 3), (53, .aload_n 0, 1)]
set_option maxRecDepth 100000 in
theorem xi_ok308_1 : xi_ok cX12_print xi_308_1 = true := by decide +kernel
def xi_308_2 : XIs := [(54, .bipush 59, 2), (56, .invokevirtual 421, 3), (59, .iinc 1 1, 3), (62, .goto (-50), 3), (65, .aload_n 0, 1), (66, .getfield 288, 3), (69, .istore_n 1, 1), (70, .iload_n 1, 1), (71, .aload_n 0, 1), (72, .getfield 288, 3), (75, .sipush 160, 3), (78, .iadd, 1), (79, .if_icmp .ge 89, 3), (82, .aload_n 0, 1), (83, .getfield 16, 3), (86, .iload_n 1, 1)]
set_option maxRecDepth 100000 in
theorem xi_ok308_2 : xi_ok cX12_print xi_308_2 = true := by decide +kernel
def xi_308_3 : XIs := [(87, .baload, 1), (88, .ifCond .eq 74, 3), (91, .aload_n 0, 1), (92, .bipush 97, 2), (94, .invokevirtual 421, 3), (97, .aload_n 0, 1), (98, .aload_n 0, 1), (99, .getfield 20, 3), (102, .iload_n 1, 1), (103, .iaload, 1), (104, .invokevirtual 424, 3), (107, .aload_n 0, 1), (108, .aload_n 0, 1), (109, .getfield 23, 3), (112, .iload_n 1, 1), (113, .iaload, 1)]
set_option maxRecDepth 100000 in
theorem xi_ok308_3 : xi_ok cX12_print xi_308_3 = true := by decide +kernel
def xi_308_4 : XIs := [(114, .invokevirtual 424, 3), (117, .aload_n 0, 1), (118, .aload_n 0, 1), (119, .getfield 26, 3), (122, .iload_n 1, 1), (123, .iaload, 1), (124, .invokevirtual 424, 3), (127, .aload_n 0, 1), (128, .aload_n 0, 1), (129, .getfield 29, 3), (132, .iload_n 1, 1), (133, .iaload, 1), (134, .invokevirtual 424, 3), (137, .aload_n 0, 1), (138, .bipush 32, 2), (140, .invokevirtual 421, 3)]
set_option maxRecDepth 100000 in
theorem xi_ok308_4 : xi_ok cX12_print xi_308_4 = true := by decide +kernel
def xi_308_5 : XIs := [(143, .aload_n 0, 1), (144, .bipush 97, 2), (146, .aload_n 0, 1), (147, .getfield 32, 3), (150, .iload_n 1, 1), (151, .iaload, 1), (152, .iadd, 1), (153, .invokevirtual 421, 3), (156, .aload_n 0, 1), (157, .bipush 59, 2), (159, .invokevirtual 421, 3), (162, .iinc 1 1, 3), (165, .goto (-95), 3), (168, .aload_n 0, 1), (169, .getfield 418, 3), (172, .ireturn, 1)]
set_option maxRecDepth 100000 in
theorem xi_ok308_5 : xi_ok cX12_print xi_308_5 = true := by decide +kernel
def xi_308 (pc : Nat) : XIs := cond (Nat.blt pc 87) (cond (Nat.blt pc 27) (xi_308_0) (cond (Nat.blt pc 54) (xi_308_1) (xi_308_2))) (cond (Nat.blt pc 114) (xi_308_3) (cond (Nat.blt pc 143) (xi_308_4) (xi_308_5)))
theorem xi_ok308 (pc : Nat) : xi_ok cX12_print (xi_308 pc) = true := xi_c (xi_c (xi_ok308_0) (xi_c (xi_ok308_1) (xi_ok308_2))) (xi_c (xi_ok308_3) (xi_c (xi_ok308_4) (xi_ok308_5)))
def xi_309_0 : XIs := [(0, .aload_n 0, 1), (1, .iload_n 1, 1), (2, .ifCond .lt 15, 3), (5, .iload_n 1, 1), (6, .aload_n 0, 1), (7, .getfield 418, 3), (10, .if_icmp .ge 7, 3), (13, .iconst 1, 1), (14, .goto 4, 3), (17, .iconst 0, 1), (18, .invokevirtual 334, 3), (21, .ifCond .eq 7, 3), (24, .iconst 0, 1), (25, .goto 9, 3), (28, .aload_n 0, 1), (29, .getfield 63, 3)]
set_option maxRecDepth 100000 in
theorem xi_ok309_0 : xi_ok cX12_printed xi_309_0 = true := by decide +kernel
def xi_309_1 : XIs := [(32, .iload_n 1, 1), (33, .iaload, 1), (34, .ireturn, 1)]
set_option maxRecDepth 100000 in
theorem xi_ok309_1 : xi_ok cX12_printed xi_309_1 = true := by decide +kernel
def xi_309 (pc : Nat) : XIs := cond (Nat.blt pc 32) (xi_309_0) (xi_309_1)
theorem xi_ok309 (pc : Nat) : xi_ok cX12_printed (xi_309 pc) = true := xi_c (xi_ok309_0) (xi_ok309_1)
def xi_310_0 : XIs := [(0, .iconst 0, 1), (1, .istore 4, 2), (3, .iload 4, 2), (5, .aload_n 0, 1), (6, .getfield 285, 3), (9, .if_icmp .ge 30, 3), (12, .aload_n 0, 1), (13, .getfield 72, 3), (16, .iload 4, 2), (18, .iload 4, 2), (20, .iload_n 3, 1), (21, .if_icmp .ne 7, 3), (24, .iconst 0, 1), (25, .goto 7, 3), (28, .iconst 1, 1), (29, .iload 4, 2)]
set_option maxRecDepth 100000 in
theorem xi_ok310_0 : xi_ok cX12_close xi_310_0 = true := by decide +kernel
def xi_310_1 : XIs := [(31, .ishl, 1), (32, .iastore, 1), (33, .iinc 4 1, 3), (36, .goto (-33), 3), (39, .iconst 0, 1), (40, .istore 4, 2), (42, .iload 4, 2), (44, .sipush 160, 3), (47, .if_icmp .ge 106, 3), (50, .aload_n 0, 1), (51, .getfield 20, 3), (54, .aload_n 0, 1), (55, .getfield 288, 3), (58, .iload 4, 2), (60, .iadd, 1), (61, .iaload, 1)]
set_option maxRecDepth 100000 in
theorem xi_ok310_1 : xi_ok cX12_close xi_310_1 = true := by decide +kernel
def xi_310_2 : XIs := [(62, .istore 5, 2), (64, .aload_n 0, 1), (65, .getfield 23, 3), (68, .aload_n 0, 1), (69, .getfield 288, 3), (72, .iload 4, 2), (74, .iadd, 1), (75, .iaload, 1), (76, .istore 6, 2), (78, .aload_n 0, 1), (79, .getfield 16, 3), (82, .aload_n 0, 1), (83, .getfield 288, 3), (86, .iload 4, 2), (88, .iadd, 1), (89, .baload, 1)]
set_option maxRecDepth 100000 in
theorem xi_ok310_2 : xi_ok cX12_close xi_310_2 = true := by decide +kernel
def xi_310_3 : XIs := [(90, .ifCond .eq 57, 3), (93, .iload 4, 2), (95, .iload_n 2, 1), (96, .if_icmp .eq 51, 3), (99, .iload 5, 2), (101, .iload_n 3, 1), (102, .if_icmp .eq 45, 3), (105, .iload 6, 2), (107, .iload_n 3, 1), (108, .if_icmp .eq 39, 3), (111, .aload_n 0, 1), (112, .getfield 72, 3), (115, .iload 5, 2), (117, .dup2, 1), (118, .iaload, 1), (119, .iconst 1, 1)]
set_option maxRecDepth 100000 in
theorem xi_ok310_3 : xi_ok cX12_close xi_310_3 = true := by decide +kernel
def xi_310_4 : XIs := [(120, .iload 6, 2), (122, .ishl, 1), (123, .ior, 1), (124, .iastore, 1), (125, .aload_n 0, 1), (126, .getfield 72, 3), (129, .iload 6, 2), (131, .dup2, 1), (132, .iaload, 1), (133, .iload_n 1, 1), (134, .ifCond .eq 10, 3), (137, .iconst 1, 1), (138, .iload 5, 2), (140, .ishl, 1), (141, .goto 4, 3), (144, .iconst 0, 1)]
set_option maxRecDepth 100000 in
theorem xi_ok310_4 : xi_ok cX12_close xi_310_4 = true := by decide +kernel
def xi_310_5 : XIs := [(145, .ior, 1), (146, .iastore, 1), (147, .iinc 4 1, 3), (150, .goto (-108), 3), (153, .iconst 0, 1), (154, .istore 4, 2), (156, .iload 4, 2), (158, .aload_n 0, 1), (159, .getfield 285, 3), (162, .if_icmp .ge 64, 3), (165, .iconst 0, 1), (166, .istore 5, 2), (168, .iload 5, 2), (170, .aload_n 0, 1), (171, .getfield 285, 3), (174, .if_icmp .ge 46, 3)]
set_option maxRecDepth 100000 in
theorem xi_ok310_5 : xi_ok cX12_close xi_310_5 = true := by decide +kernel
def xi_310_6 : XIs := [(177, .aload_n 0, 1), (178, .getfield 72, 3), (181, .iload 5, 2), (183, .dup2, 1), (184, .iaload, 1), (185, .aload_n 0, 1), (186, .getfield 72, 3), (189, .iload 5, 2), (191, .iaload, 1), (192, .iload 4, 2), (194, .ishr, 1), (195, .iconst 1, 1), (196, .iand, 1), (197, .iconst 1, 1), (198, .if_icmp .ne 13, 3), (201, .aload_n 0, 1)]
set_option maxRecDepth 100000 in
theorem xi_ok310_6 : xi_ok cX12_close xi_310_6 = true := by decide +kernel
def xi_310_7 : XIs := [(202, .getfield 72, 3), (205, .iload 4, 2), (207, .iaload, 1), (208, .goto 4, 3), (211, .iconst 0, 1), (212, .ior, 1), (213, .iastore, 1), (214, .iinc 5 1, 3), (217, .goto (-49), 3), (220, .iinc 4 1, 3), (223, .goto (-67), 3), (226, .return_, 1)]
set_option maxRecDepth 100000 in
theorem xi_ok310_7 : xi_ok cX12_close xi_310_7 = true := by decide +kernel
def xi_310 (pc : Nat) : XIs := cond (Nat.blt pc 120) (cond (Nat.blt pc 62) (cond (Nat.blt pc 31) (xi_310_0) (xi_310_1)) (cond (Nat.blt pc 90) (xi_310_2) (xi_310_3))) (cond (Nat.blt pc 177) (cond (Nat.blt pc 145) (xi_310_4) (xi_310_5)) (cond (Nat.blt pc 202) (xi_310_6) (xi_310_7)))
theorem xi_ok310 (pc : Nat) : xi_ok cX12_close (xi_310 pc) = true := xi_c (xi_c (xi_c (xi_ok310_0) (xi_ok310_1)) (xi_c (xi_ok310_2) (xi_ok310_3))) (xi_c (xi_c (xi_ok310_4) (xi_ok310_5)) (xi_c (xi_ok310_6) (xi_ok310_7)))
def xi_311_0 : XIs := [(0, .iload_n 0, 1), (1, .iload_n 1, 1), (2, .ishr, 1), (3, .iconst 1, 1), (4, .iand, 1), (5, .iconst 1, 1), (6, .if_icmp .ne 7, 3), (9, .iconst 1, 1), (10, .goto 4, 3), (13, .iconst 0, 1), (14, .ireturn, 1)]
set_option maxRecDepth 100000 in
theorem xi_ok311_0 : xi_ok cX12_has xi_311_0 = true := by decide +kernel
def xi_311 (pc : Nat) : XIs := xi_311_0
theorem xi_ok311 (pc : Nat) : xi_ok cX12_has (xi_311 pc) = true := xi_ok311_0
def xi_312_0 : XIs := [(0, .iconst 0, 1), (1, .istore_n 3, 1), (2, .iload_n 3, 1), (3, .aload_n 0, 1), (4, .getfield 285, 3), (7, .if_icmp .ge 25, 3), (10, .aload_n 0, 1), (11, .getfield 75, 3), (14, .iload_n 3, 1), (15, .ldc2_w 347, 3), (18, .lastore, 1), (19, .aload_n 0, 1), (20, .getfield 79, 3), (23, .iload_n 3, 1), (24, .iconst 0, 1), (25, .iastore, 1)]
set_option maxRecDepth 100000 in
theorem xi_ok312_0 : xi_ok cX12_toGoal xi_312_0 = true := by decide +kernel
def xi_312_1 : XIs := [(26, .iinc 3 1, 3), (29, .goto (-27), 3), (32, .aload_n 0, 1), (33, .getfield 75, 3), (36, .iload_n 1, 1), (37, .lconst 0, 1), (38, .lastore, 1), (39, .iconst 1, 1), (40, .istore_n 3, 1), (41, .iconst 0, 1), (42, .istore 4, 2), (44, .iload 4, 2), (46, .aload_n 0, 1), (47, .getfield 285, 3), (50, .if_icmp .gt 184, 3), (53, .iload_n 3, 1)]
set_option maxRecDepth 100000 in
theorem xi_ok312_1 : xi_ok cX12_toGoal xi_312_1 = true := by decide +kernel
def xi_312_2 : XIs := [(54, .ifCond .eq 180, 3), (57, .iconst 0, 1), (58, .istore_n 3, 1), (59, .aload_n 0, 1), (60, .getfield 288, 3), (63, .istore 5, 2), (65, .iload 5, 2), (67, .aload_n 0, 1), (68, .getfield 288, 3), (71, .sipush 160, 3), (74, .iadd, 1), (75, .if_icmp .ge 153, 3), (78, .aload_n 0, 1), (79, .getfield 16, 3), (82, .iload 5, 2), (84, .baload, 1)]
set_option maxRecDepth 100000 in
theorem xi_ok312_2 : xi_ok cX12_toGoal xi_312_2 = true := by decide +kernel
def xi_312_3 : XIs := [(85, .ifCond .eq 137, 3), (88, .iload_n 2, 1), (89, .aload_n 0, 1), (90, .getfield 20, 3), (93, .iload 5, 2), (95, .iaload, 1), (96, .invokestatic 427, 3), (99, .ifCond .eq 123, 3), (102, .iload_n 2, 1), (103, .aload_n 0, 1), (104, .getfield 23, 3), (107, .iload 5, 2), (109, .iaload, 1), (110, .invokestatic 427, 3), (113, .ifCond .eq 109, 3), (116, .aload_n 0, 1)]
set_option maxRecDepth 100000 in
theorem xi_ok312_3 : xi_ok cX12_toGoal xi_312_3 = true := by decide +kernel
def xi_312_4 : XIs := [(117, .getfield 75, 3), (120, .aload_n 0, 1), (121, .getfield 23, 3), (124, .iload 5, 2), (126, .iaload, 1), (127, .laload, 1), (128, .ldc2_w 347, 3), (131, .lcmp, 1), (132, .ifCond .ge 90, 3), (135, .aload_n 0, 1), (136, .getfield 75, 3), (139, .aload_n 0, 1), (140, .getfield 23, 3), (143, .iload 5, 2), (145, .iaload, 1), (146, .laload, 1)]
set_option maxRecDepth 100000 in
theorem xi_ok312_4 : xi_ok cX12_toGoal xi_312_4 = true := by decide +kernel
def xi_312_5 : XIs := [(147, .aload_n 0, 1), (148, .getfield 26, 3), (151, .iload 5, 2), (153, .iaload, 1), (154, .i2l, 1), (155, .ladd, 1), (156, .lstore 6, 2), (158, .aload_n 0, 1), (159, .getfield 79, 3), (162, .aload_n 0, 1), (163, .getfield 23, 3), (166, .iload 5, 2), (168, .iaload, 1), (169, .iaload, 1), (170, .iconst 1, 1), (171, .iadd, 1)]
set_option maxRecDepth 100000 in
theorem xi_ok312_5 : xi_ok cX12_toGoal xi_312_5 = true := by decide +kernel
def xi_312_6 : XIs := [(172, .istore 8, 2), (174, .lload 6, 2), (176, .aload_n 0, 1), (177, .getfield 75, 3), (180, .aload_n 0, 1), (181, .getfield 20, 3), (184, .iload 5, 2), (186, .iaload, 1), (187, .laload, 1), (188, .lcmp, 1), (189, .ifCond .ge 33, 3), (192, .aload_n 0, 1), (193, .getfield 75, 3), (196, .aload_n 0, 1), (197, .getfield 20, 3), (200, .iload 5, 2)]
set_option maxRecDepth 100000 in
theorem xi_ok312_6 : xi_ok cX12_toGoal xi_312_6 = true := by decide +kernel
def xi_312_7 : XIs := [(202, .iaload, 1), (203, .lload 6, 2), (205, .lastore, 1), (206, .aload_n 0, 1), (207, .getfield 79, 3), (210, .aload_n 0, 1), (211, .getfield 20, 3), (214, .iload 5, 2), (216, .iaload, 1), (217, .iload 8, 2), (219, .iastore, 1), (220, .iconst 1, 1), (221, .istore_n 3, 1), (222, .iinc 5 1, 3), (225, .goto (-160), 3), (228, .iinc 4 1, 3)]
set_option maxRecDepth 100000 in
theorem xi_ok312_7 : xi_ok cX12_toGoal xi_312_7 = true := by decide +kernel
def xi_312_8 : XIs := [(231, .goto (-187), 3), (234, .iload_n 3, 1), (235, .ifCond .eq 5, 3), (238, .iconst 0, 1), (239, .ireturn, 1), (240, .aload_n 0, 1), (241, .iload_n 1, 1), (242, .iload_n 2, 1), (243, .invokevirtual 430, 3), (246, .iconst 1, 1), (247, .ireturn, 1)]
set_option maxRecDepth 100000 in
theorem xi_ok312_8 : xi_ok cX12_toGoal xi_312_8 = true := by decide +kernel
def xi_312 (pc : Nat) : XIs := cond (Nat.blt pc 117) (cond (Nat.blt pc 54) (cond (Nat.blt pc 26) (xi_312_0) (xi_312_1)) (cond (Nat.blt pc 85) (xi_312_2) (xi_312_3))) (cond (Nat.blt pc 172) (cond (Nat.blt pc 147) (xi_312_4) (xi_312_5)) (cond (Nat.blt pc 202) (xi_312_6) (cond (Nat.blt pc 231) (xi_312_7) (xi_312_8))))
theorem xi_ok312 (pc : Nat) : xi_ok cX12_toGoal (xi_312 pc) = true := xi_c (xi_c (xi_c (xi_ok312_0) (xi_ok312_1)) (xi_c (xi_ok312_2) (xi_ok312_3))) (xi_c (xi_c (xi_ok312_4) (xi_ok312_5)) (xi_c (xi_ok312_6) (xi_c (xi_ok312_7) (xi_ok312_8))))
def xi_313_0 : XIs := [(0, .iconst 0, 1), (1, .istore_n 3, 1), (2, .iload_n 3, 1), (3, .aload_n 0, 1), (4, .getfield 285, 3), (7, .if_icmp .ge 27, 3), (10, .aload_n 0, 1), (11, .getfield 79, 3), (14, .iload_n 3, 1), (15, .iload_n 3, 1), (16, .iload_n 1, 1), (17, .if_icmp .ne 7, 3), (20, .iconst 0, 1), (21, .goto 6, 3), (24, .sipush 1000, 3), (27, .iastore, 1)]
set_option maxRecDepth 100000 in
theorem xi_ok313_0 : xi_ok cX12_fewest xi_313_0 = true := by decide +kernel
def xi_313_1 : XIs := [(28, .iinc 3 1, 3), (31, .goto (-29), 3), (34, .iconst 0, 1), (35, .istore_n 3, 1), (36, .iload_n 3, 1), (37, .aload_n 0, 1), (38, .getfield 285, 3), (41, .if_icmp .ge 190, 3), (44, .aload_n 0, 1), (45, .getfield 288, 3), (48, .istore 4, 2), (50, .iload 4, 2), (52, .aload_n 0, 1), (53, .getfield 288, 3), (56, .sipush 160, 3), (59, .iadd, 1)]
set_option maxRecDepth 100000 in
theorem xi_ok313_1 : xi_ok cX12_fewest xi_313_1 = true := by decide +kernel
def xi_313_2 : XIs := [(60, .if_icmp .ge 165, 3), (63, .aload_n 0, 1), (64, .getfield 16, 3), (67, .iload 4, 2), (69, .baload, 1), (70, .ifCond .eq 149, 3), (73, .iload_n 2, 1), (74, .aload_n 0, 1), (75, .getfield 20, 3), (78, .iload 4, 2), (80, .iaload, 1), (81, .invokestatic 427, 3), (84, .ifCond .eq 135, 3), (87, .iload_n 2, 1), (88, .aload_n 0, 1), (89, .getfield 23, 3)]
set_option maxRecDepth 100000 in
theorem xi_ok313_2 : xi_ok cX12_fewest xi_313_2 = true := by decide +kernel
def xi_313_3 : XIs := [(92, .iload 4, 2), (94, .iaload, 1), (95, .invokestatic 427, 3), (98, .ifCond .eq 121, 3), (101, .aload_n 0, 1), (102, .getfield 75, 3), (105, .aload_n 0, 1), (106, .getfield 23, 3), (109, .iload 4, 2), (111, .iaload, 1), (112, .laload, 1), (113, .ldc2_w 347, 3), (116, .lcmp, 1), (117, .ifCond .ge 102, 3), (120, .aload_n 0, 1), (121, .getfield 75, 3)]
set_option maxRecDepth 100000 in
theorem xi_ok313_3 : xi_ok cX12_fewest xi_313_3 = true := by decide +kernel
def xi_313_4 : XIs := [(124, .aload_n 0, 1), (125, .getfield 20, 3), (128, .iload 4, 2), (130, .iaload, 1), (131, .laload, 1), (132, .aload_n 0, 1), (133, .getfield 75, 3), (136, .aload_n 0, 1), (137, .getfield 23, 3), (140, .iload 4, 2), (142, .iaload, 1), (143, .laload, 1), (144, .aload_n 0, 1), (145, .getfield 26, 3), (148, .iload 4, 2), (150, .iaload, 1)]
set_option maxRecDepth 100000 in
theorem xi_ok313_4 : xi_ok cX12_fewest xi_313_4 = true := by decide +kernel
def xi_313_5 : XIs := [(151, .i2l, 1), (152, .ladd, 1), (153, .lcmp, 1), (154, .ifCond .ne 65, 3), (157, .aload_n 0, 1), (158, .getfield 79, 3), (161, .aload_n 0, 1), (162, .getfield 23, 3), (165, .iload 4, 2), (167, .iaload, 1), (168, .iaload, 1), (169, .iconst 1, 1), (170, .iadd, 1), (171, .istore 5, 2), (173, .aload_n 0, 1), (174, .getfield 79, 3)]
set_option maxRecDepth 100000 in
theorem xi_ok313_5 : xi_ok cX12_fewest xi_313_5 = true := by decide +kernel
def xi_313_6 : XIs := [(177, .aload_n 0, 1), (178, .getfield 20, 3), (181, .iload 4, 2), (183, .iaload, 1), (184, .iload 5, 2), (186, .aload_n 0, 1), (187, .getfield 79, 3), (190, .aload_n 0, 1), (191, .getfield 20, 3), (194, .iload 4, 2), (196, .iaload, 1), (197, .iaload, 1), (198, .if_icmp .ge 8, 3), (201, .iload 5, 2), (203, .goto 15, 3), (206, .aload_n 0, 1)]
set_option maxRecDepth 100000 in
theorem xi_ok313_6 : xi_ok cX12_fewest xi_313_6 = true := by decide +kernel
def xi_313_7 : XIs := [(207, .getfield 79, 3), (210, .aload_n 0, 1), (211, .getfield 20, 3), (214, .iload 4, 2), (216, .iaload, 1), (217, .iaload, 1), (218, .iastore, 1), (219, .iinc 4 1, 3), (222, .goto (-172), 3), (225, .iinc 3 1, 3), (228, .goto (-192), 3), (231, .return_, 1)]
set_option maxRecDepth 100000 in
theorem xi_ok313_7 : xi_ok cX12_fewest xi_313_7 = true := by decide +kernel
def xi_313 (pc : Nat) : XIs := cond (Nat.blt pc 124) (cond (Nat.blt pc 60) (cond (Nat.blt pc 28) (xi_313_0) (xi_313_1)) (cond (Nat.blt pc 92) (xi_313_2) (xi_313_3))) (cond (Nat.blt pc 177) (cond (Nat.blt pc 151) (xi_313_4) (xi_313_5)) (cond (Nat.blt pc 207) (xi_313_6) (xi_313_7)))
theorem xi_ok313 (pc : Nat) : xi_ok cX12_fewest (xi_313 pc) = true := xi_c (xi_c (xi_c (xi_ok313_0) (xi_ok313_1)) (xi_c (xi_ok313_2) (xi_ok313_3))) (xi_c (xi_c (xi_ok313_4) (xi_ok313_5)) (xi_c (xi_ok313_6) (xi_ok313_7)))
def xi_314_0 : XIs := [(0, .aload_n 0, 1), (1, .iconst 0, 1), (2, .iconst (-1), 1), (3, .iconst (-1), 1), (4, .invokevirtual 433, 3), (7, .iconst 0, 1), (8, .istore_n 3, 1), (9, .iconst 0, 1), (10, .istore 4, 2), (12, .iload 4, 2), (14, .aload_n 0, 1), (15, .getfield 285, 3), (18, .if_icmp .ge 48, 3), (21, .iload_n 3, 1), (22, .aload_n 0, 1), (23, .getfield 72, 3)]
set_option maxRecDepth 100000 in
theorem xi_ok314_0 : xi_ok cX12_between xi_314_0 = true := by decide +kernel
def xi_314_1 : XIs := [(26, .iload_n 1, 1), (27, .iaload, 1), (28, .iload 4, 2), (30, .invokestatic 427, 3), (33, .ifCond .eq 24, 3), (36, .aload_n 0, 1), (37, .getfield 72, 3), (40, .iload 4, 2), (42, .iaload, 1), (43, .iload_n 2, 1), (44, .invokestatic 427, 3), (47, .ifCond .eq 10, 3), (50, .iconst 1, 1), (51, .iload 4, 2), (53, .ishl, 1), (54, .goto 4, 3)]
set_option maxRecDepth 100000 in
theorem xi_ok314_1 : xi_ok cX12_between xi_314_1 = true := by decide +kernel
def xi_314_2 : XIs := [(57, .iconst 0, 1), (58, .ior, 1), (59, .istore_n 3, 1), (60, .iinc 4 1, 3), (63, .goto (-51), 3), (66, .iload_n 3, 1), (67, .ireturn, 1)]
set_option maxRecDepth 100000 in
theorem xi_ok314_2 : xi_ok cX12_between xi_314_2 = true := by decide +kernel
def xi_314 (pc : Nat) : XIs := cond (Nat.blt pc 26) (xi_314_0) (cond (Nat.blt pc 57) (xi_314_1) (xi_314_2))
theorem xi_ok314 (pc : Nat) : xi_ok cX12_between (xi_314 pc) = true := xi_c (xi_ok314_0) (xi_c (xi_ok314_1) (xi_ok314_2))
def xi_315_0 : XIs := [(0, .aload_n 0, 1), (1, .aload_n 0, 1), (2, .iload_n 1, 1), (3, .invokevirtual 349, 3), (6, .ifCond .eq 15, 3), (9, .aload_n 0, 1), (10, .iload_n 2, 1), (11, .invokevirtual 349, 3), (14, .ifCond .eq 7, 3), (17, .iconst 1, 1), (18, .goto 4, 3), (21, .iconst 0, 1), (22, .invokevirtual 334, 3), (25, .ifCond .eq 5, 3), (28, .lconst 0, 1), (29, .lreturn, 1)]
set_option maxRecDepth 100000 in
theorem xi_ok315_0 : xi_ok cX12_distance xi_315_0 = true := by decide +kernel
def xi_315_1 : XIs := [(30, .aload_n 0, 1), (31, .iload_n 1, 1), (32, .iload_n 2, 1), (33, .invokevirtual 437, 3), (36, .istore_n 3, 1), (37, .iload_n 3, 1), (38, .ifCond .ne 9, 3), (41, .ldc2_w 347, 3), (44, .goto 24, 3), (47, .aload_n 0, 1), (48, .iload_n 2, 1), (49, .iload_n 3, 1), (50, .invokevirtual 440, 3), (53, .ifCond .eq 12, 3), (56, .aload_n 0, 1), (57, .getfield 75, 3)]
set_option maxRecDepth 100000 in
theorem xi_ok315_1 : xi_ok cX12_distance xi_315_1 = true := by decide +kernel
def xi_315_2 : XIs := [(60, .iload_n 1, 1), (61, .laload, 1), (62, .goto 6, 3), (65, .ldc2_w 443, 3), (68, .lreturn, 1)]
set_option maxRecDepth 100000 in
theorem xi_ok315_2 : xi_ok cX12_distance xi_315_2 = true := by decide +kernel
def xi_315 (pc : Nat) : XIs := cond (Nat.blt pc 30) (xi_315_0) (cond (Nat.blt pc 60) (xi_315_1) (xi_315_2))
theorem xi_ok315 (pc : Nat) : xi_ok cX12_distance (xi_315 pc) = true := xi_c (xi_ok315_0) (xi_c (xi_ok315_1) (xi_ok315_2))
def xi_316_0 : XIs := [(0, .aload_n 0, 1), (1, .aload_n 0, 1), (2, .iload_n 1, 1), (3, .invokevirtual 349, 3), (6, .ifCond .eq 19, 3), (9, .aload_n 0, 1), (10, .iload_n 2, 1), (11, .invokevirtual 349, 3), (14, .ifCond .eq 11, 3), (17, .iload_n 3, 1), (18, .ifCond .lt 7, 3), (21, .iconst 1, 1), (22, .goto 4, 3), (25, .iconst 0, 1), (26, .invokevirtual 334, 3), (29, .ifCond .eq 5, 3)]
set_option maxRecDepth 100000 in
theorem xi_ok316_0 : xi_ok cX12_way xi_316_0 = true := by decide +kernel
def xi_316_1 : XIs := [(32, .iconst 0, 1), (33, .ireturn, 1), (34, .aload_n 0, 1), (35, .iload_n 1, 1), (36, .iload_n 2, 1), (37, .invokevirtual 437, 3), (40, .istore 4, 2), (42, .iload 4, 2), (44, .ifCond .eq 23, 3), (47, .aload_n 0, 1), (48, .iload_n 2, 1), (49, .iload 4, 2), (51, .invokevirtual 440, 3), (54, .ifCond .eq 13, 3), (57, .iload_n 3, 1), (58, .aload_n 0, 1)]
set_option maxRecDepth 100000 in
theorem xi_ok316_1 : xi_ok cX12_way xi_316_1 = true := by decide +kernel
def xi_316_2 : XIs := [(59, .getfield 79, 3), (62, .iload_n 1, 1), (63, .iaload, 1), (64, .if_icmp .lt 5, 3), (67, .iconst (-1), 1), (68, .ireturn, 1), (69, .iload_n 1, 1), (70, .istore 5, 2), (72, .iconst (-1), 1), (73, .istore 6, 2), (75, .iconst 0, 1), (76, .istore 7, 2), (78, .iload 7, 2), (80, .iload_n 3, 1), (81, .if_icmp .gt 184, 3), (84, .iconst (-1), 1)]
set_option maxRecDepth 100000 in
theorem xi_ok316_2 : xi_ok cX12_way xi_316_2 = true := by decide +kernel
def xi_316_3 : XIs := [(85, .istore 6, 2), (87, .sipush 159, 3), (90, .istore 8, 2), (92, .iload 8, 2), (94, .ifCond .lt 151, 3), (97, .aload_n 0, 1), (98, .getfield 288, 3), (101, .iload 8, 2), (103, .iadd, 1), (104, .istore 9, 2), (106, .aload_n 0, 1), (107, .getfield 16, 3), (110, .iload 9, 2), (112, .baload, 1), (113, .ifCond .eq 53, 3), (116, .aload_n 0, 1)]
set_option maxRecDepth 100000 in
theorem xi_ok316_3 : xi_ok cX12_way xi_316_3 = true := by decide +kernel
def xi_316_4 : XIs := [(117, .getfield 20, 3), (120, .iload 9, 2), (122, .iaload, 1), (123, .iload 5, 2), (125, .if_icmp .ne 41, 3), (128, .iload 4, 2), (130, .aload_n 0, 1), (131, .getfield 23, 3), (134, .iload 9, 2), (136, .iaload, 1), (137, .invokestatic 427, 3), (140, .ifCond .eq 26, 3), (143, .aload_n 0, 1), (144, .getfield 75, 3), (147, .aload_n 0, 1), (148, .getfield 23, 3)]
set_option maxRecDepth 100000 in
theorem xi_ok316_4 : xi_ok cX12_way xi_316_4 = true := by decide +kernel
def xi_316_5 : XIs := [(151, .iload 9, 2), (153, .iaload, 1), (154, .laload, 1), (155, .ldc2_w 347, 3), (158, .lcmp, 1), (159, .ifCond .ge 7, 3), (162, .iconst 1, 1), (163, .goto 4, 3), (166, .iconst 0, 1), (167, .istore 10, 2), (169, .iload 10, 2), (171, .ifCond .eq 64, 3), (174, .aload_n 0, 1), (175, .getfield 75, 3), (178, .iload 5, 2), (180, .laload, 1)]
set_option maxRecDepth 100000 in
theorem xi_ok316_5 : xi_ok cX12_way xi_316_5 = true := by decide +kernel
def xi_316_6 : XIs := [(181, .aload_n 0, 1), (182, .getfield 75, 3), (185, .aload_n 0, 1), (186, .getfield 23, 3), (189, .iload 9, 2), (191, .iaload, 1), (192, .laload, 1), (193, .aload_n 0, 1), (194, .getfield 26, 3), (197, .iload 9, 2), (199, .iaload, 1), (200, .i2l, 1), (201, .ladd, 1), (202, .lcmp, 1), (203, .ifCond .ne 32, 3), (206, .aload_n 0, 1)]
set_option maxRecDepth 100000 in
theorem xi_ok316_6 : xi_ok cX12_way xi_316_6 = true := by decide +kernel
def xi_316_7 : XIs := [(207, .getfield 79, 3), (210, .iload 5, 2), (212, .iaload, 1), (213, .aload_n 0, 1), (214, .getfield 79, 3), (217, .aload_n 0, 1), (218, .getfield 23, 3), (221, .iload 9, 2), (223, .iaload, 1), (224, .iaload, 1), (225, .iconst 1, 1), (226, .iadd, 1), (227, .if_icmp .ne 8, 3), (230, .iload 8, 2), (232, .goto 5, 3), (235, .iload 6, 2)]
set_option maxRecDepth 100000 in
theorem xi_ok316_7 : xi_ok cX12_way xi_316_7 = true := by decide +kernel
def xi_316_8 : XIs := [(237, .istore 6, 2), (239, .iinc 8 (-1), 3), (242, .goto (-150), 3), (245, .aload_n 0, 1), (246, .getfield 23, 3), (249, .aload_n 0, 1), (250, .getfield 288, 3), (253, .iload 6, 2), (255, .iadd, 1), (256, .iaload, 1), (257, .istore 5, 2), (259, .iinc 7 1, 3), (262, .goto (-184), 3), (265, .iload 6, 2), (267, .ireturn, 1)]
set_option maxRecDepth 100000 in
theorem xi_ok316_8 : xi_ok cX12_way xi_316_8 = true := by decide +kernel
def xi_316 (pc : Nat) : XIs := cond (Nat.blt pc 117) (cond (Nat.blt pc 59) (cond (Nat.blt pc 32) (xi_316_0) (xi_316_1)) (cond (Nat.blt pc 85) (xi_316_2) (xi_316_3))) (cond (Nat.blt pc 181) (cond (Nat.blt pc 151) (xi_316_4) (xi_316_5)) (cond (Nat.blt pc 207) (xi_316_6) (cond (Nat.blt pc 237) (xi_316_7) (xi_316_8))))
theorem xi_ok316 (pc : Nat) : xi_ok cX12_way (xi_316 pc) = true := xi_c (xi_c (xi_c (xi_ok316_0) (xi_ok316_1)) (xi_c (xi_ok316_2) (xi_ok316_3))) (xi_c (xi_c (xi_ok316_4) (xi_ok316_5)) (xi_c (xi_ok316_6) (xi_c (xi_ok316_7) (xi_ok316_8))))
def xi_317_0 : XIs := [(0, .aload_n 0, 1), (1, .aload_n 0, 1), (2, .iload_n 1, 1), (3, .invokevirtual 349, 3), (6, .ifCond .eq 15, 3), (9, .aload_n 0, 1), (10, .iload_n 2, 1), (11, .invokevirtual 349, 3), (14, .ifCond .eq 7, 3), (17, .iconst 1, 1), (18, .goto 4, 3), (21, .iconst 0, 1), (22, .invokevirtual 334, 3), (25, .ifCond .eq 5, 3), (28, .iconst 0, 1), (29, .ireturn, 1)]
set_option maxRecDepth 100000 in
theorem xi_ok317_0 : xi_ok cX12_width xi_317_0 = true := by decide +kernel
def xi_317_1 : XIs := [(30, .iconst 0, 1), (31, .istore_n 3, 1), (32, .iload_n 3, 1), (33, .aload_n 0, 1), (34, .getfield 285, 3), (37, .if_icmp .ge 27, 3), (40, .aload_n 0, 1), (41, .getfield 85, 3), (44, .iload_n 3, 1), (45, .iload_n 3, 1), (46, .iload_n 1, 1), (47, .if_icmp .ne 9, 3), (50, .ldc_w 445, 3), (53, .goto 4, 3), (56, .iconst (-1), 1), (57, .iastore, 1)]
set_option maxRecDepth 100000 in
theorem xi_ok317_1 : xi_ok cX12_width xi_317_1 = true := by decide +kernel
def xi_317_2 : XIs := [(58, .iinc 3 1, 3), (61, .goto (-29), 3), (64, .iconst 0, 1), (65, .istore_n 3, 1), (66, .iload_n 3, 1), (67, .aload_n 0, 1), (68, .getfield 285, 3), (71, .if_icmp .ge 151, 3), (74, .aload_n 0, 1), (75, .getfield 288, 3), (78, .istore 4, 2), (80, .iload 4, 2), (82, .aload_n 0, 1), (83, .getfield 288, 3), (86, .sipush 160, 3), (89, .iadd, 1)]
set_option maxRecDepth 100000 in
theorem xi_ok317_2 : xi_ok cX12_width xi_317_2 = true := by decide +kernel
def xi_317_3 : XIs := [(90, .if_icmp .ge 126, 3), (93, .aload_n 0, 1), (94, .getfield 16, 3), (97, .iload 4, 2), (99, .baload, 1), (100, .ifCond .eq 110, 3), (103, .aload_n 0, 1), (104, .getfield 85, 3), (107, .aload_n 0, 1), (108, .getfield 20, 3), (111, .iload 4, 2), (113, .iaload, 1), (114, .iaload, 1), (115, .ifCond .lt 95, 3), (118, .aload_n 0, 1), (119, .getfield 29, 3)]
set_option maxRecDepth 100000 in
theorem xi_ok317_3 : xi_ok cX12_width xi_317_3 = true := by decide +kernel
def xi_317_4 : XIs := [(122, .iload 4, 2), (124, .iaload, 1), (125, .aload_n 0, 1), (126, .getfield 85, 3), (129, .aload_n 0, 1), (130, .getfield 20, 3), (133, .iload 4, 2), (135, .iaload, 1), (136, .iaload, 1), (137, .if_icmp .ge 13, 3), (140, .aload_n 0, 1), (141, .getfield 29, 3), (144, .iload 4, 2), (146, .iaload, 1), (147, .goto 15, 3), (150, .aload_n 0, 1)]
set_option maxRecDepth 100000 in
theorem xi_ok317_4 : xi_ok cX12_width xi_317_4 = true := by decide +kernel
def xi_317_5 : XIs := [(151, .getfield 85, 3), (154, .aload_n 0, 1), (155, .getfield 20, 3), (158, .iload 4, 2), (160, .iaload, 1), (161, .iaload, 1), (162, .istore 5, 2), (164, .aload_n 0, 1), (165, .getfield 85, 3), (168, .aload_n 0, 1), (169, .getfield 23, 3), (172, .iload 4, 2), (174, .iaload, 1), (175, .iload 5, 2), (177, .aload_n 0, 1), (178, .getfield 85, 3)]
set_option maxRecDepth 100000 in
theorem xi_ok317_5 : xi_ok cX12_width xi_317_5 = true := by decide +kernel
def xi_317_6 : XIs := [(181, .aload_n 0, 1), (182, .getfield 23, 3), (185, .iload 4, 2), (187, .iaload, 1), (188, .iaload, 1), (189, .if_icmp .le 8, 3), (192, .iload 5, 2), (194, .goto 15, 3), (197, .aload_n 0, 1), (198, .getfield 85, 3), (201, .aload_n 0, 1), (202, .getfield 23, 3), (205, .iload 4, 2), (207, .iaload, 1), (208, .iaload, 1), (209, .iastore, 1)]
set_option maxRecDepth 100000 in
theorem xi_ok317_6 : xi_ok cX12_width xi_317_6 = true := by decide +kernel
def xi_317_7 : XIs := [(210, .iinc 4 1, 3), (213, .goto (-133), 3), (216, .iinc 3 1, 3), (219, .goto (-153), 3), (222, .aload_n 0, 1), (223, .getfield 85, 3), (226, .iload_n 2, 1), (227, .iaload, 1), (228, .ireturn, 1)]
set_option maxRecDepth 100000 in
theorem xi_ok317_7 : xi_ok cX12_width xi_317_7 = true := by decide +kernel
def xi_317 (pc : Nat) : XIs := cond (Nat.blt pc 122) (cond (Nat.blt pc 58) (cond (Nat.blt pc 30) (xi_317_0) (xi_317_1)) (cond (Nat.blt pc 90) (xi_317_2) (xi_317_3))) (cond (Nat.blt pc 181) (cond (Nat.blt pc 151) (xi_317_4) (xi_317_5)) (cond (Nat.blt pc 210) (xi_317_6) (xi_317_7)))
theorem xi_ok317 (pc : Nat) : xi_ok cX12_width (xi_317 pc) = true := xi_c (xi_c (xi_c (xi_ok317_0) (xi_ok317_1)) (xi_c (xi_ok317_2) (xi_ok317_3))) (xi_c (xi_c (xi_ok317_4) (xi_ok317_5)) (xi_c (xi_ok317_6) (xi_ok317_7)))
def xi_318_0 : XIs := [(0, .aload_n 0, 1), (1, .getfield 446, 3), (4, .sipush 2000, 3), (7, .if_icmp .gt 126, 3), (10, .iconst 5, 1), (11, .aload_n 0, 1), (12, .getfield 446, 3), (15, .imul, 1), (16, .istore 6, 2), (18, .aload_n 0, 1), (19, .getfield 88, 3), (22, .iload 6, 2), (24, .iload_n 1, 1), (25, .iastore, 1), (26, .aload_n 0, 1), (27, .getfield 88, 3)]
set_option maxRecDepth 100000 in
theorem xi_ok318_0 : xi_ok cX12_addShort xi_318_0 = true := by decide +kernel
def xi_318_1 : XIs := [(30, .iload 6, 2), (32, .iconst 1, 1), (33, .iadd, 1), (34, .iload_n 2, 1), (35, .iastore, 1), (36, .aload_n 0, 1), (37, .getfield 88, 3), (40, .iload 6, 2), (42, .iconst 2, 1), (43, .iadd, 1), (44, .iload_n 3, 1), (45, .iastore, 1), (46, .aload_n 0, 1), (47, .getfield 88, 3), (50, .iload 6, 2), (52, .iconst 3, 1)]
set_option maxRecDepth 100000 in
theorem xi_ok318_1 : xi_ok cX12_addShort xi_318_1 = true := by decide +kernel
def xi_318_2 : XIs := [(53, .iadd, 1), (54, .iload 4, 2), (56, .iastore, 1), (57, .aload_n 0, 1), (58, .getfield 88, 3), (61, .iload 6, 2), (63, .iconst 4, 1), (64, .iadd, 1), (65, .iload 5, 2), (67, .iastore, 1), (68, .lconst 0, 1), (69, .lstore 7, 2), (71, .iconst 1, 1), (72, .istore 9, 2), (74, .iload 9, 2), (76, .iload_n 1, 1)]
set_option maxRecDepth 100000 in
theorem xi_ok318_2 : xi_ok cX12_addShort xi_318_2 = true := by decide +kernel
def xi_318_3 : XIs := [(77, .if_icmp .gt 35, 3), (80, .lload 7, 2), (82, .aload_n 0, 1), (83, .getfield 26, 3), (86, .aload_n 0, 1), (87, .getfield 288, 3), (90, .aload_n 0, 1), (91, .getfield 88, 3), (94, .iload 6, 2), (96, .iload 9, 2), (98, .iadd, 1), (99, .iaload, 1), (100, .iadd, 1), (101, .iaload, 1), (102, .i2l, 1), (103, .ladd, 1)]
set_option maxRecDepth 100000 in
theorem xi_ok318_3 : xi_ok cX12_addShort xi_318_3 = true := by decide +kernel
def xi_318_4 : XIs := [(104, .lstore 7, 2), (106, .iinc 9 1, 3), (109, .goto (-35), 3), (112, .aload_n 0, 1), (113, .getfield 91, 3), (116, .aload_n 0, 1), (117, .getfield 446, 3), (120, .lload 7, 2), (122, .lastore, 1), (123, .aload_n 0, 1), (124, .dup, 1), (125, .getfield 446, 3), (128, .iconst 1, 1), (129, .iadd, 1), (130, .putfield 446, 3), (133, .return_, 1)]
set_option maxRecDepth 100000 in
theorem xi_ok318_4 : xi_ok cX12_addShort xi_318_4 = true := by decide +kernel
def xi_318 (pc : Nat) : XIs := cond (Nat.blt pc 53) (cond (Nat.blt pc 30) (xi_318_0) (xi_318_1)) (cond (Nat.blt pc 77) (xi_318_2) (cond (Nat.blt pc 104) (xi_318_3) (xi_318_4)))
theorem xi_ok318 (pc : Nat) : xi_ok cX12_addShort (xi_318 pc) = true := xi_c (xi_c (xi_ok318_0) (xi_ok318_1)) (xi_c (xi_ok318_2) (xi_c (xi_ok318_3) (xi_ok318_4)))
def xi_319_0 : XIs := [(0, .aload_n 0, 1), (1, .getfield 16, 3), (4, .aload_n 0, 1), (5, .getfield 288, 3), (8, .iload_n 1, 1), (9, .iadd, 1), (10, .baload, 1), (11, .ifCond .eq 40, 3), (14, .aload_n 0, 1), (15, .getfield 20, 3), (18, .aload_n 0, 1), (19, .getfield 288, 3), (22, .iload_n 1, 1), (23, .iadd, 1), (24, .iaload, 1), (25, .iload_n 2, 1)]
set_option maxRecDepth 100000 in
theorem xi_ok319_0 : xi_ok cX12_goesOn xi_319_0 = true := by decide +kernel
def xi_319_1 : XIs := [(26, .if_icmp .ne 25, 3), (29, .iload_n 3, 1), (30, .aload_n 0, 1), (31, .getfield 23, 3), (34, .aload_n 0, 1), (35, .getfield 288, 3), (38, .iload_n 1, 1), (39, .iadd, 1), (40, .iaload, 1), (41, .invokestatic 427, 3), (44, .ifCond .ne 7, 3), (47, .iconst 1, 1), (48, .goto 4, 3), (51, .iconst 0, 1), (52, .ireturn, 1)]
set_option maxRecDepth 100000 in
theorem xi_ok319_1 : xi_ok cX12_goesOn xi_319_1 = true := by decide +kernel
def xi_319 (pc : Nat) : XIs := cond (Nat.blt pc 26) (xi_319_0) (xi_319_1)
theorem xi_ok319 (pc : Nat) : xi_ok cX12_goesOn (xi_319 pc) = true := xi_c (xi_ok319_0) (xi_ok319_1)
def xi_320_0 : XIs := [(0, .aload_n 0, 1), (1, .iconst 0, 1), (2, .putfield 446, 3), (5, .iconst 0, 1), (6, .istore_n 3, 1), (7, .iload_n 3, 1), (8, .sipush 160, 3), (11, .if_icmp .ge 78, 3), (14, .aload_n 0, 1), (15, .getfield 446, 3), (18, .sipush 2000, 3), (21, .if_icmp .gt 68, 3), (24, .aload_n 0, 1), (25, .iload_n 3, 1), (26, .iload_n 1, 1), (27, .iconst 1, 1)]
set_option maxRecDepth 100000 in
theorem xi_ok320_0 : xi_ok cX12_findShorts xi_320_0 = true := by decide +kernel
def xi_320_1 : XIs := [(28, .iload_n 1, 1), (29, .ishl, 1), (30, .invokevirtual 449, 3), (33, .ifCond .eq 50, 3), (36, .aload_n 0, 1), (37, .getfield 23, 3), (40, .aload_n 0, 1), (41, .getfield 288, 3), (44, .iload_n 3, 1), (45, .iadd, 1), (46, .iaload, 1), (47, .istore 4, 2), (49, .iload 4, 2), (51, .iload_n 2, 1), (52, .if_icmp .ne 15, 3), (55, .aload_n 0, 1)]
set_option maxRecDepth 100000 in
theorem xi_ok320_1 : xi_ok cX12_findShorts xi_320_1 = true := by decide +kernel
def xi_320_2 : XIs := [(56, .iconst 1, 1), (57, .iload_n 3, 1), (58, .iconst 0, 1), (59, .iconst 0, 1), (60, .iconst 0, 1), (61, .invokevirtual 453, 3), (64, .goto 19, 3), (67, .aload_n 0, 1), (68, .iload_n 3, 1), (69, .iload 4, 2), (71, .iconst 1, 1), (72, .iload_n 1, 1), (73, .ishl, 1), (74, .iconst 1, 1), (75, .iload 4, 2), (77, .ishl, 1)]
set_option maxRecDepth 100000 in
theorem xi_ok320_2 : xi_ok cX12_findShorts xi_320_2 = true := by decide +kernel
def xi_320_3 : XIs := [(78, .ior, 1), (79, .iload_n 2, 1), (80, .invokevirtual 457, 3), (83, .iinc 3 1, 3), (86, .goto (-79), 3), (89, .return_, 1)]
set_option maxRecDepth 100000 in
theorem xi_ok320_3 : xi_ok cX12_findShorts xi_320_3 = true := by decide +kernel
def xi_320 (pc : Nat) : XIs := cond (Nat.blt pc 56) (cond (Nat.blt pc 28) (xi_320_0) (xi_320_1)) (cond (Nat.blt pc 78) (xi_320_2) (xi_320_3))
theorem xi_ok320 (pc : Nat) : xi_ok cX12_findShorts (xi_320 pc) = true := xi_c (xi_c (xi_ok320_0) (xi_ok320_1)) (xi_c (xi_ok320_2) (xi_ok320_3))
def xi_321_0 : XIs := [(0, .iconst 0, 1), (1, .istore 5, 2), (3, .iload 5, 2), (5, .sipush 160, 3), (8, .if_icmp .ge 81, 3), (11, .aload_n 0, 1), (12, .getfield 446, 3), (15, .sipush 2000, 3), (18, .if_icmp .gt 71, 3), (21, .aload_n 0, 1), (22, .iload 5, 2), (24, .iload_n 2, 1), (25, .iload_n 3, 1), (26, .invokevirtual 449, 3), (29, .ifCond .eq 54, 3), (32, .aload_n 0, 1)]
set_option maxRecDepth 100000 in
theorem xi_ok321_0 : xi_ok cX12_second xi_321_0 = true := by decide +kernel
def xi_321_1 : XIs := [(33, .getfield 23, 3), (36, .aload_n 0, 1), (37, .getfield 288, 3), (40, .iload 5, 2), (42, .iadd, 1), (43, .iaload, 1), (44, .istore 6, 2), (46, .iload 6, 2), (48, .iload 4, 2), (50, .if_icmp .ne 16, 3), (53, .aload_n 0, 1), (54, .iconst 2, 1), (55, .iload_n 1, 1), (56, .iload 5, 2), (58, .iconst 0, 1), (59, .iconst 0, 1)]
set_option maxRecDepth 100000 in
theorem xi_ok321_1 : xi_ok cX12_second xi_321_1 = true := by decide +kernel
def xi_321_2 : XIs := [(60, .invokevirtual 453, 3), (63, .goto 20, 3), (66, .aload_n 0, 1), (67, .iload_n 1, 1), (68, .iload 5, 2), (70, .iload 6, 2), (72, .iload_n 3, 1), (73, .iconst 1, 1), (74, .iload 6, 2), (76, .ishl, 1), (77, .ior, 1), (78, .iload 4, 2), (80, .invokevirtual 461, 3), (83, .iinc 5 1, 3), (86, .goto (-83), 3), (89, .return_, 1)]
set_option maxRecDepth 100000 in
theorem xi_ok321_2 : xi_ok cX12_second xi_321_2 = true := by decide +kernel
def xi_321 (pc : Nat) : XIs := cond (Nat.blt pc 33) (xi_321_0) (cond (Nat.blt pc 60) (xi_321_1) (xi_321_2))
theorem xi_ok321 (pc : Nat) : xi_ok cX12_second (xi_321 pc) = true := xi_c (xi_ok321_0) (xi_c (xi_ok321_1) (xi_ok321_2))
def xi_322_0 : XIs := [(0, .iconst 0, 1), (1, .istore 6, 2), (3, .iload 6, 2), (5, .sipush 160, 3), (8, .if_icmp .ge 142, 3), (11, .aload_n 0, 1), (12, .getfield 446, 3), (15, .sipush 2000, 3), (18, .if_icmp .gt 132, 3), (21, .aload_n 0, 1), (22, .iload 6, 2), (24, .iload_n 3, 1), (25, .iload 4, 2), (27, .invokevirtual 449, 3), (30, .ifCond .eq 114, 3), (33, .aload_n 0, 1)]
set_option maxRecDepth 100000 in
theorem xi_ok322_0 : xi_ok cX12_third xi_322_0 = true := by decide +kernel
def xi_322_1 : XIs := [(34, .getfield 23, 3), (37, .aload_n 0, 1), (38, .getfield 288, 3), (41, .iload 6, 2), (43, .iadd, 1), (44, .iaload, 1), (45, .istore 7, 2), (47, .iload 7, 2), (49, .iload 5, 2), (51, .if_icmp .ne 16, 3), (54, .aload_n 0, 1), (55, .iconst 3, 1), (56, .iload_n 1, 1), (57, .iload_n 2, 1), (58, .iload 6, 2), (60, .iconst 0, 1)]
set_option maxRecDepth 100000 in
theorem xi_ok322_1 : xi_ok cX12_third xi_322_1 = true := by decide +kernel
def xi_322_2 : XIs := [(61, .invokevirtual 453, 3), (64, .goto 80, 3), (67, .iconst 0, 1), (68, .istore 8, 2), (70, .iload 8, 2), (72, .sipush 160, 3), (75, .if_icmp .ge 69, 3), (78, .aload_n 0, 1), (79, .getfield 16, 3), (82, .aload_n 0, 1), (83, .getfield 288, 3), (86, .iload 8, 2), (88, .iadd, 1), (89, .baload, 1), (90, .ifCond .eq 48, 3), (93, .aload_n 0, 1)]
set_option maxRecDepth 100000 in
theorem xi_ok322_2 : xi_ok cX12_third xi_322_2 = true := by decide +kernel
def xi_322_3 : XIs := [(94, .getfield 20, 3), (97, .aload_n 0, 1), (98, .getfield 288, 3), (101, .iload 8, 2), (103, .iadd, 1), (104, .iaload, 1), (105, .iload 7, 2), (107, .if_icmp .ne 31, 3), (110, .aload_n 0, 1), (111, .getfield 23, 3), (114, .aload_n 0, 1), (115, .getfield 288, 3), (118, .iload 8, 2), (120, .iadd, 1), (121, .iaload, 1), (122, .iload 5, 2)]
set_option maxRecDepth 100000 in
theorem xi_ok322_3 : xi_ok cX12_third xi_322_3 = true := by decide +kernel
def xi_322_4 : XIs := [(124, .if_icmp .ne 14, 3), (127, .aload_n 0, 1), (128, .iconst 4, 1), (129, .iload_n 1, 1), (130, .iload_n 2, 1), (131, .iload 6, 2), (133, .iload 8, 2), (135, .invokevirtual 453, 3), (138, .iinc 8 1, 3), (141, .goto (-71), 3), (144, .iinc 6 1, 3), (147, .goto (-144), 3), (150, .return_, 1)]
set_option maxRecDepth 100000 in
theorem xi_ok322_4 : xi_ok cX12_third xi_322_4 = true := by decide +kernel
def xi_322 (pc : Nat) : XIs := cond (Nat.blt pc 61) (cond (Nat.blt pc 34) (xi_322_0) (xi_322_1)) (cond (Nat.blt pc 94) (xi_322_2) (cond (Nat.blt pc 124) (xi_322_3) (xi_322_4)))
theorem xi_ok322 (pc : Nat) : xi_ok cX12_third (xi_322 pc) = true := xi_c (xi_c (xi_ok322_0) (xi_ok322_1)) (xi_c (xi_ok322_2) (xi_c (xi_ok322_3) (xi_ok322_4)))
def xi_323_0 : XIs := [(0, .aload_n 0, 1), (1, .getfield 91, 3), (4, .iload_n 1, 1), (5, .laload, 1), (6, .aload_n 0, 1), (7, .getfield 91, 3), (10, .iload_n 2, 1), (11, .laload, 1), (12, .lcmp, 1), (13, .ifCond .eq 25, 3), (16, .aload_n 0, 1), (17, .getfield 91, 3), (20, .iload_n 1, 1), (21, .laload, 1), (22, .aload_n 0, 1), (23, .getfield 91, 3)]
set_option maxRecDepth 100000 in
theorem xi_ok323_0 : xi_ok cX12_isBefore xi_323_0 = true := by decide +kernel
def xi_323_1 : XIs := [(26, .iload_n 2, 1), (27, .laload, 1), (28, .lcmp, 1), (29, .ifCond .ge 7, 3), (32, .iconst 1, 1), (33, .goto 4, 3), (36, .iconst 0, 1), (37, .ireturn, 1), (38, .aload_n 0, 1), (39, .getfield 88, 3), (42, .iconst 5, 1), (43, .iload_n 1, 1), (44, .imul, 1), (45, .iaload, 1), (46, .aload_n 0, 1), (47, .getfield 88, 3)]
set_option maxRecDepth 100000 in
theorem xi_ok323_1 : xi_ok cX12_isBefore xi_323_1 = true := by decide +kernel
def xi_323_2 : XIs := [(50, .iconst 5, 1), (51, .iload_n 2, 1), (52, .imul, 1), (53, .iaload, 1), (54, .if_icmp .eq 28, 3), (57, .aload_n 0, 1), (58, .getfield 88, 3), (61, .iconst 5, 1), (62, .iload_n 1, 1), (63, .imul, 1), (64, .iaload, 1), (65, .aload_n 0, 1), (66, .getfield 88, 3), (69, .iconst 5, 1), (70, .iload_n 2, 1), (71, .imul, 1)]
set_option maxRecDepth 100000 in
theorem xi_ok323_2 : xi_ok cX12_isBefore xi_323_2 = true := by decide +kernel
def xi_323_3 : XIs := [(72, .iaload, 1), (73, .if_icmp .ge 7, 3), (76, .iconst 1, 1), (77, .goto 4, 3), (80, .iconst 0, 1), (81, .ireturn, 1), (82, .iconst 1, 1), (83, .istore_n 3, 1), (84, .iload_n 3, 1), (85, .aload_n 0, 1), (86, .getfield 88, 3), (89, .iconst 5, 1), (90, .iload_n 1, 1), (91, .imul, 1), (92, .iaload, 1), (93, .if_icmp .gt 61, 3)]
set_option maxRecDepth 100000 in
theorem xi_ok323_3 : xi_ok cX12_isBefore xi_323_3 = true := by decide +kernel
def xi_323_4 : XIs := [(96, .aload_n 0, 1), (97, .getfield 88, 3), (100, .iconst 5, 1), (101, .iload_n 1, 1), (102, .imul, 1), (103, .iload_n 3, 1), (104, .iadd, 1), (105, .iaload, 1), (106, .aload_n 0, 1), (107, .getfield 88, 3), (110, .iconst 5, 1), (111, .iload_n 2, 1), (112, .imul, 1), (113, .iload_n 3, 1), (114, .iadd, 1), (115, .iaload, 1)]
set_option maxRecDepth 100000 in
theorem xi_ok323_4 : xi_ok cX12_isBefore xi_323_4 = true := by decide +kernel
