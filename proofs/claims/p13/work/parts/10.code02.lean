def xi_292_1 : XIs := [(28, .invokevirtual 334, 3), (31, .ifCond .eq 5, 3), (34, .iconst 0, 1), (35, .ireturn, 1), (36, .iconst 0, 1), (37, .istore 4, 2), (39, .iconst 0, 1), (40, .istore 5, 2), (42, .iload 5, 2), (44, .sipush 160, 3), (47, .if_icmp .ge 71, 3), (50, .aload_n 0, 1), (51, .getfield 16, 3), (54, .aload_n 0, 1), (55, .getfield 288, 3), (58, .iload 5, 2)]
set_option maxRecDepth 100000 in
theorem xi_ok292_1 : xi_ok cX12_arcAt xi_292_1 = true := by decide +kernel
def xi_292_2 : XIs := [(60, .iadd, 1), (61, .baload, 1), (62, .ifCond .eq 50, 3), (65, .iload_n 2, 1), (66, .ifCond .ne 18, 3), (69, .aload_n 0, 1), (70, .getfield 20, 3), (73, .aload_n 0, 1), (74, .getfield 288, 3), (77, .iload 5, 2), (79, .iadd, 1), (80, .iaload, 1), (81, .goto 15, 3), (84, .aload_n 0, 1), (85, .getfield 23, 3), (88, .aload_n 0, 1)]
set_option maxRecDepth 100000 in
theorem xi_ok292_2 : xi_ok cX12_arcAt xi_292_2 = true := by decide +kernel
def xi_292_3 : XIs := [(89, .getfield 288, 3), (92, .iload 5, 2), (94, .iadd, 1), (95, .iaload, 1), (96, .iload_n 1, 1), (97, .if_icmp .ne 15, 3), (100, .iload 4, 2), (102, .iload_n 3, 1), (103, .if_icmp .ne 6, 3), (106, .iload 5, 2), (108, .ireturn, 1), (109, .iinc 4 1, 3), (112, .iinc 5 1, 3), (115, .goto (-73), 3), (118, .iconst (-1), 1), (119, .ireturn, 1)]
set_option maxRecDepth 100000 in
theorem xi_ok292_3 : xi_ok cX12_arcAt xi_292_3 = true := by decide +kernel
def xi_292 (pc : Nat) : XIs := cond (Nat.blt pc 60) (cond (Nat.blt pc 28) (xi_292_0) (xi_292_1)) (cond (Nat.blt pc 89) (xi_292_2) (xi_292_3))
theorem xi_ok292 (pc : Nat) : xi_ok cX12_arcAt (xi_292 pc) = true := xi_c (xi_c (xi_ok292_0) (xi_ok292_1)) (xi_c (xi_ok292_2) (xi_ok292_3))
def xi_293_0 : XIs := [(0, .aload_n 0, 1), (1, .iload_n 1, 1), (2, .i2l, 1), (3, .ldc2_w 352, 3), (6, .ldc2_w 354, 3), (9, .invokestatic 308, 3), (12, .aload_n 0, 1), (13, .getfield 356, 3), (16, .sipush 1000, 3), (19, .if_icmp .ge 7, 3), (22, .iconst 1, 1), (23, .goto 4, 3), (26, .iconst 0, 1), (27, .invokevirtual 281, 3), (30, .ifCond .eq 5, 3), (33, .iconst 0, 1)]
set_option maxRecDepth 100000 in
theorem xi_ok293_0 : xi_ok cX12_type xi_293_0 = true := by decide +kernel
def xi_293_1 : XIs := [(34, .ireturn, 1), (35, .aload_n 0, 1), (36, .getfield 60, 3), (39, .aload_n 0, 1), (40, .getfield 356, 3), (43, .iload_n 1, 1), (44, .iastore, 1), (45, .aload_n 0, 1), (46, .dup, 1), (47, .getfield 356, 3), (50, .iconst 1, 1), (51, .iadd, 1), (52, .putfield 356, 3), (55, .aload_n 0, 1), (56, .getfield 356, 3), (59, .ireturn, 1)]
set_option maxRecDepth 100000 in
theorem xi_ok293_1 : xi_ok cX12_type xi_293_1 = true := by decide +kernel
def xi_293 (pc : Nat) : XIs := cond (Nat.blt pc 34) (xi_293_0) (xi_293_1)
theorem xi_ok293 (pc : Nat) : xi_ok cX12_type (xi_293 pc) = true := xi_c (xi_ok293_0) (xi_ok293_1)
def xi_294_0 : XIs := [(0, .aload_n 0, 1), (1, .iconst 0, 1), (2, .putfield 278, 3), (5, .aload_n 0, 1), (6, .getfield 356, 3), (9, .istore_n 1, 1), (10, .aload_n 0, 1), (11, .iconst 0, 1), (12, .putfield 356, 3), (15, .iload_n 1, 1), (16, .ireturn, 1)]
set_option maxRecDepth 100000 in
theorem xi_ok294_0 : xi_ok cX12_wipe xi_294_0 = true := by decide +kernel
def xi_294 (pc : Nat) : XIs := xi_294_0
theorem xi_ok294 (pc : Nat) : xi_ok cX12_wipe (xi_294 pc) = true := xi_ok294_0
def xi_295_0 : XIs := [(0, .aload_n 0, 1), (1, .iload_n 1, 1), (2, .i2l, 1), (3, .lconst 0, 1), (4, .lconst 1, 1), (5, .invokestatic 308, 3), (8, .invokevirtual 334, 3), (11, .ifCond .eq 5, 3), (14, .iconst 0, 1), (15, .ireturn, 1), (16, .aload_n 0, 1), (17, .getfield 359, 3), (20, .ifCond .ne 7, 3), (23, .iconst (-1), 1), (24, .goto 18, 3), (27, .iload_n 1, 1)]
set_option maxRecDepth 100000 in
theorem xi_ok295_0 : xi_ok cX12_fault xi_295_0 = true := by decide +kernel
def xi_295_1 : XIs := [(28, .ifCond .ne 10, 3), (31, .aload_n 0, 1), (32, .getfield 359, 3), (35, .goto 7, 3), (38, .aload_n 0, 1), (39, .getfield 362, 3), (42, .ireturn, 1)]
set_option maxRecDepth 100000 in
theorem xi_ok295_1 : xi_ok cX12_fault xi_295_1 = true := by decide +kernel
def xi_295 (pc : Nat) : XIs := cond (Nat.blt pc 28) (xi_295_0) (xi_295_1)
theorem xi_ok295 (pc : Nat) : xi_ok cX12_fault (xi_295 pc) = true := xi_c (xi_ok295_0) (xi_ok295_1)
def xi_296_0 : XIs := [(0, .iload_n 0, 1), (1, .bipush 97, 2), (3, .if_icmp .lt 13, 3), (6, .iload_n 0, 1), (7, .bipush 122, 2), (9, .if_icmp .gt 7, 3), (12, .iconst 1, 1), (13, .goto 4, 3), (16, .iconst 0, 1), (17, .ireturn, 1)]
set_option maxRecDepth 100000 in
theorem xi_ok296_0 : xi_ok cX12_isLetter xi_296_0 = true := by decide +kernel
def xi_296 (pc : Nat) : XIs := xi_296_0
theorem xi_ok296 (pc : Nat) : xi_ok cX12_isLetter (xi_296 pc) = true := xi_ok296_0
def xi_297_0 : XIs := [(0, .iload_n 0, 1), (1, .bipush 48, 2), (3, .if_icmp .lt 13, 3), (6, .iload_n 0, 1), (7, .bipush 57, 2), (9, .if_icmp .gt 7, 3), (12, .iconst 1, 1), (13, .goto 4, 3), (16, .iconst 0, 1), (17, .ireturn, 1)]
set_option maxRecDepth 100000 in
theorem xi_ok297_0 : xi_ok cX12_isDigit xi_297_0 = true := by decide +kernel
def xi_297 (pc : Nat) : XIs := xi_297_0
theorem xi_ok297 (pc : Nat) : xi_ok cX12_isDigit (xi_297 pc) = true := xi_ok297_0
def xi_298_0 : XIs := [(0, .aload_n 0, 1), (1, .getfield 359, 3), (4, .ifCond .ne 13, 3), (7, .aload_n 0, 1), (8, .iload_n 1, 1), (9, .putfield 359, 3), (12, .aload_n 0, 1), (13, .iload_n 2, 1), (14, .putfield 362, 3), (17, .return_, 1)]
set_option maxRecDepth 100000 in
theorem xi_ok298_0 : xi_ok cX12_blame xi_298_0 = true := by decide +kernel
def xi_298 (pc : Nat) : XIs := xi_298_0
theorem xi_ok298 (pc : Nat) : xi_ok cX12_blame (xi_298 pc) = true := xi_ok298_0
def xi_299 (pc : Nat) : XIs := []
theorem xi_ok299 (pc : Nat) : xi_ok cX12_nextToken (xi_299 pc) = true := rfl
def xi_300_0 : XIs := [(0, .aload_n 0, 1), (1, .getfield 365, 3), (4, .istore_n 2, 1), (5, .aload_n 0, 1), (6, .lconst 0, 1), (7, .putfield 384, 3), (10, .aload_n 0, 1), (11, .getfield 365, 3), (14, .aload_n 0, 1), (15, .getfield 356, 3), (18, .if_icmp .ge 75, 3), (21, .aload_n 0, 1), (22, .getfield 60, 3), (25, .aload_n 0, 1), (26, .getfield 365, 3), (29, .iaload, 1)]
set_option maxRecDepth 100000 in
theorem xi_ok300_0 : xi_ok cX12_readNumber xi_300_0 = true := by decide +kernel
def xi_300_1 : XIs := [(30, .invokestatic 377, 3), (33, .ifCond .eq 60, 3), (36, .aload_n 0, 1), (37, .aload_n 0, 1), (38, .getfield 365, 3), (41, .iload_n 2, 1), (42, .isub, 1), (43, .iload_n 1, 1), (44, .if_icmp .ge 29, 3), (47, .ldc2_w 394, 3), (50, .aload_n 0, 1), (51, .getfield 384, 3), (54, .lmul, 1), (55, .aload_n 0, 1), (56, .getfield 60, 3), (59, .aload_n 0, 1)]
set_option maxRecDepth 100000 in
theorem xi_ok300_1 : xi_ok cX12_readNumber xi_300_1 = true := by decide +kernel
def xi_300_2 : XIs := [(60, .getfield 365, 3), (63, .iaload, 1), (64, .i2l, 1), (65, .ladd, 1), (66, .ldc2_w 396, 3), (69, .lsub, 1), (70, .goto 7, 3), (73, .aload_n 0, 1), (74, .getfield 384, 3), (77, .putfield 384, 3), (80, .aload_n 0, 1), (81, .dup, 1), (82, .getfield 365, 3), (85, .iconst 1, 1), (86, .iadd, 1), (87, .putfield 365, 3)]
set_option maxRecDepth 100000 in
theorem xi_ok300_2 : xi_ok cX12_readNumber xi_300_2 = true := by decide +kernel
def xi_300_3 : XIs := [(90, .goto (-80), 3), (93, .aload_n 0, 1), (94, .getfield 365, 3), (97, .iload_n 2, 1), (98, .isub, 1), (99, .iload_n 1, 1), (100, .if_icmp .le 22, 3), (103, .aload_n 0, 1), (104, .iload_n 1, 1), (105, .bipush 7, 2), (107, .if_icmp .ne 7, 3), (110, .iconst 3, 1), (111, .goto 4, 3), (114, .iconst 4, 1), (115, .aload_n 0, 1), (116, .getfield 368, 3)]
set_option maxRecDepth 100000 in
theorem xi_ok300_3 : xi_ok cX12_readNumber xi_300_3 = true := by decide +kernel
def xi_300_4 : XIs := [(119, .invokevirtual 391, 3), (122, .return_, 1)]
set_option maxRecDepth 100000 in
theorem xi_ok300_4 : xi_ok cX12_readNumber xi_300_4 = true := by decide +kernel
def xi_300 (pc : Nat) : XIs := cond (Nat.blt pc 60) (cond (Nat.blt pc 30) (xi_300_0) (xi_300_1)) (cond (Nat.blt pc 90) (xi_300_2) (cond (Nat.blt pc 119) (xi_300_3) (xi_300_4)))
theorem xi_ok300 (pc : Nat) : xi_ok cX12_readNumber (xi_300 pc) = true := xi_c (xi_c (xi_ok300_0) (xi_ok300_1)) (xi_c (xi_ok300_2) (xi_c (xi_ok300_3) (xi_ok300_4)))
def xi_301 (pc : Nat) : XIs := []
theorem xi_ok301 (pc : Nat) : xi_ok cX12_shape (xi_301 pc) = true := rfl
def xi_302 (pc : Nat) : XIs := []
theorem xi_ok302 (pc : Nat) : xi_ok cX12_load (xi_302 pc) = true := rfl
def xi_303 (pc : Nat) : XIs := []
theorem xi_ok303 (pc : Nat) : xi_ok cX12_copyGraph (xi_303 pc) = true := rfl
def xi_304 (pc : Nat) : XIs := []
theorem xi_ok304 (pc : Nat) : xi_ok cX12_command (xi_304 pc) = true := rfl
def xi_305 (pc : Nat) : XIs := []
theorem xi_ok305 (pc : Nat) : xi_ok cX12_isDone (xi_305 pc) = true := rfl
def xi_306_0 : XIs := [(0, .aload_n 0, 1), (1, .getfield 63, 3), (4, .aload_n 0, 1), (5, .getfield 418, 3), (8, .iload_n 1, 1), (9, .iastore, 1), (10, .aload_n 0, 1), (11, .dup, 1), (12, .getfield 418, 3), (15, .iconst 1, 1), (16, .iadd, 1), (17, .putfield 418, 3), (20, .return_, 1)]
set_option maxRecDepth 100000 in
theorem xi_ok306_0 : xi_ok cX12_put xi_306_0 = true := by decide +kernel
def xi_306 (pc : Nat) : XIs := xi_306_0
theorem xi_ok306 (pc : Nat) : xi_ok cX12_put (xi_306 pc) = true := xi_ok306_0
def xi_307 (pc : Nat) : XIs := []
theorem xi_ok307 (pc : Nat) : xi_ok cX12_putNumber (xi_307 pc) = true := rfl
def xi_308 (pc : Nat) : XIs := []
theorem xi_ok308 (pc : Nat) : xi_ok cX12_print (xi_308 pc) = true := rfl
def xi_309_0 : XIs := [(0, .aload_n 0, 1), (1, .iload_n 1, 1), (2, .ifCond .lt 15, 3), (5, .iload_n 1, 1), (6, .aload_n 0, 1), (7, .getfield 418, 3), (10, .if_icmp .ge 7, 3), (13, .iconst 1, 1), (14, .goto 4, 3), (17, .iconst 0, 1), (18, .invokevirtual 334, 3), (21, .ifCond .eq 7, 3), (24, .iconst 0, 1), (25, .goto 9, 3), (28, .aload_n 0, 1), (29, .getfield 63, 3)]
set_option maxRecDepth 100000 in
theorem xi_ok309_0 : xi_ok cX12_printed xi_309_0 = true := by decide +kernel
def xi_309_1 : XIs := [(32, .iload_n 1, 1), (33, .iaload, 1), (34, .ireturn, 1)]
set_option maxRecDepth 100000 in
theorem xi_ok309_1 : xi_ok cX12_printed xi_309_1 = true := by decide +kernel
def xi_309 (pc : Nat) : XIs := cond (Nat.blt pc 32) (xi_309_0) (xi_309_1)
theorem xi_ok309 (pc : Nat) : xi_ok cX12_printed (xi_309 pc) = true := xi_c (xi_ok309_0) (xi_ok309_1)
def xi_310_0 : XIs := [(0, .iconst 0, 1), (1, .istore 4, 2), (3, .iload 4, 2), (5, .aload_n 0, 1), (6, .getfield 285, 3), (9, .if_icmp .ge 30, 3), (12, .aload_n 0, 1), (13, .getfield 72, 3), (16, .iload 4, 2), (18, .iload 4, 2), (20, .iload_n 3, 1), (21, .if_icmp .ne 7, 3), (24, .iconst 0, 1), (25, .goto 7, 3), (28, .iconst 1, 1), (29, .iload 4, 2)]
set_option maxRecDepth 100000 in
theorem xi_ok310_0 : xi_ok cX12_close xi_310_0 = true := by decide +kernel
def xi_310_1 : XIs := [(31, .ishl, 1), (32, .iastore, 1), (33, .iinc 4 1, 3), (36, .goto (-33), 3), (39, .iconst 0, 1), (40, .istore 4, 2), (42, .iload 4, 2), (44, .sipush 160, 3), (47, .if_icmp .ge 106, 3), (50, .aload_n 0, 1), (51, .getfield 20, 3), (54, .aload_n 0, 1), (55, .getfield 288, 3), (58, .iload 4, 2), (60, .iadd, 1), (61, .iaload, 1)]
set_option maxRecDepth 100000 in
theorem xi_ok310_1 : xi_ok cX12_close xi_310_1 = true := by decide +kernel
def xi_310_2 : XIs := [(62, .istore 5, 2), (64, .aload_n 0, 1), (65, .getfield 23, 3), (68, .aload_n 0, 1), (69, .getfield 288, 3), (72, .iload 4, 2), (74, .iadd, 1), (75, .iaload, 1), (76, .istore 6, 2), (78, .aload_n 0, 1), (79, .getfield 16, 3), (82, .aload_n 0, 1), (83, .getfield 288, 3), (86, .iload 4, 2), (88, .iadd, 1), (89, .baload, 1)]
set_option maxRecDepth 100000 in
theorem xi_ok310_2 : xi_ok cX12_close xi_310_2 = true := by decide +kernel
def xi_310_3 : XIs := [(90, .ifCond .eq 57, 3), (93, .iload 4, 2), (95, .iload_n 2, 1), (96, .if_icmp .eq 51, 3), (99, .iload 5, 2), (101, .iload_n 3, 1), (102, .if_icmp .eq 45, 3), (105, .iload 6, 2), (107, .iload_n 3, 1), (108, .if_icmp .eq 39, 3), (111, .aload_n 0, 1), (112, .getfield 72, 3), (115, .iload 5, 2), (117, .dup2, 1), (118, .iaload, 1), (119, .iconst 1, 1)]
set_option maxRecDepth 100000 in
theorem xi_ok310_3 : xi_ok cX12_close xi_310_3 = true := by decide +kernel
def xi_310_4 : XIs := [(120, .iload 6, 2), (122, .ishl, 1), (123, .ior, 1), (124, .iastore, 1), (125, .aload_n 0, 1), (126, .getfield 72, 3), (129, .iload 6, 2), (131, .dup2, 1), (132, .iaload, 1), (133, .iload_n 1, 1), (134, .ifCond .eq 10, 3), (137, .iconst 1, 1), (138, .iload 5, 2), (140, .ishl, 1), (141, .goto 4, 3), (144, .iconst 0, 1)]
set_option maxRecDepth 100000 in
theorem xi_ok310_4 : xi_ok cX12_close xi_310_4 = true := by decide +kernel
def xi_310_5 : XIs := [(145, .ior, 1), (146, .iastore, 1), (147, .iinc 4 1, 3), (150, .goto (-108), 3), (153, .iconst 0, 1), (154, .istore 4, 2), (156, .iload 4, 2), (158, .aload_n 0, 1), (159, .getfield 285, 3), (162, .if_icmp .ge 64, 3), (165, .iconst 0, 1), (166, .istore 5, 2), (168, .iload 5, 2), (170, .aload_n 0, 1), (171, .getfield 285, 3), (174, .if_icmp .ge 46, 3)]
set_option maxRecDepth 100000 in
theorem xi_ok310_5 : xi_ok cX12_close xi_310_5 = true := by decide +kernel
def xi_310_6 : XIs := [(177, .aload_n 0, 1), (178, .getfield 72, 3), (181, .iload 5, 2), (183, .dup2, 1), (184, .iaload, 1), (185, .aload_n 0, 1), (186, .getfield 72, 3), (189, .iload 5, 2), (191, .iaload, 1), (192, .iload 4, 2), (194, .ishr, 1), (195, .iconst 1, 1), (196, .iand, 1), (197, .iconst 1, 1), (198, .if_icmp .ne 13, 3), (201, .aload_n 0, 1)]
set_option maxRecDepth 100000 in
theorem xi_ok310_6 : xi_ok cX12_close xi_310_6 = true := by decide +kernel
def xi_310_7 : XIs := [(202, .getfield 72, 3), (205, .iload 4, 2), (207, .iaload, 1), (208, .goto 4, 3), (211, .iconst 0, 1), (212, .ior, 1), (213, .iastore, 1), (214, .iinc 5 1, 3), (217, .goto (-49), 3), (220, .iinc 4 1, 3), (223, .goto (-67), 3), (226, .return_, 1)]
set_option maxRecDepth 100000 in
theorem xi_ok310_7 : xi_ok cX12_close xi_310_7 = true := by decide +kernel
def xi_310 (pc : Nat) : XIs := cond (Nat.blt pc 120) (cond (Nat.blt pc 62) (cond (Nat.blt pc 31) (xi_310_0) (xi_310_1)) (cond (Nat.blt pc 90) (xi_310_2) (xi_310_3))) (cond (Nat.blt pc 177) (cond (Nat.blt pc 145) (xi_310_4) (xi_310_5)) (cond (Nat.blt pc 202) (xi_310_6) (xi_310_7)))
theorem xi_ok310 (pc : Nat) : xi_ok cX12_close (xi_310 pc) = true := xi_c (xi_c (xi_c (xi_ok310_0) (xi_ok310_1)) (xi_c (xi_ok310_2) (xi_ok310_3))) (xi_c (xi_c (xi_ok310_4) (xi_ok310_5)) (xi_c (xi_ok310_6) (xi_ok310_7)))
def xi_311_0 : XIs := [(0, .iload_n 0, 1), (1, .iload_n 1, 1), (2, .ishr, 1), (3, .iconst 1, 1), (4, .iand, 1), (5, .iconst 1, 1), (6, .if_icmp .ne 7, 3), (9, .iconst 1, 1), (10, .goto 4, 3), (13, .iconst 0, 1), (14, .ireturn, 1)]
set_option maxRecDepth 100000 in
theorem xi_ok311_0 : xi_ok cX12_has xi_311_0 = true := by decide +kernel
def xi_311 (pc : Nat) : XIs := xi_311_0
theorem xi_ok311 (pc : Nat) : xi_ok cX12_has (xi_311 pc) = true := xi_ok311_0
def xi_312_0 : XIs := [(0, .iconst 0, 1), (1, .istore_n 3, 1), (2, .iload_n 3, 1), (3, .aload_n 0, 1), (4, .getfield 285, 3), (7, .if_icmp .ge 25, 3), (10, .aload_n 0, 1), (11, .getfield 75, 3), (14, .iload_n 3, 1), (15, .ldc2_w 347, 3), (18, .lastore, 1), (19, .aload_n 0, 1), (20, .getfield 79, 3), (23, .iload_n 3, 1), (24, .iconst 0, 1), (25, .iastore, 1)]
set_option maxRecDepth 100000 in
theorem xi_ok312_0 : xi_ok cX12_toGoal xi_312_0 = true := by decide +kernel
def xi_312_1 : XIs := [(26, .iinc 3 1, 3), (29, .goto (-27), 3), (32, .aload_n 0, 1), (33, .getfield 75, 3), (36, .iload_n 1, 1), (37, .lconst 0, 1), (38, .lastore, 1), (39, .iconst 1, 1), (40, .istore_n 3, 1), (41, .iconst 0, 1), (42, .istore 4, 2), (44, .iload 4, 2), (46, .aload_n 0, 1), (47, .getfield 285, 3), (50, .if_icmp .gt 184, 3), (53, .iload_n 3, 1)]
set_option maxRecDepth 100000 in
theorem xi_ok312_1 : xi_ok cX12_toGoal xi_312_1 = true := by decide +kernel
def xi_312_2 : XIs := [(54, .ifCond .eq 180, 3), (57, .iconst 0, 1), (58, .istore_n 3, 1), (59, .aload_n 0, 1), (60, .getfield 288, 3), (63, .istore 5, 2), (65, .iload 5, 2), (67, .aload_n 0, 1), (68, .getfield 288, 3), (71, .sipush 160, 3), (74, .iadd, 1), (75, .if_icmp .ge 153, 3), (78, .aload_n 0, 1), (79, .getfield 16, 3), (82, .iload 5, 2), (84, .baload, 1)]
set_option maxRecDepth 100000 in
theorem xi_ok312_2 : xi_ok cX12_toGoal xi_312_2 = true := by decide +kernel
def xi_312_3 : XIs := [(85, .ifCond .eq 137, 3), (88, .iload_n 2, 1), (89, .aload_n 0, 1), (90, .getfield 20, 3), (93, .iload 5, 2), (95, .iaload, 1), (96, .invokestatic 427, 3), (99, .ifCond .eq 123, 3), (102, .iload_n 2, 1), (103, .aload_n 0, 1), (104, .getfield 23, 3), (107, .iload 5, 2), (109, .iaload, 1), (110, .invokestatic 427, 3), (113, .ifCond .eq 109, 3), (116, .aload_n 0, 1)]
set_option maxRecDepth 100000 in
theorem xi_ok312_3 : xi_ok cX12_toGoal xi_312_3 = true := by decide +kernel
def xi_312_4 : XIs := [(117, .getfield 75, 3), (120, .aload_n 0, 1), (121, .getfield 23, 3), (124, .iload 5, 2), (126, .iaload, 1), (127, .laload, 1), (128, .ldc2_w 347, 3), (131, .lcmp, 1), (132, .ifCond .ge 90, 3), (135, .aload_n 0, 1), (136, .getfield 75, 3), (139, .aload_n 0, 1), (140, .getfield 23, 3), (143, .iload 5, 2), (145, .iaload, 1), (146, .laload, 1)]
set_option maxRecDepth 100000 in
theorem xi_ok312_4 : xi_ok cX12_toGoal xi_312_4 = true := by decide +kernel
def xi_312_5 : XIs := [(147, .aload_n 0, 1), (148, .getfield 26, 3), (151, .iload 5, 2), (153, .iaload, 1), (154, .i2l, 1), (155, .ladd, 1), (156, .lstore 6, 2), (158, .aload_n 0, 1), (159, .getfield 79, 3), (162, .aload_n 0, 1), (163, .getfield 23, 3), (166, .iload 5, 2), (168, .iaload, 1), (169, .iaload, 1), (170, .iconst 1, 1), (171, .iadd, 1)]
set_option maxRecDepth 100000 in
theorem xi_ok312_5 : xi_ok cX12_toGoal xi_312_5 = true := by decide +kernel
def xi_312_6 : XIs := [(172, .istore 8, 2), (174, .lload 6, 2), (176, .aload_n 0, 1), (177, .getfield 75, 3), (180, .aload_n 0, 1), (181, .getfield 20, 3), (184, .iload 5, 2), (186, .iaload, 1), (187, .laload, 1), (188, .lcmp, 1), (189, .ifCond .ge 33, 3), (192, .aload_n 0, 1), (193, .getfield 75, 3), (196, .aload_n 0, 1), (197, .getfield 20, 3), (200, .iload 5, 2)]
set_option maxRecDepth 100000 in
theorem xi_ok312_6 : xi_ok cX12_toGoal xi_312_6 = true := by decide +kernel
def xi_312_7 : XIs := [(202, .iaload, 1), (203, .lload 6, 2), (205, .lastore, 1), (206, .aload_n 0, 1), (207, .getfield 79, 3), (210, .aload_n 0, 1), (211, .getfield 20, 3), (214, .iload 5, 2), (216, .iaload, 1), (217, .iload 8, 2), (219, .iastore, 1), (220, .iconst 1, 1), (221, .istore_n 3, 1), (222, .iinc 5 1, 3), (225, .goto (-160), 3), (228, .iinc 4 1, 3)]
set_option maxRecDepth 100000 in
theorem xi_ok312_7 : xi_ok cX12_toGoal xi_312_7 = true := by decide +kernel
def xi_312_8 : XIs := [(231, .goto (-187), 3), (234, .iload_n 3, 1), (235, .ifCond .eq 5, 3), (238, .iconst 0, 1), (239, .ireturn, 1), (240, .aload_n 0, 1), (241, .iload_n 1, 1), (242, .iload_n 2, 1), (243, .invokevirtual 430, 3), (246, .iconst 1, 1), (247, .ireturn, 1)]
set_option maxRecDepth 100000 in
theorem xi_ok312_8 : xi_ok cX12_toGoal xi_312_8 = true := by decide +kernel
def xi_312 (pc : Nat) : XIs := cond (Nat.blt pc 117) (cond (Nat.blt pc 54) (cond (Nat.blt pc 26) (xi_312_0) (xi_312_1)) (cond (Nat.blt pc 85) (xi_312_2) (xi_312_3))) (cond (Nat.blt pc 172) (cond (Nat.blt pc 147) (xi_312_4) (xi_312_5)) (cond (Nat.blt pc 202) (xi_312_6) (cond (Nat.blt pc 231) (xi_312_7) (xi_312_8))))
theorem xi_ok312 (pc : Nat) : xi_ok cX12_toGoal (xi_312 pc) = true := xi_c (xi_c (xi_c (xi_ok312_0) (xi_ok312_1)) (xi_c (xi_ok312_2) (xi_ok312_3))) (xi_c (xi_c (xi_ok312_4) (xi_ok312_5)) (xi_c (xi_ok312_6) (xi_c (xi_ok312_7) (xi_ok312_8))))
def xi_313_0 : XIs := [(0, .iconst 0, 1), (1, .istore_n 3, 1), (2, .iload_n 3, 1), (3, .aload_n 0, 1), (4, .getfield 285, 3), (7, .if_icmp .ge 27, 3), (10, .aload_n 0, 1), (11, .getfield 79, 3), (14, .iload_n 3, 1), (15, .iload_n 3, 1), (16, .iload_n 1, 1), (17, .if_icmp .ne 7, 3), (20, .iconst 0, 1), (21, .goto 6, 3), (24, .sipush 1000, 3), (27, .iastore, 1)]
set_option maxRecDepth 100000 in
theorem xi_ok313_0 : xi_ok cX12_fewest xi_313_0 = true := by decide +kernel
def xi_313_1 : XIs := [(28, .iinc 3 1, 3), (31, .goto (-29), 3), (34, .iconst 0, 1), (35, .istore_n 3, 1), (36, .iload_n 3, 1), (37, .aload_n 0, 1), (38, .getfield 285, 3), (41, .if_icmp .ge 190, 3), (44, .aload_n 0, 1), (45, .getfield 288, 3), (48, .istore 4, 2), (50, .iload 4, 2), (52, .aload_n 0, 1), (53, .getfield 288, 3), (56, .sipush 160, 3), (59, .iadd, 1)]
set_option maxRecDepth 100000 in
theorem xi_ok313_1 : xi_ok cX12_fewest xi_313_1 = true := by decide +kernel
def xi_313_2 : XIs := [(60, .if_icmp .ge 165, 3), (63, .aload_n 0, 1), (64, .getfield 16, 3), (67, .iload 4, 2), (69, .baload, 1), (70, .ifCond .eq 149, 3), (73, .iload_n 2, 1), (74, .aload_n 0, 1), (75, .getfield 20, 3), (78, .iload 4, 2), (80, .iaload, 1), (81, .invokestatic 427, 3), (84, .ifCond .eq 135, 3), (87, .iload_n 2, 1), (88, .aload_n 0, 1), (89, .getfield 23, 3)]
set_option maxRecDepth 100000 in
theorem xi_ok313_2 : xi_ok cX12_fewest xi_313_2 = true := by decide +kernel
def xi_313_3 : XIs := [(92, .iload 4, 2), (94, .iaload, 1), (95, .invokestatic 427, 3), (98, .ifCond .eq 121, 3), (101, .aload_n 0, 1), (102, .getfield 75, 3), (105, .aload_n 0, 1), (106, .getfield 23, 3), (109, .iload 4, 2), (111, .iaload, 1), (112, .laload, 1), (113, .ldc2_w 347, 3), (116, .lcmp, 1), (117, .ifCond .ge 102, 3), (120, .aload_n 0, 1), (121, .getfield 75, 3)]
set_option maxRecDepth 100000 in
theorem xi_ok313_3 : xi_ok cX12_fewest xi_313_3 = true := by decide +kernel
def xi_313_4 : XIs := [(124, .aload_n 0, 1), (125, .getfield 20, 3), (128, .iload 4, 2), (130, .iaload, 1), (131, .laload, 1), (132, .aload_n 0, 1), (133, .getfield 75, 3), (136, .aload_n 0, 1), (137, .getfield 23, 3), (140, .iload 4, 2), (142, .iaload, 1), (143, .laload, 1), (144, .aload_n 0, 1), (145, .getfield 26, 3), (148, .iload 4, 2), (150, .iaload, 1)]
set_option maxRecDepth 100000 in
theorem xi_ok313_4 : xi_ok cX12_fewest xi_313_4 = true := by decide +kernel
def xi_313_5 : XIs := [(151, .i2l, 1), (152, .ladd, 1), (153, .lcmp, 1), (154, .ifCond .ne 65, 3), (157, .aload_n 0, 1), (158, .getfield 79, 3), (161, .aload_n 0, 1), (162, .getfield 23, 3), (165, .iload 4, 2), (167, .iaload, 1), (168, .iaload, 1), (169, .iconst 1, 1), (170, .iadd, 1), (171, .istore 5, 2), (173, .aload_n 0, 1), (174, .getfield 79, 3)]
set_option maxRecDepth 100000 in
theorem xi_ok313_5 : xi_ok cX12_fewest xi_313_5 = true := by decide +kernel
def xi_313_6 : XIs := [(177, .aload_n 0, 1), (178, .getfield 20, 3), (181, .iload 4, 2), (183, .iaload, 1), (184, .iload 5, 2), (186, .aload_n 0, 1), (187, .getfield 79, 3), (190, .aload_n 0, 1), (191, .getfield 20, 3), (194, .iload 4, 2), (196, .iaload, 1), (197, .iaload, 1), (198, .if_icmp .ge 8, 3), (201, .iload 5, 2), (203, .goto 15, 3), (206, .aload_n 0, 1)]
set_option maxRecDepth 100000 in
theorem xi_ok313_6 : xi_ok cX12_fewest xi_313_6 = true := by decide +kernel
def xi_313_7 : XIs := [(207, .getfield 79, 3), (210, .aload_n 0, 1), (211, .getfield 20, 3), (214, .iload 4, 2), (216, .iaload, 1), (217, .iaload, 1), (218, .iastore, 1), (219, .iinc 4 1, 3), (222, .goto (-172), 3), (225, .iinc 3 1, 3), (228, .goto (-192), 3), (231, .return_, 1)]
set_option maxRecDepth 100000 in
theorem xi_ok313_7 : xi_ok cX12_fewest xi_313_7 = true := by decide +kernel
def xi_313 (pc : Nat) : XIs := cond (Nat.blt pc 124) (cond (Nat.blt pc 60) (cond (Nat.blt pc 28) (xi_313_0) (xi_313_1)) (cond (Nat.blt pc 92) (xi_313_2) (xi_313_3))) (cond (Nat.blt pc 177) (cond (Nat.blt pc 151) (xi_313_4) (xi_313_5)) (cond (Nat.blt pc 207) (xi_313_6) (xi_313_7)))
theorem xi_ok313 (pc : Nat) : xi_ok cX12_fewest (xi_313 pc) = true := xi_c (xi_c (xi_c (xi_ok313_0) (xi_ok313_1)) (xi_c (xi_ok313_2) (xi_ok313_3))) (xi_c (xi_c (xi_ok313_4) (xi_ok313_5)) (xi_c (xi_ok313_6) (xi_ok313_7)))
def xi_314_0 : XIs := [(0, .aload_n 0, 1), (1, .iconst 0, 1), (2, .iconst (-1), 1), (3, .iconst (-1), 1), (4, .invokevirtual 433, 3), (7, .iconst 0, 1), (8, .istore_n 3, 1), (9, .iconst 0, 1), (10, .istore 4, 2), (12, .iload 4, 2), (14, .aload_n 0, 1), (15, .getfield 285, 3), (18, .if_icmp .ge 48, 3), (21, .iload_n 3, 1), (22, .aload_n 0, 1), (23, .getfield 72, 3)]
set_option maxRecDepth 100000 in
theorem xi_ok314_0 : xi_ok cX12_between xi_314_0 = true := by decide +kernel
def xi_314_1 : XIs := [(26, .iload_n 1, 1), (27, .iaload, 1), (28, .iload 4, 2), (30, .invokestatic 427, 3), (33, .ifCond .eq 24, 3), (36, .aload_n 0, 1), (37, .getfield 72, 3), (40, .iload 4, 2), (42, .iaload, 1), (43, .iload_n 2, 1), (44, .invokestatic 427, 3), (47, .ifCond .eq 10, 3), (50, .iconst 1, 1), (51, .iload 4, 2), (53, .ishl, 1), (54, .goto 4, 3)]
set_option maxRecDepth 100000 in
theorem xi_ok314_1 : xi_ok cX12_between xi_314_1 = true := by decide +kernel
def xi_314_2 : XIs := [(57, .iconst 0, 1), (58, .ior, 1), (59, .istore_n 3, 1), (60, .iinc 4 1, 3), (63, .goto (-51), 3), (66, .iload_n 3, 1), (67, .ireturn, 1)]
set_option maxRecDepth 100000 in
theorem xi_ok314_2 : xi_ok cX12_between xi_314_2 = true := by decide +kernel
def xi_314 (pc : Nat) : XIs := cond (Nat.blt pc 26) (xi_314_0) (cond (Nat.blt pc 57) (xi_314_1) (xi_314_2))
theorem xi_ok314 (pc : Nat) : xi_ok cX12_between (xi_314 pc) = true := xi_c (xi_ok314_0) (xi_c (xi_ok314_1) (xi_ok314_2))
def xi_315_0 : XIs := [(0, .aload_n 0, 1), (1, .aload_n 0, 1), (2, .iload_n 1, 1), (3, .invokevirtual 349, 3), (6, .ifCond .eq 15, 3), (9, .aload_n 0, 1), (10, .iload_n 2, 1), (11, .invokevirtual 349, 3), (14, .ifCond .eq 7, 3), (17, .iconst 1, 1), (18, .goto 4, 3), (21, .iconst 0, 1), (22, .invokevirtual 334, 3), (25, .ifCond .eq 5, 3), (28, .lconst 0, 1), (29, .lreturn, 1)]
set_option maxRecDepth 100000 in
theorem xi_ok315_0 : xi_ok cX12_distance xi_315_0 = true := by decide +kernel
def xi_315_1 : XIs := [(30, .aload_n 0, 1), (31, .iload_n 1, 1), (32, .iload_n 2, 1), (33, .invokevirtual 437, 3), (36, .istore_n 3, 1), (37, .iload_n 3, 1), (38, .ifCond .ne 9, 3), (41, .ldc2_w 347, 3), (44, .goto 24, 3), (47, .aload_n 0, 1), (48, .iload_n 2, 1), (49, .iload_n 3, 1), (50, .invokevirtual 440, 3), (53, .ifCond .eq 12, 3), (56, .aload_n 0, 1), (57, .getfield 75, 3)]
set_option maxRecDepth 100000 in
theorem xi_ok315_1 : xi_ok cX12_distance xi_315_1 = true := by decide +kernel
def xi_315_2 : XIs := [(60, .iload_n 1, 1), (61, .laload, 1), (62, .goto 6, 3), (65, .ldc2_w 443, 3), (68, .lreturn, 1)]
set_option maxRecDepth 100000 in
theorem xi_ok315_2 : xi_ok cX12_distance xi_315_2 = true := by decide +kernel
def xi_315 (pc : Nat) : XIs := cond (Nat.blt pc 30) (xi_315_0) (cond (Nat.blt pc 60) (xi_315_1) (xi_315_2))
theorem xi_ok315 (pc : Nat) : xi_ok cX12_distance (xi_315 pc) = true := xi_c (xi_ok315_0) (xi_c (xi_ok315_1) (xi_ok315_2))
def xi_316 (pc : Nat) : XIs := []
theorem xi_ok316 (pc : Nat) : xi_ok cX12_way (xi_316 pc) = true := rfl
def xi_317_0 : XIs := [(0, .aload_n 0, 1), (1, .aload_n 0, 1), (2, .iload_n 1, 1), (3, .invokevirtual 349, 3), (6, .ifCond .eq 15, 3), (9, .aload_n 0, 1), (10, .iload_n 2, 1), (11, .invokevirtual 349, 3), (14, .ifCond .eq 7, 3), (17, .iconst 1, 1), (18, .goto 4, 3), (21, .iconst 0, 1), (22, .invokevirtual 334, 3), (25, .ifCond .eq 5, 3), (28, .iconst 0, 1), (29, .ireturn, 1)]
set_option maxRecDepth 100000 in
theorem xi_ok317_0 : xi_ok cX12_width xi_317_0 = true := by decide +kernel
def xi_317_1 : XIs := [(30, .iconst 0, 1), (31, .istore_n 3, 1), (32, .iload_n 3, 1), (33, .aload_n 0, 1), (34, .getfield 285, 3), (37, .if_icmp .ge 27, 3), (40, .aload_n 0, 1), (41, .getfield 85, 3), (44, .iload_n 3, 1), (45, .iload_n 3, 1), (46, .iload_n 1, 1), (47, .if_icmp .ne 9, 3), (50, .ldc_w 445, 3), (53, .goto 4, 3), (56, .iconst (-1), 1), (57, .iastore, 1)]
set_option maxRecDepth 100000 in
theorem xi_ok317_1 : xi_ok cX12_width xi_317_1 = true := by decide +kernel
def xi_317_2 : XIs := [(58, .iinc 3 1, 3), (61, .goto (-29), 3), (64, .iconst 0, 1), (65, .istore_n 3, 1), (66, .iload_n 3, 1), (67, .aload_n 0, 1), (68, .getfield 285, 3), (71, .if_icmp .ge 151, 3), (74, .aload_n 0, 1), (75, .getfield 288, 3), (78, .istore 4, 2), (80, .iload 4, 2), (82, .aload_n 0, 1), (83, .getfield 288, 3), (86, .sipush 160, 3), (89, .iadd, 1)]
set_option maxRecDepth 100000 in
theorem xi_ok317_2 : xi_ok cX12_width xi_317_2 = true := by decide +kernel
def xi_317_3 : XIs := [(90, .if_icmp .ge 126, 3), (93, .aload_n 0, 1), (94, .getfield 16, 3), (97, .iload 4, 2), (99, .baload, 1), (100, .ifCond .eq 110, 3), (103, .aload_n 0, 1), (104, .getfield 85, 3), (107, .aload_n 0, 1), (108, .getfield 20, 3), (111, .iload 4, 2), (113, .iaload, 1), (114, .iaload, 1), (115, .ifCond .lt 95, 3), (118, .aload_n 0, 1), (119, .getfield 29, 3)]
set_option maxRecDepth 100000 in
theorem xi_ok317_3 : xi_ok cX12_width xi_317_3 = true := by decide +kernel
def xi_317_4 : XIs := [(122, .iload 4, 2), (124, .iaload, 1), (125, .aload_n 0, 1), (126, .getfield 85, 3), (129, .aload_n 0, 1), (130, .getfield 20, 3), (133, .iload 4, 2), (135, .iaload, 1), (136, .iaload, 1), (137, .if_icmp .ge 13, 3), (140, .aload_n 0, 1), (141, .getfield 29, 3), (144, .iload 4, 2), (146, .iaload, 1), (147, .goto 15, 3), (150, .aload_n 0, 1)]
set_option maxRecDepth 100000 in
theorem xi_ok317_4 : xi_ok cX12_width xi_317_4 = true := by decide +kernel
def xi_317_5 : XIs := [(151, .getfield 85, 3), (154, .aload_n 0, 1), (155, .getfield 20, 3), (158, .iload 4, 2), (160, .iaload, 1), (161, .iaload, 1), (162, .istore 5, 2), (164, .aload_n 0, 1), (165, .getfield 85, 3), (168, .aload_n 0, 1), (169, .getfield 23, 3), (172, .iload 4, 2), (174, .iaload, 1), (175, .iload 5, 2), (177, .aload_n 0, 1), (178, .getfield 85, 3)]
set_option maxRecDepth 100000 in
theorem xi_ok317_5 : xi_ok cX12_width xi_317_5 = true := by decide +kernel
def xi_317_6 : XIs := [(181, .aload_n 0, 1), (182, .getfield 23, 3), (185, .iload 4, 2), (187, .iaload, 1), (188, .iaload, 1), (189, .if_icmp .le 8, 3), (192, .iload 5, 2), (194, .goto 15, 3), (197, .aload_n 0, 1), (198, .getfield 85, 3), (201, .aload_n 0, 1), (202, .getfield 23, 3), (205, .iload 4, 2), (207, .iaload, 1), (208, .iaload, 1), (209, .iastore, 1)]
set_option maxRecDepth 100000 in
theorem xi_ok317_6 : xi_ok cX12_width xi_317_6 = true := by decide +kernel
def xi_317_7 : XIs := [(210, .iinc 4 1, 3), (213, .goto (-133), 3), (216, .iinc 3 1, 3), (219, .goto (-153), 3), (222, .aload_n 0, 1), (223, .getfield 85, 3), (226, .iload_n 2, 1), (227, .iaload, 1), (228, .ireturn, 1)]
set_option maxRecDepth 100000 in
theorem xi_ok317_7 : xi_ok cX12_width xi_317_7 = true := by decide +kernel
def xi_317 (pc : Nat) : XIs := cond (Nat.blt pc 122) (cond (Nat.blt pc 58) (cond (Nat.blt pc 30) (xi_317_0) (xi_317_1)) (cond (Nat.blt pc 90) (xi_317_2) (xi_317_3))) (cond (Nat.blt pc 181) (cond (Nat.blt pc 151) (xi_317_4) (xi_317_5)) (cond (Nat.blt pc 210) (xi_317_6) (xi_317_7)))
theorem xi_ok317 (pc : Nat) : xi_ok cX12_width (xi_317 pc) = true := xi_c (xi_c (xi_c (xi_ok317_0) (xi_ok317_1)) (xi_c (xi_ok317_2) (xi_ok317_3))) (xi_c (xi_c (xi_ok317_4) (xi_ok317_5)) (xi_c (xi_ok317_6) (xi_ok317_7)))
def xi_318 (pc : Nat) : XIs := []
theorem xi_ok318 (pc : Nat) : xi_ok cX12_addShort (xi_318 pc) = true := rfl
def xi_319_0 : XIs := [(0, .aload_n 0, 1), (1, .getfield 16, 3), (4, .aload_n 0, 1), (5, .getfield 288, 3), (8, .iload_n 1, 1), (9, .iadd, 1), (10, .baload, 1), (11, .ifCond .eq 40, 3), (14, .aload_n 0, 1), (15, .getfield 20, 3), (18, .aload_n 0, 1), (19, .getfield 288, 3), (22, .iload_n 1, 1), (23, .iadd, 1), (24, .iaload, 1), (25, .iload_n 2, 1)]
set_option maxRecDepth 100000 in
theorem xi_ok319_0 : xi_ok cX12_goesOn xi_319_0 = true := by decide +kernel
def xi_319_1 : XIs := [(26, .if_icmp .ne 25, 3), (29, .iload_n 3, 1), (30, .aload_n 0, 1), (31, .getfield 23, 3), (34, .aload_n 0, 1), (35, .getfield 288, 3), (38, .iload_n 1, 1), (39, .iadd, 1), (40, .iaload, 1), (41, .invokestatic 427, 3), (44, .ifCond .ne 7, 3), (47, .iconst 1, 1), (48, .goto 4, 3), (51, .iconst 0, 1), (52, .ireturn, 1)]
set_option maxRecDepth 100000 in
theorem xi_ok319_1 : xi_ok cX12_goesOn xi_319_1 = true := by decide +kernel
def xi_319 (pc : Nat) : XIs := cond (Nat.blt pc 26) (xi_319_0) (xi_319_1)
theorem xi_ok319 (pc : Nat) : xi_ok cX12_goesOn (xi_319 pc) = true := xi_c (xi_ok319_0) (xi_ok319_1)
def xi_320_0 : XIs := [(0, .aload_n 0, 1), (1, .iconst 0, 1), (2, .putfield 446, 3), (5, .iconst 0, 1), (6, .istore_n 3, 1), (7, .iload_n 3, 1), (8, .sipush 160, 3), (11, .if_icmp .ge 78, 3), (14, .aload_n 0, 1), (15, .getfield 446, 3), (18, .sipush 2000, 3), (21, .if_icmp .gt 68, 3), (24, .aload_n 0, 1), (25, .iload_n 3, 1), (26, .iload_n 1, 1), (27, .iconst 1, 1)]
set_option maxRecDepth 100000 in
theorem xi_ok320_0 : xi_ok cX12_findShorts xi_320_0 = true := by decide +kernel
def xi_320_1 : XIs := [(28, .iload_n 1, 1), (29, .ishl, 1), (30, .invokevirtual 449, 3), (33, .ifCond .eq 50, 3), (36, .aload_n 0, 1), (37, .getfield 23, 3), (40, .aload_n 0, 1), (41, .getfield 288, 3), (44, .iload_n 3, 1), (45, .iadd, 1), (46, .iaload, 1), (47, .istore 4, 2), (49, .iload 4, 2), (51, .iload_n 2, 1), (52, .if_icmp .ne 15, 3), (55, .aload_n 0, 1)]
set_option maxRecDepth 100000 in
theorem xi_ok320_1 : xi_ok cX12_findShorts xi_320_1 = true := by decide +kernel
def xi_320_2 : XIs := [(56, .iconst 1, 1), (57, .iload_n 3, 1), (58, .iconst 0, 1), (59, .iconst 0, 1), (60, .iconst 0, 1), (61, .invokevirtual 453, 3), (64, .goto 19, 3), (67, .aload_n 0, 1), (68, .iload_n 3, 1), (69, .iload 4, 2), (71, .iconst 1, 1), (72, .iload_n 1, 1), (73, .ishl, 1), (74, .iconst 1, 1), (75, .iload 4, 2), (77, .ishl, 1)]
set_option maxRecDepth 100000 in
theorem xi_ok320_2 : xi_ok cX12_findShorts xi_320_2 = true := by decide +kernel
def xi_320_3 : XIs := [(78, .ior, 1), (79, .iload_n 2, 1), (80, .invokevirtual 457, 3), (83, .iinc 3 1, 3), (86, .goto (-79), 3), (89, .return_, 1)]
set_option maxRecDepth 100000 in
theorem xi_ok320_3 : xi_ok cX12_findShorts xi_320_3 = true := by decide +kernel
def xi_320 (pc : Nat) : XIs := cond (Nat.blt pc 56) (cond (Nat.blt pc 28) (xi_320_0) (xi_320_1)) (cond (Nat.blt pc 78) (xi_320_2) (xi_320_3))
theorem xi_ok320 (pc : Nat) : xi_ok cX12_findShorts (xi_320 pc) = true := xi_c (xi_c (xi_ok320_0) (xi_ok320_1)) (xi_c (xi_ok320_2) (xi_ok320_3))
def xi_321_0 : XIs := [(0, .iconst 0, 1), (1, .istore 5, 2), (3, .iload 5, 2), (5, .sipush 160, 3), (8, .if_icmp .ge 81, 3), (11, .aload_n 0, 1), (12, .getfield 446, 3), (15, .sipush 2000, 3), (18, .if_icmp .gt 71, 3), (21, .aload_n 0, 1), (22, .iload 5, 2), (24, .iload_n 2, 1), (25, .iload_n 3, 1), (26, .invokevirtual 449, 3), (29, .ifCond .eq 54, 3), (32, .aload_n 0, 1)]
set_option maxRecDepth 100000 in
theorem xi_ok321_0 : xi_ok cX12_second xi_321_0 = true := by decide +kernel
def xi_321_1 : XIs := [(33, .getfield 23, 3), (36, .aload_n 0, 1), (37, .getfield 288, 3), (40, .iload 5, 2), (42, .iadd, 1), (43, .iaload, 1), (44, .istore 6, 2), (46, .iload 6, 2), (48, .iload 4, 2), (50, .if_icmp .ne 16, 3), (53, .aload_n 0, 1), (54, .iconst 2, 1), (55, .iload_n 1, 1), (56, .iload 5, 2), (58, .iconst 0, 1), (59, .iconst 0, 1)]
set_option maxRecDepth 100000 in
theorem xi_ok321_1 : xi_ok cX12_second xi_321_1 = true := by decide +kernel
def xi_321_2 : XIs := [(60, .invokevirtual 453, 3), (63, .goto 20, 3), (66, .aload_n 0, 1), (67, .iload_n 1, 1), (68, .iload 5, 2), (70, .iload 6, 2), (72, .iload_n 3, 1), (73, .iconst 1, 1), (74, .iload 6, 2), (76, .ishl, 1), (77, .ior, 1), (78, .iload 4, 2), (80, .invokevirtual 461, 3), (83, .iinc 5 1, 3), (86, .goto (-83), 3), (89, .return_, 1)]
set_option maxRecDepth 100000 in
theorem xi_ok321_2 : xi_ok cX12_second xi_321_2 = true := by decide +kernel
def xi_321 (pc : Nat) : XIs := cond (Nat.blt pc 33) (xi_321_0) (cond (Nat.blt pc 60) (xi_321_1) (xi_321_2))
theorem xi_ok321 (pc : Nat) : xi_ok cX12_second (xi_321 pc) = true := xi_c (xi_ok321_0) (xi_c (xi_ok321_1) (xi_ok321_2))
def xi_322_0 : XIs := [(0, .iconst 0, 1), (1, .istore 6, 2), (3, .iload 6, 2), (5, .sipush 160, 3), (8, .if_icmp .ge 142, 3), (11, .aload_n 0, 1), (12, .getfield 446, 3), (15, .sipush 2000, 3), (18, .if_icmp .gt 132, 3), (21, .aload_n 0, 1), (22, .iload 6, 2), (24, .iload_n 3, 1), (25, .iload 4, 2), (27, .invokevirtual 449, 3), (30, .ifCond .eq 114, 3), (33, .aload_n 0, 1)]
set_option maxRecDepth 100000 in
theorem xi_ok322_0 : xi_ok cX12_third xi_322_0 = true := by decide +kernel
def xi_322_1 : XIs := [(34, .getfield 23, 3), (37, .aload_n 0, 1), (38, .getfield 288, 3), (41, .iload 6, 2), (43, .iadd, 1), (44, .iaload, 1), (45, .istore 7, 2), (47, .iload 7, 2), (49, .iload 5, 2), (51, .if_icmp .ne 16, 3), (54, .aload_n 0, 1), (55, .iconst 3, 1), (56, .iload_n 1, 1), (57, .iload_n 2, 1), (58, .iload 6, 2), (60, .iconst 0, 1)]
set_option maxRecDepth 100000 in
theorem xi_ok322_1 : xi_ok cX12_third xi_322_1 = true := by decide +kernel
def xi_322_2 : XIs := [(61, .invokevirtual 453, 3), (64, .goto 80, 3), (67, .iconst 0, 1), (68, .istore 8, 2), (70, .iload 8, 2), (72, .sipush 160, 3), (75, .if_icmp .ge 69, 3), (78, .aload_n 0, 1), (79, .getfield 16, 3), (82, .aload_n 0, 1), (83, .getfield 288, 3), (86, .iload 8, 2), (88, .iadd, 1), (89, .baload, 1), (90, .ifCond .eq 48, 3), (93, .aload_n 0, 1)]
set_option maxRecDepth 100000 in
theorem xi_ok322_2 : xi_ok cX12_third xi_322_2 = true := by decide +kernel
def xi_322_3 : XIs := [(94, .getfield 20, 3), (97, .aload_n 0, 1), (98, .getfield 288, 3), (101, .iload 8, 2), (103, .iadd, 1), (104, .iaload, 1), (105, .iload 7, 2), (107, .if_icmp .ne 31, 3), (110, .aload_n 0, 1), (111, .getfield 23, 3), (114, .aload_n 0, 1), (115, .getfield 288, 3), (118, .iload 8, 2), (120, .iadd, 1), (121, .iaload, 1), (122, .iload 5, 2)]
set_option maxRecDepth 100000 in
theorem xi_ok322_3 : xi_ok cX12_third xi_322_3 = true := by decide +kernel
def xi_322_4 : XIs := [(124, .if_icmp .ne 14, 3), (127, .aload_n 0, 1), (128, .iconst 4, 1), (129, .iload_n 1, 1), (130, .iload_n 2, 1), (131, .iload 6, 2), (133, .iload 8, 2), (135, .invokevirtual 453, 3), (138, .iinc 8 1, 3), (141, .goto (-71), 3), (144, .iinc 6 1, 3), (147, .goto (-144), 3), (150, .return_, 1)]
set_option maxRecDepth 100000 in
theorem xi_ok322_4 : xi_ok cX12_third xi_322_4 = true := by decide +kernel
def xi_322 (pc : Nat) : XIs := cond (Nat.blt pc 61) (cond (Nat.blt pc 34) (xi_322_0) (xi_322_1)) (cond (Nat.blt pc 94) (xi_322_2) (cond (Nat.blt pc 124) (xi_322_3) (xi_322_4)))
theorem xi_ok322 (pc : Nat) : xi_ok cX12_third (xi_322 pc) = true := xi_c (xi_c (xi_ok322_0) (xi_ok322_1)) (xi_c (xi_ok322_2) (xi_c (xi_ok322_3) (xi_ok322_4)))
def xi_323 (pc : Nat) : XIs := []
theorem xi_ok323 (pc : Nat) : xi_ok cX12_isBefore (xi_323 pc) = true := rfl
def xi_324 (pc : Nat) : XIs := []
theorem xi_ok324 (pc : Nat) : xi_ok cX12_sortShorts (xi_324 pc) = true := rfl
def xi_325_0 : XIs := [(0, .aload_n 0, 1), (1, .aload_n 0, 1), (2, .iload_n 1, 1), (3, .invokevirtual 349, 3), (6, .ifCond .eq 20, 3), (9, .aload_n 0, 1), (10, .iload_n 2, 1), (11, .invokevirtual 349, 3), (14, .ifCond .eq 12, 3), (17, .iload_n 1, 1), (18, .iload_n 2, 1), (19, .if_icmp .eq 7, 3), (22, .iconst 1, 1), (23, .goto 4, 3), (26, .iconst 0, 1), (27, .invokevirtual 334, 3)]
set_option maxRecDepth 100000 in
theorem xi_ok325_0 : xi_ok cX12_shorts xi_325_0 = true := by decide +kernel
def xi_325_1 : XIs := [(30, .ifCond .eq 5, 3), (33, .iconst 0, 1), (34, .ireturn, 1), (35, .aload_n 0, 1), (36, .iload_n 1, 1), (37, .iload_n 2, 1), (38, .invokevirtual 467, 3), (41, .aload_n 0, 1), (42, .getfield 446, 3), (45, .sipush 2000, 3), (48, .if_icmp .le 8, 3), (51, .bipush (-2), 2), (53, .goto 7, 3), (56, .aload_n 0, 1), (57, .getfield 446, 3), (60, .ireturn, 1)]
set_option maxRecDepth 100000 in
theorem xi_ok325_1 : xi_ok cX12_shorts xi_325_1 = true := by decide +kernel
def xi_325 (pc : Nat) : XIs := cond (Nat.blt pc 30) (xi_325_0) (xi_325_1)
theorem xi_ok325 (pc : Nat) : xi_ok cX12_shorts (xi_325 pc) = true := xi_c (xi_ok325_0) (xi_ok325_1)
def xi_326 (pc : Nat) : XIs := []
theorem xi_ok326 (pc : Nat) : xi_ok cX12_shortArc (xi_326 pc) = true := rfl
def xi_327 (pc : Nat) : XIs := []
theorem xi_ok327 (pc : Nat) : xi_ok cX12_least (xi_327 pc) = true := rfl
def xi_328 (pc : Nat) : XIs := []
theorem xi_ok328 (pc : Nat) : xi_ok cX12_part (xi_328 pc) = true := rfl
def xi_329_0 : XIs := [(0, .aload_n 0, 1), (1, .iconst 1, 1), (2, .iload_n 1, 1), (3, .iload_n 2, 1), (4, .invokevirtual 433, 3), (7, .iconst 0, 1), (8, .istore_n 3, 1), (9, .iconst 0, 1), (10, .istore 4, 2), (12, .iload 4, 2), (14, .aload_n 0, 1), (15, .getfield 285, 3), (18, .if_icmp .ge 38, 3), (21, .iload_n 3, 1), (22, .iload 4, 2), (24, .iload_n 2, 1)]
set_option maxRecDepth 100000 in
theorem xi_ok329_0 : xi_ok cX12_weakParts xi_329_0 = true := by decide +kernel
def xi_329_1 : XIs := [(25, .if_icmp .eq 22, 3), (28, .aload_n 0, 1), (29, .getfield 72, 3), (32, .iload 4, 2), (34, .iaload, 1), (35, .invokestatic 473, 3), (38, .iload 4, 2), (40, .if_icmp .ne 7, 3), (43, .iconst 1, 1), (44, .goto 4, 3), (47, .iconst 0, 1), (48, .iadd, 1), (49, .istore_n 3, 1), (50, .iinc 4 1, 3), (53, .goto (-41), 3), (56, .iload_n 3, 1)]
set_option maxRecDepth 100000 in
theorem xi_ok329_1 : xi_ok cX12_weakParts xi_329_1 = true := by decide +kernel
def xi_329_2 : XIs := [(57, .ireturn, 1)]
set_option maxRecDepth 100000 in
theorem xi_ok329_2 : xi_ok cX12_weakParts xi_329_2 = true := by decide +kernel
def xi_329 (pc : Nat) : XIs := cond (Nat.blt pc 25) (xi_329_0) (cond (Nat.blt pc 57) (xi_329_1) (xi_329_2))
theorem xi_ok329 (pc : Nat) : xi_ok cX12_weakParts (xi_329 pc) = true := xi_c (xi_ok329_0) (xi_c (xi_ok329_1) (xi_ok329_2))
def xi_330_0 : XIs := [(0, .aload_n 0, 1), (1, .aload_n 0, 1), (2, .iload_n 1, 1), (3, .invokevirtual 476, 3), (6, .invokevirtual 334, 3), (9, .ifCond .eq 5, 3), (12, .iconst 0, 1), (13, .ireturn, 1), (14, .aload_n 0, 1), (15, .iload_n 1, 1), (16, .iconst (-1), 1), (17, .invokevirtual 479, 3), (20, .aload_n 0, 1), (21, .iconst (-1), 1), (22, .iconst (-1), 1), (23, .invokevirtual 479, 3)]
set_option maxRecDepth 100000 in
theorem xi_ok330_0 : xi_ok cX12_bridge xi_330_0 = true := by decide +kernel
def xi_330_1 : XIs := [(26, .if_icmp .le 7, 3), (29, .iconst 1, 1), (30, .goto 4, 3), (33, .iconst 0, 1), (34, .ireturn, 1)]
set_option maxRecDepth 100000 in
theorem xi_ok330_1 : xi_ok cX12_bridge xi_330_1 = true := by decide +kernel
def xi_330 (pc : Nat) : XIs := cond (Nat.blt pc 26) (xi_330_0) (xi_330_1)
theorem xi_ok330 (pc : Nat) : xi_ok cX12_bridge (xi_330 pc) = true := xi_c (xi_ok330_0) (xi_ok330_1)
def xi_331_0 : XIs := [(0, .aload_n 0, 1), (1, .aload_n 0, 1), (2, .iload_n 1, 1), (3, .invokevirtual 349, 3), (6, .invokevirtual 334, 3), (9, .ifCond .eq 5, 3), (12, .iconst 0, 1), (13, .ireturn, 1), (14, .aload_n 0, 1), (15, .iconst (-1), 1), (16, .iload_n 1, 1), (17, .invokevirtual 479, 3), (20, .aload_n 0, 1), (21, .iconst (-1), 1), (22, .iconst (-1), 1), (23, .invokevirtual 479, 3)]
set_option maxRecDepth 100000 in
theorem xi_ok331_0 : xi_ok cX12_cut xi_331_0 = true := by decide +kernel
def xi_331_1 : XIs := [(26, .if_icmp .le 7, 3), (29, .iconst 1, 1), (30, .goto 4, 3), (33, .iconst 0, 1), (34, .ireturn, 1)]
set_option maxRecDepth 100000 in
theorem xi_ok331_1 : xi_ok cX12_cut xi_331_1 = true := by decide +kernel
def xi_331 (pc : Nat) : XIs := cond (Nat.blt pc 26) (xi_331_0) (xi_331_1)
theorem xi_ok331 (pc : Nat) : xi_ok cX12_cut (xi_331 pc) = true := xi_c (xi_ok331_0) (xi_ok331_1)
def xi_332_0 : XIs := [(0, .aload_n 0, 1), (1, .iload_n 1, 1), (2, .ifCond .lt 7, 3), (5, .iconst 1, 1), (6, .goto 4, 3), (9, .iconst 0, 1), (10, .invokevirtual 334, 3), (13, .ifCond .eq 5, 3), (16, .iconst 0, 1), (17, .ireturn, 1), (18, .iconst 0, 1), (19, .istore_n 2, 1), (20, .iconst (-1), 1), (21, .istore_n 3, 1), (22, .iconst (-1), 1), (23, .istore 4, 2)]
set_option maxRecDepth 100000 in
theorem xi_ok332_0 : xi_ok cX12_order xi_332_0 = true := by decide +kernel
def xi_332_1 : XIs := [(25, .iconst 0, 1), (26, .istore 5, 2), (28, .iload 5, 2), (30, .aload_n 0, 1), (31, .getfield 285, 3), (34, .if_icmp .ge 158, 3), (37, .iconst (-1), 1), (38, .istore_n 3, 1), (39, .aload_n 0, 1), (40, .getfield 285, 3), (43, .iconst 1, 1), (44, .isub, 1), (45, .istore 6, 2), (47, .iload 6, 2), (49, .ifCond .lt 110, 3), (52, .iload_n 2, 1)]
set_option maxRecDepth 100000 in
theorem xi_ok332_1 : xi_ok cX12_order xi_332_1 = true := by decide +kernel
def xi_332_2 : XIs := [(53, .iload 6, 2), (55, .invokestatic 427, 3), (58, .ifCond .ne 7, 3), (61, .iconst 1, 1), (62, .goto 4, 3), (65, .iconst 0, 1), (66, .istore 7, 2), (68, .aload_n 0, 1), (69, .getfield 288, 3), (72, .istore 8, 2), (74, .iload 8, 2), (76, .aload_n 0, 1), (77, .getfield 288, 3), (80, .sipush 160, 3), (83, .iadd, 1), (84, .if_icmp .ge 57, 3)]
set_option maxRecDepth 100000 in
theorem xi_ok332_2 : xi_ok cX12_order xi_332_2 = true := by decide +kernel
def xi_332_3 : XIs := [(87, .iload 7, 2), (89, .ifCond .eq 52, 3), (92, .aload_n 0, 1), (93, .getfield 16, 3), (96, .iload 8, 2), (98, .baload, 1), (99, .ifCond .eq 29, 3), (102, .aload_n 0, 1), (103, .getfield 23, 3), (106, .iload 8, 2), (108, .iaload, 1), (109, .iload 6, 2), (111, .if_icmp .ne 17, 3), (114, .iload_n 2, 1), (115, .aload_n 0, 1), (116, .getfield 20, 3)]
set_option maxRecDepth 100000 in
theorem xi_ok332_3 : xi_ok cX12_order xi_332_3 = true := by decide +kernel
def xi_332_4 : XIs := [(119, .iload 8, 2), (121, .iaload, 1), (122, .invokestatic 427, 3), (125, .ifCond .eq 7, 3), (128, .iconst 1, 1), (129, .goto 4, 3), (132, .iconst 0, 1), (133, .istore 7, 2), (135, .iinc 8 1, 3), (138, .goto (-64), 3), (141, .iload 7, 2), (143, .ifCond .eq 8, 3), (146, .iload 6, 2), (148, .goto 4, 3), (151, .iload_n 3, 1), (152, .istore_n 3, 1)]
set_option maxRecDepth 100000 in
theorem xi_ok332_4 : xi_ok cX12_order xi_332_4 = true := by decide +kernel
def xi_332_5 : XIs := [(153, .iinc 6 (-1), 3), (156, .goto (-109), 3), (159, .iload_n 3, 1), (160, .iconst (-1), 1), (161, .if_icmp .ne 5, 3), (164, .iconst (-1), 1), (165, .ireturn, 1), (166, .iload_n 2, 1), (167, .iconst 1, 1), (168, .iload_n 3, 1), (169, .ishl, 1), (170, .ior, 1), (171, .istore_n 2, 1), (172, .iload 5, 2), (174, .iload_n 1, 1), (175, .if_icmp .ne 7, 3)]
set_option maxRecDepth 100000 in
theorem xi_ok332_5 : xi_ok cX12_order xi_332_5 = true := by decide +kernel
def xi_332_6 : XIs := [(178, .iload_n 3, 1), (179, .goto 5, 3), (182, .iload 4, 2), (184, .istore 4, 2), (186, .iinc 5 1, 3), (189, .goto (-161), 3), (192, .iload 4, 2), (194, .ireturn, 1)]
set_option maxRecDepth 100000 in
theorem xi_ok332_6 : xi_ok cX12_order xi_332_6 = true := by decide +kernel
def xi_332 (pc : Nat) : XIs := cond (Nat.blt pc 87) (cond (Nat.blt pc 25) (xi_332_0) (cond (Nat.blt pc 53) (xi_332_1) (xi_332_2))) (cond (Nat.blt pc 153) (cond (Nat.blt pc 119) (xi_332_3) (xi_332_4)) (cond (Nat.blt pc 178) (xi_332_5) (xi_332_6)))
theorem xi_ok332 (pc : Nat) : xi_ok cX12_order (xi_332 pc) = true := xi_c (xi_c (xi_ok332_0) (xi_c (xi_ok332_1) (xi_ok332_2))) (xi_c (xi_c (xi_ok332_3) (xi_ok332_4)) (xi_c (xi_ok332_5) (xi_ok332_6)))
def xi_333_0 : XIs := [(0, .iconst 0, 1), (1, .istore_n 3, 1), (2, .iconst 0, 1), (3, .istore 4, 2), (5, .iload 4, 2), (7, .sipush 160, 3), (10, .if_icmp .ge 84, 3), (13, .aload_n 0, 1), (14, .iload 4, 2), (16, .invokevirtual 340, 3), (19, .ifCond .eq 69, 3), (22, .aload_n 0, 1), (23, .getfield 20, 3), (26, .aload_n 0, 1), (27, .getfield 288, 3), (30, .iload 4, 2)]
set_option maxRecDepth 100000 in
theorem xi_ok333_0 : xi_ok cX12_jointsWith xi_333_0 = true := by decide +kernel
def xi_333_1 : XIs := [(32, .iadd, 1), (33, .iaload, 1), (34, .istore 5, 2), (36, .aload_n 0, 1), (37, .getfield 23, 3), (40, .aload_n 0, 1), (41, .getfield 288, 3), (44, .iload 4, 2), (46, .iadd, 1), (47, .iaload, 1), (48, .istore 6, 2), (50, .iload_n 3, 1), (51, .iload 5, 2), (53, .iload_n 1, 1), (54, .if_icmp .ne 12, 3), (57, .iload_n 2, 1)]
set_option maxRecDepth 100000 in
theorem xi_ok333_1 : xi_ok cX12_jointsWith xi_333_1 = true := by decide +kernel
def xi_333_2 : XIs := [(58, .iload 6, 2), (60, .invokestatic 427, 3), (63, .ifCond .ne 18, 3), (66, .iload 6, 2), (68, .iload_n 1, 1), (69, .if_icmp .ne 16, 3), (72, .iload_n 2, 1), (73, .iload 5, 2), (75, .invokestatic 427, 3), (78, .ifCond .eq 7, 3), (81, .iconst 1, 1), (82, .goto 4, 3), (85, .iconst 0, 1), (86, .iadd, 1), (87, .istore_n 3, 1), (88, .iinc 4 1, 3)]
set_option maxRecDepth 100000 in
theorem xi_ok333_2 : xi_ok cX12_jointsWith xi_333_2 = true := by decide +kernel
def xi_333_3 : XIs := [(91, .goto (-86), 3), (94, .iload_n 3, 1), (95, .ireturn, 1)]
set_option maxRecDepth 100000 in
theorem xi_ok333_3 : xi_ok cX12_jointsWith xi_333_3 = true := by decide +kernel
def xi_333 (pc : Nat) : XIs := cond (Nat.blt pc 58) (cond (Nat.blt pc 32) (xi_333_0) (xi_333_1)) (cond (Nat.blt pc 91) (xi_333_2) (xi_333_3))
theorem xi_ok333 (pc : Nat) : xi_ok cX12_jointsWith (xi_333 pc) = true := xi_c (xi_c (xi_ok333_0) (xi_ok333_1)) (xi_c (xi_ok333_2) (xi_ok333_3))
def xi_334 (pc : Nat) : XIs := []
theorem xi_ok334 (pc : Nat) : xi_ok cX12_core (xi_334 pc) = true := rfl
def xi_335_0 : XIs := [(0, .iconst 0, 1), (1, .istore_n 1, 1), (2, .iload_n 1, 1), (3, .aload_n 0, 1), (4, .getfield 285, 3), (7, .if_icmp .ge 16, 3), (10, .aload_n 0, 1), (11, .getfield 100, 3), (14, .iload_n 1, 1), (15, .iconst 0, 1), (16, .iastore, 1), (17, .iinc 1 1, 3), (20, .goto (-18), 3), (23, .iconst 0, 1), (24, .istore_n 1, 1), (25, .iload_n 1, 1)]
set_option maxRecDepth 100000 in
theorem xi_ok335_0 : xi_ok cX12_findBeside xi_335_0 = true := by decide +kernel
def xi_335_1 : XIs := [(26, .sipush 160, 3), (29, .if_icmp .ge 81, 3), (32, .aload_n 0, 1), (33, .iload_n 1, 1), (34, .invokevirtual 340, 3), (37, .ifCond .eq 67, 3), (40, .aload_n 0, 1), (41, .getfield 100, 3), (44, .aload_n 0, 1), (45, .getfield 20, 3), (48, .aload_n 0, 1), (49, .getfield 288, 3), (52, .iload_n 1, 1), (53, .iadd, 1), (54, .iaload, 1), (55, .dup2, 1)]
set_option maxRecDepth 100000 in
theorem xi_ok335_1 : xi_ok cX12_findBeside xi_335_1 = true := by decide +kernel
def xi_335_2 : XIs := [(56, .iaload, 1), (57, .iconst 1, 1), (58, .aload_n 0, 1), (59, .getfield 23, 3), (62, .aload_n 0, 1), (63, .getfield 288, 3), (66, .iload_n 1, 1), (67, .iadd, 1), (68, .iaload, 1), (69, .ishl, 1), (70, .ior, 1), (71, .iastore, 1), (72, .aload_n 0, 1), (73, .getfield 100, 3), (76, .aload_n 0, 1), (77, .getfield 23, 3)]
set_option maxRecDepth 100000 in
theorem xi_ok335_2 : xi_ok cX12_findBeside xi_335_2 = true := by decide +kernel
def xi_335_3 : XIs := [(80, .aload_n 0, 1), (81, .getfield 288, 3), (84, .iload_n 1, 1), (85, .iadd, 1), (86, .iaload, 1), (87, .dup2, 1), (88, .iaload, 1), (89, .iconst 1, 1), (90, .aload_n 0, 1), (91, .getfield 20, 3), (94, .aload_n 0, 1), (95, .getfield 288, 3), (98, .iload_n 1, 1), (99, .iadd, 1), (100, .iaload, 1), (101, .ishl, 1)]
set_option maxRecDepth 100000 in
theorem xi_ok335_3 : xi_ok cX12_findBeside xi_335_3 = true := by decide +kernel
def xi_335_4 : XIs := [(102, .ior, 1), (103, .iastore, 1), (104, .iinc 1 1, 3), (107, .goto (-82), 3), (110, .return_, 1)]
set_option maxRecDepth 100000 in
theorem xi_ok335_4 : xi_ok cX12_findBeside xi_335_4 = true := by decide +kernel
def xi_335 (pc : Nat) : XIs := cond (Nat.blt pc 56) (cond (Nat.blt pc 26) (xi_335_0) (xi_335_1)) (cond (Nat.blt pc 80) (xi_335_2) (cond (Nat.blt pc 102) (xi_335_3) (xi_335_4)))
theorem xi_ok335 (pc : Nat) : xi_ok cX12_findBeside (xi_335 pc) = true := xi_c (xi_c (xi_ok335_0) (xi_ok335_1)) (xi_c (xi_ok335_2) (xi_c (xi_ok335_3) (xi_ok335_4)))
def xi_336_0 : XIs := [(0, .iconst 0, 1), (1, .istore_n 1, 1), (2, .iconst 0, 1), (3, .istore_n 2, 1), (4, .iload_n 2, 1), (5, .bipush 32, 2), (7, .if_icmp .ge 17, 3), (10, .iload_n 1, 1), (11, .iload_n 0, 1), (12, .iload_n 2, 1), (13, .ishr, 1), (14, .iconst 1, 1), (15, .iand, 1), (16, .iadd, 1), (17, .istore_n 1, 1), (18, .iinc 2 1, 3)]
set_option maxRecDepth 100000 in
theorem xi_ok336_0 : xi_ok cX12_count xi_336_0 = true := by decide +kernel
def xi_336_1 : XIs := [(21, .goto (-17), 3), (24, .iload_n 1, 1), (25, .ireturn, 1)]
set_option maxRecDepth 100000 in
theorem xi_ok336_1 : xi_ok cX12_count xi_336_1 = true := by decide +kernel
def xi_336 (pc : Nat) : XIs := cond (Nat.blt pc 21) (xi_336_0) (xi_336_1)
theorem xi_ok336 (pc : Nat) : xi_ok cX12_count (xi_336 pc) = true := xi_c (xi_ok336_0) (xi_ok336_1)
def xi_337 (pc : Nat) : XIs := []
theorem xi_ok337 (pc : Nat) : xi_ok cX12_findClique (xi_337 pc) = true := rfl
def xi_338_0 : XIs := [(0, .aload_n 0, 1), (1, .iload_n 1, 1), (2, .ifCond .lt 7, 3), (5, .iconst 1, 1), (6, .goto 4, 3), (9, .iconst 0, 1), (10, .invokevirtual 334, 3), (13, .ifCond .eq 5, 3), (16, .iconst 0, 1), (17, .ireturn, 1), (18, .aload_n 0, 1), (19, .invokevirtual 491, 3), (22, .istore_n 2, 1), (23, .iconst 0, 1), (24, .istore_n 3, 1), (25, .iconst 0, 1)]
set_option maxRecDepth 100000 in
theorem xi_ok338_0 : xi_ok cX12_clique xi_338_0 = true := by decide +kernel
def xi_338_1 : XIs := [(26, .istore 4, 2), (28, .iload 4, 2), (30, .aload_n 0, 1), (31, .getfield 285, 3), (34, .if_icmp .ge 29, 3), (37, .iload_n 2, 1), (38, .iload 4, 2), (40, .invokestatic 427, 3), (43, .ifCond .eq 14, 3), (46, .iload_n 3, 1), (47, .iload_n 1, 1), (48, .if_icmp .ne 6, 3), (51, .iload 4, 2), (53, .ireturn, 1), (54, .iinc 3 1, 3), (57, .iinc 4 1, 3)]
set_option maxRecDepth 100000 in
theorem xi_ok338_1 : xi_ok cX12_clique xi_338_1 = true := by decide +kernel
def xi_338_2 : XIs := [(60, .goto (-32), 3), (63, .iconst (-1), 1), (64, .ireturn, 1)]
set_option maxRecDepth 100000 in
theorem xi_ok338_2 : xi_ok cX12_clique xi_338_2 = true := by decide +kernel
def xi_338 (pc : Nat) : XIs := cond (Nat.blt pc 26) (xi_338_0) (cond (Nat.blt pc 60) (xi_338_1) (xi_338_2))
theorem xi_ok338 (pc : Nat) : xi_ok cX12_clique (xi_338 pc) = true := xi_c (xi_ok338_0) (xi_c (xi_ok338_1) (xi_ok338_2))
def xi_339_0 : XIs := [(0, .iconst 0, 1), (1, .istore_n 2, 1), (2, .iconst 0, 1), (3, .istore_n 3, 1), (4, .iload_n 3, 1), (5, .aload_n 0, 1), (6, .getfield 285, 3), (9, .if_icmp .ge 46, 3), (12, .iload_n 2, 1), (13, .aload_n 0, 1), (14, .getfield 100, 3), (17, .iload_n 1, 1), (18, .iaload, 1), (19, .iload_n 3, 1), (20, .invokestatic 427, 3), (23, .ifCond .eq 23, 3)]
set_option maxRecDepth 100000 in
theorem xi_ok339_0 : xi_ok cX12_barsOf xi_339_0 = true := by decide +kernel
def xi_339_1 : XIs := [(26, .aload_n 0, 1), (27, .getfield 112, 3), (30, .iload_n 3, 1), (31, .iaload, 1), (32, .ifCond .lt 14, 3), (35, .iconst 1, 1), (36, .aload_n 0, 1), (37, .getfield 112, 3), (40, .iload_n 3, 1), (41, .iaload, 1), (42, .ishl, 1), (43, .goto 4, 3), (46, .iconst 0, 1), (47, .ior, 1), (48, .istore_n 2, 1), (49, .iinc 3 1, 3)]
set_option maxRecDepth 100000 in
theorem xi_ok339_1 : xi_ok cX12_barsOf xi_339_1 = true := by decide +kernel
def xi_339_2 : XIs := [(52, .goto (-48), 3), (55, .iload_n 2, 1), (56, .ireturn, 1)]
set_option maxRecDepth 100000 in
theorem xi_ok339_2 : xi_ok cX12_barsOf xi_339_2 = true := by decide +kernel
def xi_339 (pc : Nat) : XIs := cond (Nat.blt pc 26) (xi_339_0) (cond (Nat.blt pc 52) (xi_339_1) (xi_339_2))
theorem xi_ok339 (pc : Nat) : xi_ok cX12_barsOf (xi_339 pc) = true := xi_c (xi_ok339_0) (xi_c (xi_ok339_1) (xi_ok339_2))
def xi_340_0 : XIs := [(0, .iconst (-1), 1), (1, .istore_n 2, 1), (2, .iconst 0, 1), (3, .istore_n 3, 1), (4, .iconst 0, 1), (5, .istore 4, 2), (7, .iconst 0, 1), (8, .istore 5, 2), (10, .iload 5, 2), (12, .aload_n 0, 1), (13, .getfield 285, 3), (16, .if_icmp .ge 89, 3), (19, .aload_n 0, 1), (20, .getfield 495, 3), (23, .iload 5, 2), (25, .invokestatic 427, 3)]
set_option maxRecDepth 100000 in
theorem xi_ok340_0 : xi_ok cX12_tightest xi_340_0 = true := by decide +kernel
def xi_340_1 : XIs := [(28, .ifCond .eq 71, 3), (31, .aload_n 0, 1), (32, .getfield 112, 3), (35, .iload 5, 2), (37, .iaload, 1), (38, .ifCond .ge 61, 3), (41, .iload_n 1, 1), (42, .aload_n 0, 1), (43, .iload 5, 2), (45, .invokevirtual 498, 3), (48, .invokestatic 488, 3), (51, .isub, 1), (52, .istore 6, 2), (54, .aload_n 0, 1), (55, .getfield 100, 3), (58, .iload 5, 2)]
set_option maxRecDepth 100000 in
theorem xi_ok340_1 : xi_ok cX12_tightest xi_340_1 = true := by decide +kernel
def xi_340_2 : XIs := [(60, .iaload, 1), (61, .invokestatic 488, 3), (64, .istore 7, 2), (66, .iload_n 2, 1), (67, .ifCond .lt 22, 3), (70, .iload 6, 2), (72, .iload_n 3, 1), (73, .if_icmp .lt 16, 3), (76, .iload 6, 2), (78, .iload_n 3, 1), (79, .if_icmp .ne 20, 3), (82, .iload 7, 2), (84, .iload 4, 2), (86, .if_icmp .le 13, 3), (89, .iload 5, 2), (91, .istore_n 2, 1)]
set_option maxRecDepth 100000 in
theorem xi_ok340_2 : xi_ok cX12_tightest xi_340_2 = true := by decide +kernel
def xi_340_3 : XIs := [(92, .iload 6, 2), (94, .istore_n 3, 1), (95, .iload 7, 2), (97, .istore 4, 2), (99, .iinc 5 1, 3), (102, .goto (-92), 3), (105, .iload_n 2, 1), (106, .ireturn, 1)]
set_option maxRecDepth 100000 in
theorem xi_ok340_3 : xi_ok cX12_tightest xi_340_3 = true := by decide +kernel
def xi_340 (pc : Nat) : XIs := cond (Nat.blt pc 60) (cond (Nat.blt pc 28) (xi_340_0) (xi_340_1)) (cond (Nat.blt pc 92) (xi_340_2) (xi_340_3))
theorem xi_ok340 (pc : Nat) : xi_ok cX12_tightest (xi_340 pc) = true := xi_c (xi_c (xi_ok340_0) (xi_ok340_1)) (xi_c (xi_ok340_2) (xi_ok340_3))
def xi_341 (pc : Nat) : XIs := []
theorem xi_ok341 (pc : Nat) : xi_ok cX12_tough (xi_341 pc) = true := rfl
def xi_342 (pc : Nat) : XIs := []
theorem xi_ok342 (pc : Nat) : xi_ok cX12_hanging (xi_342 pc) = true := rfl
def xi_343 (pc : Nat) : XIs := []
theorem xi_ok343 (pc : Nat) : xi_ok cX12_isColourable (xi_343 pc) = true := rfl
def xi_344 (pc : Nat) : XIs := []
theorem xi_ok344 (pc : Nat) : xi_ok cX12_begin (xi_344 pc) = true := rfl
def xi_345 (pc : Nat) : XIs := []
theorem xi_ok345 (pc : Nat) : xi_ok cX12_isPartColourable (xi_345 pc) = true := rfl
def xi_346_0 : XIs := [(0, .iload_n 0, 1), (1, .iconst 1, 1), (2, .iadd, 1), (3, .iload_n 1, 1), (4, .if_icmp .ge 9, 3), (7, .iload_n 0, 1), (8, .iconst 1, 1), (9, .iadd, 1), (10, .goto 4, 3), (13, .iload_n 1, 1), (14, .istore_n 2, 1), (15, .iload_n 2, 1), (16, .bipush 32, 2), (18, .if_icmp .lt 7, 3), (21, .iconst (-1), 1), (22, .goto 8, 3)]
set_option maxRecDepth 100000 in
theorem xi_ok346_0 : xi_ok cX12_capped xi_346_0 = true := by decide +kernel
def xi_346_1 : XIs := [(25, .iconst 1, 1), (26, .iload_n 2, 1), (27, .ishl, 1), (28, .iconst 1, 1), (29, .isub, 1), (30, .ireturn, 1)]
set_option maxRecDepth 100000 in
theorem xi_ok346_1 : xi_ok cX12_capped xi_346_1 = true := by decide +kernel
def xi_346 (pc : Nat) : XIs := cond (Nat.blt pc 25) (xi_346_0) (xi_346_1)
theorem xi_ok346 (pc : Nat) : xi_ok cX12_capped (xi_346 pc) = true := xi_c (xi_ok346_0) (xi_ok346_1)
def xi_347 (pc : Nat) : XIs := []
theorem xi_ok347 (pc : Nat) : xi_ok cX12_colour (xi_347 pc) = true := rfl
def xi_348 (pc : Nat) : XIs := []
theorem xi_ok348 (pc : Nat) : xi_ok cX12_search (xi_348 pc) = true := rfl
def xi_349_0 : XIs := [(0, .aload_n 0, 1), (1, .getfield 130, 3), (4, .iload_n 1, 1), (5, .iaload, 1), (6, .istore_n 2, 1), (7, .iload_n 2, 1), (8, .sipush 200, 3), (11, .if_icmp .lt 21, 3), (14, .aload_n 0, 1), (15, .getfield 23, 3), (18, .aload_n 0, 1), (19, .getfield 288, 3), (22, .iload_n 2, 1), (23, .iadd, 1), (24, .sipush 200, 3), (27, .isub, 1)]
set_option maxRecDepth 100000 in
theorem xi_ok349_0 : xi_ok cX12_before xi_349_0 = true := by decide +kernel
def xi_349_1 : XIs := [(28, .iaload, 1), (29, .goto 14, 3), (32, .aload_n 0, 1), (33, .getfield 20, 3), (36, .aload_n 0, 1), (37, .getfield 288, 3), (40, .iload_n 2, 1), (41, .iadd, 1), (42, .iaload, 1), (43, .ireturn, 1)]
set_option maxRecDepth 100000 in
theorem xi_ok349_1 : xi_ok cX12_before xi_349_1 = true := by decide +kernel
def xi_349 (pc : Nat) : XIs := cond (Nat.blt pc 28) (xi_349_0) (xi_349_1)
theorem xi_ok349 (pc : Nat) : xi_ok cX12_before (xi_349 pc) = true := xi_c (xi_ok349_0) (xi_ok349_1)
def xi_350_0 : XIs := [(0, .aload_n 0, 1), (1, .getfield 130, 3), (4, .iload_n 1, 1), (5, .iaload, 1), (6, .istore_n 2, 1), (7, .iload_n 2, 1), (8, .sipush 200, 3), (11, .if_icmp .lt 16, 3), (14, .aload_n 0, 1), (15, .getfield 127, 3), (18, .iload_n 2, 1), (19, .sipush 200, 3), (22, .isub, 1), (23, .laload, 1), (24, .goto 22, 3), (27, .aload_n 0, 1)]
set_option maxRecDepth 100000 in
theorem xi_ok350_0 : xi_ok cX12_roomOn xi_350_0 = true := by decide +kernel
def xi_350_1 : XIs := [(28, .getfield 29, 3), (31, .aload_n 0, 1), (32, .getfield 288, 3), (35, .iload_n 2, 1), (36, .iadd, 1), (37, .iaload, 1), (38, .i2l, 1), (39, .aload_n 0, 1), (40, .getfield 127, 3), (43, .iload_n 2, 1), (44, .laload, 1), (45, .lsub, 1), (46, .lreturn, 1)]
set_option maxRecDepth 100000 in
theorem xi_ok350_1 : xi_ok cX12_roomOn xi_350_1 = true := by decide +kernel
def xi_350 (pc : Nat) : XIs := cond (Nat.blt pc 28) (xi_350_0) (xi_350_1)
theorem xi_ok350 (pc : Nat) : xi_ok cX12_roomOn (xi_350 pc) = true := xi_c (xi_ok350_0) (xi_ok350_1)
def xi_351_0 : XIs := [(0, .aload_n 0, 1), (1, .getfield 130, 3), (4, .iload_n 1, 1), (5, .iaload, 1), (6, .istore 4, 2), (8, .iload 4, 2), (10, .sipush 200, 3), (13, .if_icmp .lt 21, 3), (16, .aload_n 0, 1), (17, .getfield 127, 3), (20, .iload 4, 2), (22, .sipush 200, 3), (25, .isub, 1), (26, .dup2, 1), (27, .laload, 1), (28, .lload_n 2, 1)]
set_option maxRecDepth 100000 in
theorem xi_ok351_0 : xi_ok cX12_push xi_351_0 = true := by decide +kernel
def xi_351_1 : XIs := [(29, .lsub, 1), (30, .lastore, 1), (31, .goto 14, 3), (34, .aload_n 0, 1), (35, .getfield 127, 3), (38, .iload 4, 2), (40, .dup2, 1), (41, .laload, 1), (42, .lload_n 2, 1), (43, .ladd, 1), (44, .lastore, 1), (45, .return_, 1)]
set_option maxRecDepth 100000 in
theorem xi_ok351_1 : xi_ok cX12_push xi_351_1 = true := by decide +kernel
def xi_351 (pc : Nat) : XIs := cond (Nat.blt pc 29) (xi_351_0) (xi_351_1)
theorem xi_ok351 (pc : Nat) : xi_ok cX12_push (xi_351 pc) = true := xi_c (xi_ok351_0) (xi_ok351_1)
def xi_352 (pc : Nat) : XIs := []
theorem xi_ok352 (pc : Nat) : xi_ok cX12_most (xi_352 pc) = true := rfl
def xi_353_0 : XIs := [(0, .aload_n 0, 1), (1, .iload_n 1, 1), (2, .invokevirtual 349, 3), (5, .ifCond .eq 20, 3), (8, .aload_n 0, 1), (9, .iload_n 2, 1), (10, .invokevirtual 349, 3), (13, .ifCond .eq 12, 3), (16, .iload_n 1, 1), (17, .iload_n 2, 1), (18, .if_icmp .eq 7, 3), (21, .iconst 1, 1), (22, .goto 4, 3), (25, .iconst 0, 1), (26, .ireturn, 1)]
set_option maxRecDepth 100000 in
theorem xi_ok353_0 : xi_ok cX12_twoNodes xi_353_0 = true := by decide +kernel
def xi_353 (pc : Nat) : XIs := xi_353_0
theorem xi_ok353 (pc : Nat) : xi_ok cX12_twoNodes (xi_353 pc) = true := xi_ok353_0
def xi_354_0 : XIs := [(0, .aload_n 0, 1), (1, .aload_n 0, 1), (2, .iload_n 1, 1), (3, .iload_n 2, 1), (4, .invokevirtual 538, 3), (7, .invokevirtual 334, 3), (10, .ifCond .eq 7, 3), (13, .lconst 0, 1), (14, .goto 9, 3), (17, .aload_n 0, 1), (18, .iload_n 1, 1), (19, .iload_n 2, 1), (20, .invokevirtual 541, 3), (23, .lreturn, 1)]
set_option maxRecDepth 100000 in
theorem xi_ok354_0 : xi_ok cX12_flow xi_354_0 = true := by decide +kernel
def xi_354 (pc : Nat) : XIs := xi_354_0
theorem xi_ok354 (pc : Nat) : xi_ok cX12_flow (xi_354 pc) = true := xi_ok354_0
def xi_355_0 : XIs := [(0, .aload_n 0, 1), (1, .aload_n 0, 1), (2, .iload_n 1, 1), (3, .iload_n 2, 1), (4, .invokevirtual 538, 3), (7, .ifCond .eq 15, 3), (10, .aload_n 0, 1), (11, .iload_n 3, 1), (12, .invokevirtual 349, 3), (15, .ifCond .eq 7, 3), (18, .iconst 1, 1), (19, .goto 4, 3), (22, .iconst 0, 1), (23, .invokevirtual 334, 3), (26, .ifCond .eq 5, 3), (29, .iconst 0, 1)]
set_option maxRecDepth 100000 in
theorem xi_ok355_0 : xi_ok cX12_side xi_355_0 = true := by decide +kernel
def xi_355_1 : XIs := [(30, .ireturn, 1), (31, .aload_n 0, 1), (32, .iload_n 1, 1), (33, .iload_n 2, 1), (34, .invokevirtual 541, 3), (37, .lstore 4, 2), (39, .aload_n 0, 1), (40, .getfield 130, 3), (43, .iload_n 3, 1), (44, .iaload, 1), (45, .ifCond .lt 7, 3), (48, .iconst 1, 1), (49, .goto 4, 3), (52, .iconst 0, 1), (53, .ireturn, 1)]
set_option maxRecDepth 100000 in
theorem xi_ok355_1 : xi_ok cX12_side xi_355_1 = true := by decide +kernel
def xi_355 (pc : Nat) : XIs := cond (Nat.blt pc 30) (xi_355_0) (xi_355_1)
theorem xi_ok355 (pc : Nat) : xi_ok cX12_side (xi_355 pc) = true := xi_c (xi_ok355_0) (xi_ok355_1)
def xi_356 (pc : Nat) : XIs := []
theorem xi_ok356 (pc : Nat) : xi_ok cX12_cheapest (xi_356 pc) = true := rfl
def xi_357 (pc : Nat) : XIs := []
theorem xi_ok357 (pc : Nat) : xi_ok cX12_cost (xi_357 pc) = true := rfl
def xi_358 (pc : Nat) : XIs := []
theorem xi_ok358 (pc : Nat) : xi_ok cX12_sends (xi_358 pc) = true := rfl
def xi_359_0 : XIs := [(0, .aload_n 0, 1), (1, .getfield 13, 3), (4, .bipush 32, 2), (6, .aload_n 0, 1), (7, .getfield 301, 3), (10, .imul, 1), (11, .iload_n 1, 1), (12, .iadd, 1), (13, .iaload, 1), (14, .bipush 13, 2), (16, .if_icmp .ge 7, 3), (19, .iconst 1, 1), (20, .goto 4, 3), (23, .iconst 0, 1), (24, .ireturn, 1)]
set_option maxRecDepth 100000 in
theorem xi_ok359_0 : xi_ok cX12_isFirstSort xi_359_0 = true := by decide +kernel
def xi_359 (pc : Nat) : XIs := xi_359_0
theorem xi_ok359 (pc : Nat) : xi_ok cX12_isFirstSort (xi_359 pc) = true := xi_ok359_0
def xi_360 (pc : Nat) : XIs := []
theorem xi_ok360 (pc : Nat) : xi_ok cX12_pairUp (xi_360 pc) = true := rfl
def xi_361 (pc : Nat) : XIs := []
theorem xi_ok361 (pc : Nat) : xi_ok cX12_cheapestPair (xi_361 pc) = true := rfl
def xi_362_0 : XIs := [(0, .aload_n 0, 1), (1, .iload_n 1, 1), (2, .i2l, 1), (3, .lconst 0, 1), (4, .lconst 1, 1), (5, .invokestatic 308, 3), (8, .invokevirtual 334, 3), (11, .ifCond .eq 5, 3), (14, .lconst 0, 1), (15, .lreturn, 1), (16, .aload_n 0, 1), (17, .invokevirtual 559, 3), (20, .lconst 0, 1), (21, .lstore_n 2, 1), (22, .lconst 0, 1), (23, .lstore 4, 2)]
set_option maxRecDepth 100000 in
theorem xi_ok362_0 : xi_ok cX12_pairing xi_362_0 = true := by decide +kernel
def xi_362_1 : XIs := [(25, .iconst 0, 1), (26, .istore 6, 2), (28, .iload 6, 2), (30, .aload_n 0, 1), (31, .getfield 285, 3), (34, .if_icmp .ge 55, 3), (37, .aload_n 0, 1), (38, .iload 6, 2), (40, .invokevirtual 553, 3), (43, .ifCond .eq 40, 3), (46, .aload_n 0, 1), (47, .getfield 139, 3), (50, .iload 6, 2), (52, .iaload, 1), (53, .ifCond .lt 30, 3), (56, .lload_n 2, 1)]
set_option maxRecDepth 100000 in
theorem xi_ok362_1 : xi_ok cX12_pairing xi_362_1 = true := by decide +kernel
def xi_362_2 : XIs := [(57, .lconst 1, 1), (58, .ladd, 1), (59, .lstore_n 2, 1), (60, .lload 4, 2), (62, .aload_n 0, 1), (63, .getfield 142, 3), (66, .bipush 32, 2), (68, .iload 6, 2), (70, .imul, 1), (71, .aload_n 0, 1), (72, .getfield 139, 3), (75, .iload 6, 2), (77, .iaload, 1), (78, .iadd, 1), (79, .laload, 1), (80, .ladd, 1)]
set_option maxRecDepth 100000 in
theorem xi_ok362_2 : xi_ok cX12_pairing xi_362_2 = true := by decide +kernel
def xi_362_3 : XIs := [(81, .lstore 4, 2), (83, .iinc 6 1, 3), (86, .goto (-58), 3), (89, .iload_n 1, 1), (90, .ifCond .ne 7, 3), (93, .lload_n 2, 1), (94, .goto 5, 3), (97, .lload 4, 2), (99, .lreturn, 1)]
set_option maxRecDepth 100000 in
theorem xi_ok362_3 : xi_ok cX12_pairing xi_362_3 = true := by decide +kernel
def xi_362 (pc : Nat) : XIs := cond (Nat.blt pc 57) (cond (Nat.blt pc 25) (xi_362_0) (xi_362_1)) (cond (Nat.blt pc 81) (xi_362_2) (xi_362_3))
theorem xi_ok362 (pc : Nat) : xi_ok cX12_pairing (xi_362 pc) = true := xi_c (xi_c (xi_ok362_0) (xi_ok362_1)) (xi_c (xi_ok362_2) (xi_ok362_3))
def xi_363 (pc : Nat) : XIs := []
theorem xi_ok363 (pc : Nat) : xi_ok cX12_tree (xi_363 pc) = true := rfl
def xi_364 (pc : Nat) : XIs := []
theorem xi_ok364 (pc : Nat) : xi_ok cX12_rings (xi_364 pc) = true := rfl
def xi_365_0 : XIs := [(0, .aload_n 0, 1), (1, .aload_n 0, 1), (2, .iload_n 1, 1), (3, .invokevirtual 476, 3), (6, .invokevirtual 334, 3), (9, .ifCond .eq 5, 3), (12, .iconst 0, 1), (13, .ireturn, 1), (14, .aload_n 0, 1), (15, .iload_n 1, 1), (16, .invokevirtual 340, 3), (19, .ifCond .ne 5, 3), (22, .iconst 0, 1), (23, .ireturn, 1), (24, .iconst 0, 1), (25, .istore_n 2, 1)]
set_option maxRecDepth 100000 in
theorem xi_ok365_0 : xi_ok cX12_span xi_365_0 = true := by decide +kernel
def xi_365_1 : XIs := [(26, .iload_n 2, 1), (27, .aload_n 0, 1), (28, .getfield 285, 3), (31, .if_icmp .ge 16, 3), (34, .aload_n 0, 1), (35, .getfield 166, 3), (38, .iload_n 2, 1), (39, .iload_n 2, 1), (40, .iastore, 1), (41, .iinc 2 1, 3), (44, .goto (-18), 3), (47, .aload_n 0, 1), (48, .aload_n 0, 1), (49, .getfield 288, 3), (52, .iload_n 1, 1), (53, .iadd, 1)]
set_option maxRecDepth 100000 in
theorem xi_ok365_1 : xi_ok cX12_span xi_365_1 = true := by decide +kernel
def xi_365_2 : XIs := [(54, .iload_n 1, 1), (55, .invokevirtual 565, 3), (58, .lstore_n 2, 1), (59, .iconst 0, 1), (60, .istore 4, 2), (62, .iload 4, 2), (64, .aload_n 0, 1), (65, .getfield 285, 3), (68, .if_icmp .ge 145, 3), (71, .iconst 0, 1), (72, .istore 5, 2), (74, .iload 5, 2), (76, .sipush 160, 3), (79, .if_icmp .ge 128, 3), (82, .aload_n 0, 1), (83, .iload 5, 2)]
set_option maxRecDepth 100000 in
theorem xi_ok365_2 : xi_ok cX12_span xi_365_2 = true := by decide +kernel
def xi_365_3 : XIs := [(85, .invokevirtual 340, 3), (88, .ifCond .eq 113, 3), (91, .aload_n 0, 1), (92, .aload_n 0, 1), (93, .getfield 288, 3), (96, .iload 5, 2), (98, .iadd, 1), (99, .iload 5, 2), (101, .invokevirtual 565, 3), (104, .lload_n 2, 1), (105, .lcmp, 1), (106, .ifCond .ge 95, 3), (109, .aload_n 0, 1), (110, .getfield 166, 3), (113, .aload_n 0, 1), (114, .getfield 20, 3)]
set_option maxRecDepth 100000 in
theorem xi_ok365_3 : xi_ok cX12_span xi_365_3 = true := by decide +kernel
def xi_365_4 : XIs := [(117, .aload_n 0, 1), (118, .getfield 288, 3), (121, .iload 5, 2), (123, .iadd, 1), (124, .iaload, 1), (125, .iaload, 1), (126, .istore 6, 2), (128, .aload_n 0, 1), (129, .getfield 166, 3), (132, .aload_n 0, 1), (133, .getfield 23, 3), (136, .aload_n 0, 1), (137, .getfield 288, 3), (140, .iload 5, 2), (142, .iadd, 1), (143, .iaload, 1)]
set_option maxRecDepth 100000 in
theorem xi_ok365_4 : xi_ok cX12_span xi_365_4 = true := by decide +kernel
def xi_365_5 : XIs := [(144, .iaload, 1), (145, .istore 7, 2), (147, .iload 6, 2), (149, .iload 7, 2), (151, .if_icmp .ge 8, 3), (154, .iload 6, 2), (156, .goto 5, 3), (159, .iload 7, 2), (161, .istore 8, 2), (163, .aload_n 0, 1), (164, .getfield 166, 3), (167, .aload_n 0, 1), (168, .getfield 20, 3), (171, .aload_n 0, 1), (172, .getfield 288, 3), (175, .iload 5, 2)]
set_option maxRecDepth 100000 in
theorem xi_ok365_5 : xi_ok cX12_span xi_365_5 = true := by decide +kernel
def xi_365_6 : XIs := [(177, .iadd, 1), (178, .iaload, 1), (179, .iload 8, 2), (181, .iastore, 1), (182, .aload_n 0, 1), (183, .getfield 166, 3), (186, .aload_n 0, 1), (187, .getfield 23, 3), (190, .aload_n 0, 1), (191, .getfield 288, 3), (194, .iload 5, 2), (196, .iadd, 1), (197, .iaload, 1), (198, .iload 8, 2), (200, .iastore, 1), (201, .iinc 5 1, 3)]
set_option maxRecDepth 100000 in
theorem xi_ok365_6 : xi_ok cX12_span xi_365_6 = true := by decide +kernel
def xi_365_7 : XIs := [(204, .goto (-130), 3), (207, .iinc 4 1, 3), (210, .goto (-148), 3), (213, .aload_n 0, 1), (214, .getfield 166, 3), (217, .aload_n 0, 1), (218, .getfield 20, 3), (221, .aload_n 0, 1), (222, .getfield 288, 3), (225, .iload_n 1, 1), (226, .iadd, 1), (227, .iaload, 1), (228, .iaload, 1), (229, .aload_n 0, 1), (230, .getfield 166, 3), (233, .aload_n 0, 1)]
set_option maxRecDepth 100000 in
theorem xi_ok365_7 : xi_ok cX12_span xi_365_7 = true := by decide +kernel
def xi_365_8 : XIs := [(234, .getfield 23, 3), (237, .aload_n 0, 1), (238, .getfield 288, 3), (241, .iload_n 1, 1), (242, .iadd, 1), (243, .iaload, 1), (244, .iaload, 1), (245, .if_icmp .eq 7, 3), (248, .iconst 1, 1), (249, .goto 4, 3), (252, .iconst 0, 1), (253, .ireturn, 1)]
set_option maxRecDepth 100000 in
theorem xi_ok365_8 : xi_ok cX12_span xi_365_8 = true := by decide +kernel
def xi_365 (pc : Nat) : XIs := cond (Nat.blt pc 117) (cond (Nat.blt pc 54) (cond (Nat.blt pc 26) (xi_365_0) (xi_365_1)) (cond (Nat.blt pc 85) (xi_365_2) (xi_365_3))) (cond (Nat.blt pc 177) (cond (Nat.blt pc 144) (xi_365_4) (xi_365_5)) (cond (Nat.blt pc 204) (xi_365_6) (cond (Nat.blt pc 234) (xi_365_7) (xi_365_8))))
theorem xi_ok365 (pc : Nat) : xi_ok cX12_span (xi_365 pc) = true := xi_c (xi_c (xi_c (xi_ok365_0) (xi_ok365_1)) (xi_c (xi_ok365_2) (xi_ok365_3))) (xi_c (xi_c (xi_ok365_4) (xi_ok365_5)) (xi_c (xi_ok365_6) (xi_c (xi_ok365_7) (xi_ok365_8))))
def xi_366_0 : XIs := [(0, .ldc2_w 568, 3), (3, .aload_n 0, 1), (4, .getfield 26, 3), (7, .iload_n 1, 1), (8, .iaload, 1), (9, .i2l, 1), (10, .ldc2_w 306, 3), (13, .ladd, 1), (14, .lmul, 1), (15, .iload_n 2, 1), (16, .i2l, 1), (17, .ladd, 1), (18, .lreturn, 1)]
set_option maxRecDepth 100000 in
theorem xi_ok366_0 : xi_ok cX12_orderOf xi_366_0 = true := by decide +kernel
def xi_366 (pc : Nat) : XIs := xi_366_0
theorem xi_ok366 (pc : Nat) : xi_ok cX12_orderOf (xi_366 pc) = true := xi_ok366_0
def xi_367 (pc : Nat) : XIs := []
theorem xi_ok367 (pc : Nat) : xi_ok cX12_power (xi_367 pc) = true := rfl
def xi_368 (pc : Nat) : XIs := []
theorem xi_ok368 (pc : Nat) : xi_ok cX12_trees (xi_368 pc) = true := rfl
def xi_369 (pc : Nat) : XIs := []
theorem xi_ok369 (pc : Nat) : xi_ok cX12_rank (xi_369 pc) = true := rfl
def xi_370_0 : XIs := [(0, .iconst 0, 1), (1, .istore 5, 2), (3, .iload 5, 2), (5, .aload_n 0, 1), (6, .getfield 285, 3), (9, .if_icmp .ge 40, 3), (12, .aload_n 3, 1), (13, .iload 5, 2), (15, .iload 5, 2), (17, .iload_n 1, 1), (18, .if_icmp .ne 7, 3), (21, .iconst 0, 1), (22, .goto 4, 3), (25, .iconst (-1), 1), (26, .iastore, 1), (27, .aload 4, 2)]
set_option maxRecDepth 100000 in
theorem xi_ok370_0 : xi_ok cX12_hop xi_370_0 = true := by decide +kernel
def xi_370_1 : XIs := [(29, .iload 5, 2), (31, .iload 5, 2), (33, .iload_n 1, 1), (34, .if_icmp .ne 7, 3), (37, .lconst 1, 1), (38, .goto 4, 3), (41, .lconst 0, 1), (42, .lastore, 1), (43, .iinc 5 1, 3), (46, .goto (-43), 3), (49, .iconst 0, 1), (50, .istore 5, 2), (52, .iload 5, 2), (54, .aload_n 0, 1), (55, .getfield 285, 3), (58, .if_icmp .ge 145, 3)]
set_option maxRecDepth 100000 in
theorem xi_ok370_1 : xi_ok cX12_hop xi_370_1 = true := by decide +kernel
def xi_370_2 : XIs := [(61, .aload_n 0, 1), (62, .getfield 288, 3), (65, .istore 6, 2), (67, .iload 6, 2), (69, .aload_n 0, 1), (70, .getfield 288, 3), (73, .sipush 160, 3), (76, .iadd, 1), (77, .if_icmp .ge 120, 3), (80, .iload_n 2, 1), (81, .ifCond .eq 13, 3), (84, .aload_n 0, 1), (85, .getfield 23, 3), (88, .iload 6, 2), (90, .iaload, 1), (91, .goto 10, 3)]
set_option maxRecDepth 100000 in
theorem xi_ok370_2 : xi_ok cX12_hop xi_370_2 = true := by decide +kernel
def xi_370_3 : XIs := [(94, .aload_n 0, 1), (95, .getfield 20, 3), (98, .iload 6, 2), (100, .iaload, 1), (101, .istore 7, 2), (103, .iload_n 2, 1), (104, .ifCond .eq 13, 3), (107, .aload_n 0, 1), (108, .getfield 20, 3), (111, .iload 6, 2), (113, .iaload, 1), (114, .goto 10, 3), (117, .aload_n 0, 1), (118, .getfield 23, 3), (121, .iload 6, 2), (123, .iaload, 1)]
set_option maxRecDepth 100000 in
theorem xi_ok370_3 : xi_ok cX12_hop xi_370_3 = true := by decide +kernel
def xi_370_4 : XIs := [(124, .istore 8, 2), (126, .aload_n 0, 1), (127, .getfield 16, 3), (130, .iload 6, 2), (132, .baload, 1), (133, .ifCond .eq 58, 3), (136, .aload_n 3, 1), (137, .iload 7, 2), (139, .iaload, 1), (140, .iload 5, 2), (142, .if_icmp .ne 49, 3), (145, .aload_n 3, 1), (146, .iload 8, 2), (148, .iaload, 1), (149, .ifCond .lt 14, 3), (152, .aload_n 3, 1)]
set_option maxRecDepth 100000 in
theorem xi_ok370_4 : xi_ok cX12_hop xi_370_4 = true := by decide +kernel
def xi_370_5 : XIs := [(153, .iload 8, 2), (155, .iaload, 1), (156, .iload 5, 2), (158, .iconst 1, 1), (159, .iadd, 1), (160, .if_icmp .ne 31, 3), (163, .aload_n 3, 1), (164, .iload 8, 2), (166, .iload 5, 2), (168, .iconst 1, 1), (169, .iadd, 1), (170, .iastore, 1), (171, .aload 4, 2), (173, .iload 8, 2), (175, .aload 4, 2), (177, .iload 8, 2)]
set_option maxRecDepth 100000 in
theorem xi_ok370_5 : xi_ok cX12_hop xi_370_5 = true := by decide +kernel
def xi_370_6 : XIs := [(179, .laload, 1), (180, .aload 4, 2), (182, .iload 7, 2), (184, .laload, 1), (185, .ladd, 1), (186, .ldc2_w 572, 3), (189, .lrem, 1), (190, .lastore, 1), (191, .iinc 6 1, 3), (194, .goto (-127), 3), (197, .iinc 5 1, 3), (200, .goto (-148), 3), (203, .return_, 1)]
set_option maxRecDepth 100000 in
theorem xi_ok370_6 : xi_ok cX12_hop xi_370_6 = true := by decide +kernel
def xi_370 (pc : Nat) : XIs := cond (Nat.blt pc 94) (cond (Nat.blt pc 29) (xi_370_0) (cond (Nat.blt pc 61) (xi_370_1) (xi_370_2))) (cond (Nat.blt pc 153) (cond (Nat.blt pc 124) (xi_370_3) (xi_370_4)) (cond (Nat.blt pc 179) (xi_370_5) (xi_370_6)))
theorem xi_ok370 (pc : Nat) : xi_ok cX12_hop (xi_370 pc) = true := xi_c (xi_c (xi_ok370_0) (xi_c (xi_ok370_1) (xi_ok370_2))) (xi_c (xi_c (xi_ok370_3) (xi_ok370_4)) (xi_c (xi_ok370_5) (xi_ok370_6)))
def xi_371_0 : XIs := [(0, .aload_n 0, 1), (1, .aload_n 0, 1), (2, .iload_n 1, 1), (3, .invokevirtual 349, 3), (6, .ifCond .eq 36, 3), (9, .aload_n 0, 1), (10, .iload_n 2, 1), (11, .invokevirtual 349, 3), (14, .ifCond .eq 28, 3), (17, .iload_n 3, 1), (18, .i2l, 1), (19, .lconst 0, 1), (20, .ldc2_w 570, 3), (23, .invokestatic 308, 3), (26, .ifCond .eq 16, 3), (29, .aload_n 0, 1)]
set_option maxRecDepth 100000 in
theorem xi_ok371_0 : xi_ok cX12_shortest xi_371_0 = true := by decide +kernel
def xi_371_1 : XIs := [(30, .iload 4, 2), (32, .invokevirtual 349, 3), (35, .ifCond .eq 7, 3), (38, .iconst 1, 1), (39, .goto 4, 3), (42, .iconst 0, 1), (43, .invokevirtual 334, 3), (46, .ifCond .eq 5, 3), (49, .iconst 0, 1), (50, .ireturn, 1), (51, .aload_n 0, 1), (52, .iload_n 1, 1), (53, .iconst 0, 1), (54, .aload_n 0, 1), (55, .getfield 181, 3), (58, .aload_n 0, 1)]
set_option maxRecDepth 100000 in
theorem xi_ok371_1 : xi_ok cX12_shortest xi_371_1 = true := by decide +kernel
def xi_371_2 : XIs := [(59, .getfield 184, 3), (62, .invokevirtual 590, 3), (65, .aload_n 0, 1), (66, .iload_n 2, 1), (67, .iconst 1, 1), (68, .aload_n 0, 1), (69, .getfield 187, 3), (72, .aload_n 0, 1), (73, .getfield 190, 3), (76, .invokevirtual 590, 3), (79, .iload_n 3, 1), (80, .ifCond .ne 10, 3), (83, .aload_n 0, 1), (84, .getfield 181, 3), (87, .iload_n 2, 1), (88, .iaload, 1)]
set_option maxRecDepth 100000 in
theorem xi_ok371_2 : xi_ok cX12_shortest xi_371_2 = true := by decide +kernel
def xi_371_3 : XIs := [(89, .ireturn, 1), (90, .iload_n 3, 1), (91, .iconst 1, 1), (92, .if_icmp .ne 11, 3), (95, .aload_n 0, 1), (96, .getfield 184, 3), (99, .iload_n 2, 1), (100, .laload, 1), (101, .l2i, 1), (102, .ireturn, 1), (103, .aload_n 0, 1), (104, .getfield 181, 3), (107, .iload 4, 2), (109, .iaload, 1), (110, .ifCond .lt 41, 3), (113, .aload_n 0, 1)]
set_option maxRecDepth 100000 in
theorem xi_ok371_3 : xi_ok cX12_shortest xi_371_3 = true := by decide +kernel
def xi_371_4 : XIs := [(114, .getfield 187, 3), (117, .iload 4, 2), (119, .iaload, 1), (120, .ifCond .lt 31, 3), (123, .aload_n 0, 1), (124, .getfield 181, 3), (127, .iload 4, 2), (129, .iaload, 1), (130, .aload_n 0, 1), (131, .getfield 187, 3), (134, .iload 4, 2), (136, .iaload, 1), (137, .iadd, 1), (138, .aload_n 0, 1), (139, .getfield 181, 3), (142, .iload_n 2, 1)]
set_option maxRecDepth 100000 in
theorem xi_ok371_4 : xi_ok cX12_shortest xi_371_4 = true := by decide +kernel
def xi_371_5 : XIs := [(143, .iaload, 1), (144, .if_icmp .ne 7, 3), (147, .iconst 1, 1), (148, .goto 4, 3), (151, .iconst 0, 1), (152, .istore 5, 2), (154, .iload 5, 2), (156, .ifCond .eq 26, 3), (159, .aload_n 0, 1), (160, .getfield 184, 3), (163, .iload 4, 2), (165, .laload, 1), (166, .aload_n 0, 1), (167, .getfield 190, 3), (170, .iload 4, 2), (172, .laload, 1)]
set_option maxRecDepth 100000 in
theorem xi_ok371_5 : xi_ok cX12_shortest xi_371_5 = true := by decide +kernel
def xi_371_6 : XIs := [(173, .lmul, 1), (174, .ldc2_w 572, 3), (177, .lrem, 1), (178, .l2i, 1), (179, .goto 4, 3), (182, .iconst 0, 1), (183, .ireturn, 1)]
set_option maxRecDepth 100000 in
theorem xi_ok371_6 : xi_ok cX12_shortest xi_371_6 = true := by decide +kernel
def xi_371 (pc : Nat) : XIs := cond (Nat.blt pc 89) (cond (Nat.blt pc 30) (xi_371_0) (cond (Nat.blt pc 59) (xi_371_1) (xi_371_2))) (cond (Nat.blt pc 143) (cond (Nat.blt pc 114) (xi_371_3) (xi_371_4)) (cond (Nat.blt pc 173) (xi_371_5) (xi_371_6)))
theorem xi_ok371 (pc : Nat) : xi_ok cX12_shortest (xi_371 pc) = true := xi_c (xi_c (xi_ok371_0) (xi_c (xi_ok371_1) (xi_ok371_2))) (xi_c (xi_c (xi_ok371_3) (xi_ok371_4)) (xi_c (xi_ok371_5) (xi_ok371_6)))
def xi_372_0 : XIs := [(0, .ldc2_w 570, 3), (3, .aload_n 0, 1), (4, .getfield 594, 3), (7, .i2l, 1), (8, .lmul, 1), (9, .aload_n 0, 1), (10, .getfield 199, 3), (13, .bipush 32, 2), (15, .iload_n 1, 1), (16, .imul, 1), (17, .iload_n 2, 1), (18, .iadd, 1), (19, .iaload, 1), (20, .i2l, 1), (21, .lmul, 1), (22, .aload_n 0, 1)]
set_option maxRecDepth 100000 in
theorem xi_ok372_0 : xi_ok cX12_gainOf xi_372_0 = true := by decide +kernel
def xi_372_1 : XIs := [(23, .getfield 196, 3), (26, .iload_n 1, 1), (27, .iaload, 1), (28, .i2l, 1), (29, .aload_n 0, 1), (30, .getfield 196, 3), (33, .iload_n 2, 1), (34, .iaload, 1), (35, .i2l, 1), (36, .lmul, 1), (37, .lsub, 1), (38, .lreturn, 1)]
set_option maxRecDepth 100000 in
theorem xi_ok372_1 : xi_ok cX12_gainOf xi_372_1 = true := by decide +kernel
def xi_372 (pc : Nat) : XIs := cond (Nat.blt pc 23) (xi_372_0) (xi_372_1)
theorem xi_ok372 (pc : Nat) : xi_ok cX12_gainOf (xi_372 pc) = true := xi_c (xi_ok372_0) (xi_ok372_1)
def xi_373_0 : XIs := [(0, .lconst 0, 1), (1, .lstore_n 3, 1), (2, .iconst 0, 1), (3, .istore 5, 2), (5, .iload 5, 2), (7, .aload_n 0, 1), (8, .getfield 285, 3), (11, .if_icmp .ge 40, 3), (14, .lload_n 3, 1), (15, .iload 5, 2), (17, .iload_n 1, 1), (18, .if_icmp .eq 24, 3), (21, .aload_n 0, 1), (22, .getfield 193, 3), (25, .iload 5, 2), (27, .iaload, 1)]
set_option maxRecDepth 100000 in
theorem xi_ok373_0 : xi_ok cX12_gainIn xi_373_0 = true := by decide +kernel
def xi_373_1 : XIs := [(28, .iload_n 2, 1), (29, .if_icmp .ne 13, 3), (32, .aload_n 0, 1), (33, .iload_n 1, 1), (34, .iload 5, 2), (36, .invokevirtual 597, 3), (39, .goto 4, 3), (42, .lconst 0, 1), (43, .ladd, 1), (44, .lstore_n 3, 1), (45, .iinc 5 1, 3), (48, .goto (-43), 3), (51, .lload_n 3, 1), (52, .lreturn, 1)]
set_option maxRecDepth 100000 in
theorem xi_ok373_1 : xi_ok cX12_gainIn xi_373_1 = true := by decide +kernel
def xi_373 (pc : Nat) : XIs := cond (Nat.blt pc 28) (xi_373_0) (xi_373_1)
theorem xi_ok373 (pc : Nat) : xi_ok cX12_gainIn (xi_373 pc) = true := xi_c (xi_ok373_0) (xi_ok373_1)
def xi_374 (pc : Nat) : XIs := []
theorem xi_ok374 (pc : Nat) : xi_ok cX12_findGroups (xi_374 pc) = true := rfl
def xi_375_0 : XIs := [(0, .bipush 40, 2), (2, .istore_n 3, 1), (3, .aload_n 0, 1), (4, .getfield 285, 3), (7, .iconst 1, 1), (8, .isub, 1), (9, .istore 4, 2), (11, .iload 4, 2), (13, .ifCond .lt 33, 3), (16, .aload_n 0, 1), (17, .getfield 193, 3), (20, .iload 4, 2), (22, .iaload, 1), (23, .iload_n 1, 1), (24, .if_icmp .ne 14, 3), (27, .iload 4, 2)]
set_option maxRecDepth 100000 in
theorem xi_ok375_0 : xi_ok cX12_leastOf xi_375_0 = true := by decide +kernel
def xi_375_1 : XIs := [(29, .iload_n 2, 1), (30, .if_icmp .eq 8, 3), (33, .iload 4, 2), (35, .goto 4, 3), (38, .iload_n 3, 1), (39, .istore_n 3, 1), (40, .iinc 4 (-1), 3), (43, .goto (-32), 3), (46, .iload_n 3, 1), (47, .ireturn, 1)]
set_option maxRecDepth 100000 in
theorem xi_ok375_1 : xi_ok cX12_leastOf xi_375_1 = true := by decide +kernel
def xi_375 (pc : Nat) : XIs := cond (Nat.blt pc 29) (xi_375_0) (xi_375_1)
theorem xi_ok375 (pc : Nat) : xi_ok cX12_leastOf (xi_375 pc) = true := xi_c (xi_ok375_0) (xi_ok375_1)
def xi_376 (pc : Nat) : XIs := []
theorem xi_ok376 (pc : Nat) : xi_ok cX12_bestGroup (xi_376 pc) = true := rfl
def xi_377 (pc : Nat) : XIs := []
theorem xi_ok377 (pc : Nat) : xi_ok cX12_freeGroup (xi_377 pc) = true := rfl
def xi_378_0 : XIs := [(0, .aload_n 0, 1), (1, .aload_n 0, 1), (2, .iload_n 1, 1), (3, .invokevirtual 349, 3), (6, .invokevirtual 334, 3), (9, .ifCond .eq 5, 3), (12, .iconst 0, 1), (13, .ireturn, 1), (14, .aload_n 0, 1), (15, .invokevirtual 612, 3), (18, .aload_n 0, 1), (19, .aload_n 0, 1), (20, .getfield 193, 3), (23, .iload_n 1, 1), (24, .iaload, 1), (25, .iconst (-1), 1)]
set_option maxRecDepth 100000 in
theorem xi_ok378_0 : xi_ok cX12_group xi_378_0 = true := by decide +kernel
def xi_378_1 : XIs := [(26, .invokevirtual 606, 3), (29, .ireturn, 1)]
set_option maxRecDepth 100000 in
theorem xi_ok378_1 : xi_ok cX12_group xi_378_1 = true := by decide +kernel
def xi_378 (pc : Nat) : XIs := cond (Nat.blt pc 26) (xi_378_0) (xi_378_1)
theorem xi_ok378 (pc : Nat) : xi_ok cX12_group (xi_378 pc) = true := xi_c (xi_ok378_0) (xi_ok378_1)
def xi_379_0 : XIs := [(0, .aload_n 0, 1), (1, .iconst 0, 1), (2, .putfield 278, 3), (5, .aload_n 0, 1), (6, .invokevirtual 612, 3), (9, .lconst 0, 1), (10, .lstore_n 1, 1), (11, .iconst 0, 1), (12, .istore_n 3, 1), (13, .iload_n 3, 1), (14, .aload_n 0, 1), (15, .getfield 285, 3), (18, .if_icmp .ge 23, 3), (21, .lload_n 1, 1), (22, .aload_n 0, 1), (23, .iload_n 3, 1)]
set_option maxRecDepth 100000 in
theorem xi_ok379_0 : xi_ok cX12_gain xi_379_0 = true := by decide +kernel
def xi_379_1 : XIs := [(24, .aload_n 0, 1), (25, .getfield 193, 3), (28, .iload_n 3, 1), (29, .iaload, 1), (30, .invokevirtual 603, 3), (33, .ladd, 1), (34, .lstore_n 1, 1), (35, .iinc 3 1, 3), (38, .goto (-25), 3), (41, .lload_n 1, 1), (42, .lreturn, 1)]
set_option maxRecDepth 100000 in
theorem xi_ok379_1 : xi_ok cX12_gain xi_379_1 = true := by decide +kernel
def xi_379 (pc : Nat) : XIs := cond (Nat.blt pc 24) (xi_379_0) (xi_379_1)
theorem xi_ok379 (pc : Nat) : xi_ok cX12_gain (xi_379 pc) = true := xi_c (xi_ok379_0) (xi_ok379_1)
def xi_380_0 : XIs := [(0, .aload_n 0, 1), (1, .iload_n 1, 1), (2, .i2l, 1), (3, .lconst 0, 1), (4, .lconst 1, 1), (5, .invokestatic 308, 3), (8, .invokevirtual 334, 3), (11, .ifCond .eq 5, 3), (14, .lconst 0, 1), (15, .lreturn, 1), (16, .aload_n 0, 1), (17, .invokevirtual 485, 3), (20, .lconst 0, 1), (21, .lstore_n 2, 1), (22, .iconst 0, 1), (23, .istore 4, 2)]
set_option maxRecDepth 100000 in
theorem xi_ok380_0 : xi_ok cX12_figures xi_380_0 = true := by decide +kernel
def xi_380_1 : XIs := [(25, .iload 4, 2), (27, .aload_n 0, 1), (28, .getfield 285, 3), (31, .if_icmp .ge 94, 3), (34, .iload 4, 2), (36, .iconst 1, 1), (37, .iadd, 1), (38, .istore 5, 2), (40, .iload 5, 2), (42, .aload_n 0, 1), (43, .getfield 285, 3), (46, .if_icmp .ge 73, 3), (49, .aload_n 0, 1), (50, .getfield 100, 3), (53, .iload 4, 2), (55, .iaload, 1)]
set_option maxRecDepth 100000 in
theorem xi_ok380_1 : xi_ok cX12_figures xi_380_1 = true := by decide +kernel
def xi_380_2 : XIs := [(56, .aload_n 0, 1), (57, .getfield 100, 3), (60, .iload 5, 2), (62, .iaload, 1), (63, .iand, 1), (64, .invokestatic 488, 3), (67, .i2l, 1), (68, .lstore 6, 2), (70, .lload_n 2, 1), (71, .iload_n 1, 1), (72, .iconst 1, 1), (73, .if_icmp .ne 17, 3), (76, .lload 6, 2), (78, .lload 6, 2), (80, .lconst 1, 1), (81, .lsub, 1)]
set_option maxRecDepth 100000 in
theorem xi_ok380_2 : xi_ok cX12_figures xi_380_2 = true := by decide +kernel
def xi_380_3 : XIs := [(82, .lmul, 1), (83, .ldc2_w 570, 3), (86, .ldiv, 1), (87, .goto 24, 3), (90, .aload_n 0, 1), (91, .getfield 100, 3), (94, .iload 4, 2), (96, .iaload, 1), (97, .iload 5, 2), (99, .invokestatic 427, 3), (102, .ifCond .eq 8, 3), (105, .lload 6, 2), (107, .goto 4, 3), (110, .lconst 0, 1), (111, .ladd, 1), (112, .lstore_n 2, 1)]
set_option maxRecDepth 100000 in
theorem xi_ok380_3 : xi_ok cX12_figures xi_380_3 = true := by decide +kernel
def xi_380_4 : XIs := [(113, .iinc 5 1, 3), (116, .goto (-76), 3), (119, .iinc 4 1, 3), (122, .goto (-97), 3), (125, .iload_n 1, 1), (126, .ifCond .ne 11, 3), (129, .lload_n 2, 1), (130, .ldc2_w 338, 3), (133, .ldiv, 1), (134, .goto 8, 3), (137, .lload_n 2, 1), (138, .ldc2_w 570, 3), (141, .ldiv, 1), (142, .lreturn, 1)]
set_option maxRecDepth 100000 in
theorem xi_ok380_4 : xi_ok cX12_figures xi_380_4 = true := by decide +kernel
def xi_380 (pc : Nat) : XIs := cond (Nat.blt pc 56) (cond (Nat.blt pc 25) (xi_380_0) (xi_380_1)) (cond (Nat.blt pc 82) (xi_380_2) (cond (Nat.blt pc 113) (xi_380_3) (xi_380_4)))
theorem xi_ok380 (pc : Nat) : xi_ok cX12_figures (xi_380 pc) = true := xi_c (xi_c (xi_ok380_0) (xi_ok380_1)) (xi_c (xi_ok380_2) (xi_c (xi_ok380_3) (xi_ok380_4)))
def xi_381_0 : XIs := [(0, .aload_n 0, 1), (1, .getfield 218, 3), (4, .aload_n 0, 1), (5, .getfield 615, 3), (8, .iconst 0, 1), (9, .bastore, 1), (10, .aload_n 0, 1), (11, .getfield 221, 3), (14, .aload_n 0, 1), (15, .getfield 615, 3), (18, .iconst 0, 1), (19, .bastore, 1), (20, .aload_n 0, 1), (21, .getfield 224, 3), (24, .aload_n 0, 1), (25, .getfield 615, 3)]
set_option maxRecDepth 100000 in
theorem xi_ok381_0 : xi_ok cX12_beginAlternative xi_381_0 = true := by decide +kernel
def xi_381_1 : XIs := [(28, .lconst 0, 1), (29, .lastore, 1), (30, .aload_n 0, 1), (31, .getfield 227, 3), (34, .aload_n 0, 1), (35, .getfield 615, 3), (38, .lconst 0, 1), (39, .lastore, 1), (40, .aload_n 0, 1), (41, .invokevirtual 618, 3), (44, .return_, 1)]
set_option maxRecDepth 100000 in
theorem xi_ok381_1 : xi_ok cX12_beginAlternative xi_381_1 = true := by decide +kernel
def xi_381 (pc : Nat) : XIs := cond (Nat.blt pc 28) (xi_381_0) (xi_381_1)
theorem xi_ok381 (pc : Nat) : xi_ok cX12_beginAlternative (xi_381 pc) = true := xi_c (xi_ok381_0) (xi_ok381_1)
def xi_382_0 : XIs := [(0, .aload_n 0, 1), (1, .getfield 230, 3), (4, .aload_n 0, 1), (5, .getfield 615, 3), (8, .iconst 1, 1), (9, .bastore, 1), (10, .aload_n 0, 1), (11, .getfield 233, 3), (14, .aload_n 0, 1), (15, .getfield 615, 3), (18, .lconst 0, 1), (19, .lastore, 1), (20, .aload_n 0, 1), (21, .getfield 236, 3), (24, .aload_n 0, 1), (25, .getfield 615, 3)]
set_option maxRecDepth 100000 in
theorem xi_ok382_0 : xi_ok cX12_beginSequence xi_382_0 = true := by decide +kernel
def xi_382_1 : XIs := [(28, .lconst 0, 1), (29, .lastore, 1), (30, .aload_n 0, 1), (31, .iconst 0, 1), (32, .putfield 621, 3), (35, .aload_n 0, 1), (36, .iconst 0, 1), (37, .putfield 624, 3), (40, .return_, 1)]
set_option maxRecDepth 100000 in
theorem xi_ok382_1 : xi_ok cX12_beginSequence xi_382_1 = true := by decide +kernel
def xi_382 (pc : Nat) : XIs := cond (Nat.blt pc 28) (xi_382_0) (xi_382_1)
theorem xi_ok382 (pc : Nat) : xi_ok cX12_beginSequence (xi_382 pc) = true := xi_c (xi_ok382_0) (xi_ok382_1)
def xi_383_0 : XIs := [(0, .iconst 0, 1), (1, .istore 5, 2), (3, .iload 5, 2), (5, .bipush 60, 2), (7, .if_icmp .ge 35, 3), (10, .aload_n 0, 1), (11, .getfield 215, 3), (14, .iload 5, 2), (16, .dup2, 1), (17, .laload, 1), (18, .lload_n 1, 1), (19, .iload 5, 2), (21, .lshr, 1), (22, .lconst 1, 1), (23, .land, 1), (24, .lconst 1, 1)]
set_option maxRecDepth 100000 in
theorem xi_ok383_0 : xi_ok cX12_follow xi_383_0 = true := by decide +kernel
def xi_383_1 : XIs := [(25, .lcmp, 1), (26, .ifCond .ne 7, 3), (29, .lload_n 3, 1), (30, .goto 4, 3), (33, .lconst 0, 1), (34, .lor, 1), (35, .lastore, 1), (36, .iinc 5 1, 3), (39, .goto (-36), 3), (42, .return_, 1)]
set_option maxRecDepth 100000 in
theorem xi_ok383_1 : xi_ok cX12_follow xi_383_1 = true := by decide +kernel
def xi_383 (pc : Nat) : XIs := cond (Nat.blt pc 25) (xi_383_0) (xi_383_1)
theorem xi_ok383 (pc : Nat) : xi_ok cX12_follow (xi_383 pc) = true := xi_c (xi_ok383_0) (xi_ok383_1)
def xi_384_0 : XIs := [(0, .aload_n 0, 1), (1, .getfield 621, 3), (4, .ifCond .eq 119, 3), (7, .aload_n 0, 1), (8, .aload_n 0, 1), (9, .getfield 236, 3), (12, .aload_n 0, 1), (13, .getfield 615, 3), (16, .laload, 1), (17, .aload_n 0, 1), (18, .getfield 627, 3), (21, .invokevirtual 630, 3), (24, .aload_n 0, 1), (25, .getfield 233, 3), (28, .aload_n 0, 1), (29, .getfield 615, 3)]
set_option maxRecDepth 100000 in
theorem xi_ok384_0 : xi_ok cX12_flush xi_384_0 = true := by decide +kernel
def xi_384_1 : XIs := [(32, .dup2, 1), (33, .laload, 1), (34, .aload_n 0, 1), (35, .getfield 230, 3), (38, .aload_n 0, 1), (39, .getfield 615, 3), (42, .baload, 1), (43, .ifCond .eq 10, 3), (46, .aload_n 0, 1), (47, .getfield 627, 3), (50, .goto 4, 3), (53, .lconst 0, 1), (54, .lor, 1), (55, .lastore, 1), (56, .aload_n 0, 1), (57, .getfield 236, 3)]
set_option maxRecDepth 100000 in
theorem xi_ok384_1 : xi_ok cX12_flush xi_384_1 = true := by decide +kernel
def xi_384_2 : XIs := [(60, .aload_n 0, 1), (61, .getfield 615, 3), (64, .aload_n 0, 1), (65, .getfield 634, 3), (68, .aload_n 0, 1), (69, .getfield 637, 3), (72, .ifCond .eq 15, 3), (75, .aload_n 0, 1), (76, .getfield 236, 3), (79, .aload_n 0, 1), (80, .getfield 615, 3), (83, .laload, 1), (84, .goto 4, 3), (87, .lconst 0, 1), (88, .lor, 1), (89, .lastore, 1)]
set_option maxRecDepth 100000 in
theorem xi_ok384_2 : xi_ok cX12_flush xi_384_2 = true := by decide +kernel
def xi_384_3 : XIs := [(90, .aload_n 0, 1), (91, .getfield 230, 3), (94, .aload_n 0, 1), (95, .getfield 615, 3), (98, .aload_n 0, 1), (99, .getfield 230, 3), (102, .aload_n 0, 1), (103, .getfield 615, 3), (106, .baload, 1), (107, .ifCond .eq 14, 3), (110, .aload_n 0, 1), (111, .getfield 637, 3), (114, .ifCond .eq 7, 3), (117, .iconst 1, 1), (118, .goto 4, 3), (121, .iconst 0, 1)]
set_option maxRecDepth 100000 in
theorem xi_ok384_3 : xi_ok cX12_flush xi_384_3 = true := by decide +kernel
def xi_384_4 : XIs := [(122, .bastore, 1), (123, .aload_n 0, 1), (124, .iconst 0, 1), (125, .putfield 621, 3), (128, .aload_n 0, 1), (129, .iconst 0, 1), (130, .putfield 624, 3), (133, .return_, 1)]
set_option maxRecDepth 100000 in
theorem xi_ok384_4 : xi_ok cX12_flush xi_384_4 = true := by decide +kernel
def xi_384 (pc : Nat) : XIs := cond (Nat.blt pc 60) (cond (Nat.blt pc 32) (xi_384_0) (xi_384_1)) (cond (Nat.blt pc 90) (xi_384_2) (cond (Nat.blt pc 122) (xi_384_3) (xi_384_4)))
theorem xi_ok384 (pc : Nat) : xi_ok cX12_flush (xi_384 pc) = true := xi_c (xi_c (xi_ok384_0) (xi_ok384_1)) (xi_c (xi_ok384_2) (xi_c (xi_ok384_3) (xi_ok384_4)))
def xi_385_0 : XIs := [(0, .aload_n 0, 1), (1, .invokevirtual 640, 3), (4, .aload_n 0, 1), (5, .getfield 218, 3), (8, .aload_n 0, 1), (9, .getfield 615, 3), (12, .iconst 1, 1), (13, .bastore, 1), (14, .aload_n 0, 1), (15, .getfield 221, 3), (18, .aload_n 0, 1), (19, .getfield 615, 3), (22, .aload_n 0, 1), (23, .getfield 221, 3), (26, .aload_n 0, 1), (27, .getfield 615, 3)]
set_option maxRecDepth 100000 in
theorem xi_ok385_0 : xi_ok cX12_endSequence xi_385_0 = true := by decide +kernel
def xi_385_1 : XIs := [(30, .baload, 1), (31, .ifCond .ne 15, 3), (34, .aload_n 0, 1), (35, .getfield 230, 3), (38, .aload_n 0, 1), (39, .getfield 615, 3), (42, .baload, 1), (43, .ifCond .eq 7, 3), (46, .iconst 1, 1), (47, .goto 4, 3), (50, .iconst 0, 1), (51, .bastore, 1), (52, .aload_n 0, 1), (53, .getfield 224, 3), (56, .aload_n 0, 1), (57, .getfield 615, 3)]
set_option maxRecDepth 100000 in
theorem xi_ok385_1 : xi_ok cX12_endSequence xi_385_1 = true := by decide +kernel
def xi_385_2 : XIs := [(60, .dup2, 1), (61, .laload, 1), (62, .aload_n 0, 1), (63, .getfield 233, 3), (66, .aload_n 0, 1), (67, .getfield 615, 3), (70, .laload, 1), (71, .lor, 1), (72, .lastore, 1), (73, .aload_n 0, 1), (74, .getfield 227, 3), (77, .aload_n 0, 1), (78, .getfield 615, 3), (81, .dup2, 1), (82, .laload, 1), (83, .aload_n 0, 1)]
set_option maxRecDepth 100000 in
theorem xi_ok385_2 : xi_ok cX12_endSequence xi_385_2 = true := by decide +kernel
def xi_385_3 : XIs := [(84, .getfield 236, 3), (87, .aload_n 0, 1), (88, .getfield 615, 3), (91, .laload, 1), (92, .lor, 1), (93, .lastore, 1), (94, .return_, 1)]
set_option maxRecDepth 100000 in
theorem xi_ok385_3 : xi_ok cX12_endSequence xi_385_3 = true := by decide +kernel
def xi_385 (pc : Nat) : XIs := cond (Nat.blt pc 60) (cond (Nat.blt pc 30) (xi_385_0) (xi_385_1)) (cond (Nat.blt pc 84) (xi_385_2) (xi_385_3))
theorem xi_ok385 (pc : Nat) : xi_ok cX12_endSequence (xi_385 pc) = true := xi_c (xi_c (xi_ok385_0) (xi_ok385_1)) (xi_c (xi_ok385_2) (xi_ok385_3))
def xi_386 (pc : Nat) : XIs := []
theorem xi_ok386 (pc : Nat) : xi_ok cX12_pattern (xi_386 pc) = true := rfl
def xi_387_0 : XIs := [(0, .aload_n 0, 1), (1, .iconst 1, 1), (2, .putfield 621, 3), (5, .aload_n 0, 1), (6, .iconst 1, 1), (7, .putfield 624, 3), (10, .aload_n 0, 1), (11, .iload_n 1, 1), (12, .putfield 637, 3), (15, .aload_n 0, 1), (16, .lload_n 2, 1), (17, .putfield 627, 3), (20, .aload_n 0, 1), (21, .lload 4, 2), (23, .putfield 634, 3), (26, .return_, 1)]
set_option maxRecDepth 100000 in
theorem xi_ok387_0 : xi_ok cX12_setAtom xi_387_0 = true := by decide +kernel
def xi_387 (pc : Nat) : XIs := xi_387_0
theorem xi_ok387 (pc : Nat) : xi_ok cX12_setAtom (xi_387 pc) = true := xi_ok387_0
def xi_388 (pc : Nat) : XIs := []
theorem xi_ok388 (pc : Nat) : xi_ok cX12_sign (xi_388 pc) = true := rfl
def xi_389 (pc : Nat) : XIs := []
theorem xi_ok389 (pc : Nat) : xi_ok cX12_fits (xi_389 pc) = true := rfl
def xi_390 (pc : Nat) : XIs := []
theorem xi_ok390 (pc : Nat) : xi_ok cX12_goOn (xi_390 pc) = true := rfl
def xi_391_0 : XIs := [(0, .aload_n 0, 1), (1, .getfield 248, 3), (4, .iconst 1, 1), (5, .iconst 1, 1), (6, .iastore, 1), (7, .aload_n 0, 1), (8, .getfield 248, 3), (11, .iconst 2, 1), (12, .iconst 2, 1), (13, .iastore, 1), (14, .return_, 1)]
set_option maxRecDepth 100000 in
theorem xi_ok391_0 : xi_ok cX12_program0 xi_391_0 = true := by decide +kernel
def xi_391 (pc : Nat) : XIs := xi_391_0
theorem xi_ok391 (pc : Nat) : xi_ok cX12_program0 (xi_391 pc) = true := xi_ok391_0
def xi_392_0 : XIs := [(0, .aload_n 0, 1), (1, .getfield 365, 3), (4, .aload_n 0, 1), (5, .getfield 356, 3), (8, .if_icmp .ge 30, 3), (11, .aload_n 0, 1), (12, .getfield 60, 3), (15, .aload_n 0, 1), (16, .getfield 365, 3), (19, .iaload, 1), (20, .bipush 32, 2), (22, .if_icmp .ne 16, 3), (25, .aload_n 0, 1), (26, .dup, 1), (27, .getfield 365, 3), (30, .iconst 1, 1)]
set_option maxRecDepth 100000 in
theorem xi_ok392_0 : xi_ok cX12_nextOfProgram xi_392_0 = true := by decide +kernel
def xi_392_1 : XIs := [(31, .iadd, 1), (32, .putfield 365, 3), (35, .goto (-35), 3), (38, .aload_n 0, 1), (39, .aload_n 0, 1), (40, .getfield 365, 3), (43, .putfield 368, 3), (46, .aload_n 0, 1), (47, .getfield 365, 3), (50, .aload_n 0, 1), (51, .getfield 356, 3), (54, .if_icmp .ne 9, 3), (57, .aload_n 0, 1), (58, .iconst 0, 1), (59, .putfield 371, 3), (62, .return_, 1)]
set_option maxRecDepth 100000 in
theorem xi_ok392_1 : xi_ok cX12_nextOfProgram xi_392_1 = true := by decide +kernel
def xi_392_2 : XIs := [(63, .aload_n 0, 1), (64, .getfield 60, 3), (67, .aload_n 0, 1), (68, .getfield 365, 3), (71, .iaload, 1), (72, .istore_n 1, 1), (73, .aload_n 0, 1), (74, .iload_n 1, 1), (75, .putfield 374, 3), (78, .iload_n 1, 1), (79, .invokestatic 377, 3), (82, .ifCond .eq 15, 3), (85, .aload_n 0, 1), (86, .iconst 2, 1), (87, .putfield 371, 3), (90, .aload_n 0, 1)]
set_option maxRecDepth 100000 in
theorem xi_ok392_2 : xi_ok cX12_nextOfProgram xi_392_2 = true := by decide +kernel
def xi_392_3 : XIs := [(91, .bipush 6, 2), (93, .invokevirtual 380, 3), (96, .return_, 1), (97, .aload_n 0, 1), (98, .iload_n 1, 1), (99, .invokestatic 388, 3), (102, .ifCond .eq 7, 3), (105, .iconst 1, 1), (106, .goto 4, 3), (109, .iconst 3, 1), (110, .putfield 371, 3), (113, .aload_n 0, 1), (114, .dup, 1), (115, .getfield 365, 3), (118, .iconst 1, 1), (119, .iadd, 1)]
set_option maxRecDepth 100000 in
theorem xi_ok392_3 : xi_ok cX12_nextOfProgram xi_392_3 = true := by decide +kernel
def xi_392_4 : XIs := [(120, .putfield 365, 3), (123, .iload_n 1, 1), (124, .bipush 59, 2), (126, .if_icmp .eq 45, 3), (129, .iload_n 1, 1), (130, .bipush 60, 2), (132, .if_icmp .eq 39, 3), (135, .iload_n 1, 1), (136, .bipush 61, 2), (138, .if_icmp .eq 33, 3), (141, .iload_n 1, 1), (142, .bipush 43, 2), (144, .if_icmp .eq 27, 3), (147, .iload_n 1, 1), (148, .bipush 45, 2), (150, .if_icmp .eq 21, 3)]
set_option maxRecDepth 100000 in
theorem xi_ok392_4 : xi_ok cX12_nextOfProgram xi_392_4 = true := by decide +kernel
def xi_392_5 : XIs := [(153, .iload_n 1, 1), (154, .bipush 42, 2), (156, .if_icmp .eq 15, 3), (159, .iload_n 1, 1), (160, .bipush 40, 2), (162, .if_icmp .eq 9, 3), (165, .iload_n 1, 1), (166, .bipush 41, 2), (168, .if_icmp .ne 7, 3), (171, .iconst 1, 1), (172, .goto 4, 3), (175, .iconst 0, 1), (176, .istore_n 2, 1), (177, .aload_n 0, 1), (178, .getfield 371, 3), (181, .iconst 3, 1)]
set_option maxRecDepth 100000 in
theorem xi_ok392_5 : xi_ok cX12_nextOfProgram xi_392_5 = true := by decide +kernel
def xi_392_6 : XIs := [(182, .if_icmp .ne 16, 3), (185, .iload_n 2, 1), (186, .ifCond .ne 12, 3), (189, .aload_n 0, 1), (190, .iconst 1, 1), (191, .aload_n 0, 1), (192, .getfield 368, 3), (195, .invokevirtual 391, 3), (198, .return_, 1)]
set_option maxRecDepth 100000 in
theorem xi_ok392_6 : xi_ok cX12_nextOfProgram xi_392_6 = true := by decide +kernel
def xi_392 (pc : Nat) : XIs := cond (Nat.blt pc 91) (cond (Nat.blt pc 31) (xi_392_0) (cond (Nat.blt pc 63) (xi_392_1) (xi_392_2))) (cond (Nat.blt pc 153) (cond (Nat.blt pc 120) (xi_392_3) (xi_392_4)) (cond (Nat.blt pc 182) (xi_392_5) (xi_392_6)))
theorem xi_ok392 (pc : Nat) : xi_ok cX12_nextOfProgram (xi_392 pc) = true := xi_c (xi_c (xi_ok392_0) (xi_c (xi_ok392_1) (xi_ok392_2))) (xi_c (xi_c (xi_ok392_3) (xi_ok392_4)) (xi_c (xi_ok392_5) (xi_ok392_6)))
def xi_393_0 : XIs := [(0, .aload_n 0, 1), (1, .getfield 251, 3), (4, .aload_n 0, 1), (5, .getfield 669, 3), (8, .iload_n 1, 1), (9, .iastore, 1), (10, .aload_n 0, 1), (11, .getfield 254, 3), (14, .aload_n 0, 1), (15, .getfield 669, 3), (18, .iload_n 2, 1), (19, .iastore, 1), (20, .aload_n 0, 1), (21, .dup, 1), (22, .getfield 669, 3), (25, .iconst 1, 1)]
set_option maxRecDepth 100000 in
theorem xi_ok393_0 : xi_ok cX12_add xi_393_0 = true := by decide +kernel
def xi_393_1 : XIs := [(26, .iadd, 1), (27, .putfield 669, 3), (30, .return_, 1)]
set_option maxRecDepth 100000 in
theorem xi_ok393_1 : xi_ok cX12_add xi_393_1 = true := by decide +kernel
def xi_393 (pc : Nat) : XIs := cond (Nat.blt pc 26) (xi_393_0) (xi_393_1)
theorem xi_ok393 (pc : Nat) : xi_ok cX12_add (xi_393 pc) = true := xi_c (xi_ok393_0) (xi_ok393_1)
def xi_394_0 : XIs := [(0, .iload_n 0, 1), (1, .tableswitch 120 100 120 #[105, 120, 120, 117, 120, 107, 120, 120, 103, 114, 101, 120, 120, 120, 109, 111, 120, 120, 120, 120, 99], 99), (100, .iconst 0, 1), (101, .ireturn, 1), (102, .iconst 1, 1), (103, .ireturn, 1), (104, .iconst 2, 1), (105, .ireturn, 1), (106, .iconst 3, 1), (107, .ireturn, 1), (108, .iconst 4, 1), (109, .ireturn, 1), (110, .iconst 5, 1), (111, .ireturn, 1), (112, .bipush 6, 2), (114, .ireturn, 1)]
set_option maxRecDepth 100000 in
theorem xi_ok394_0 : xi_ok cX12_nameOf xi_394_0 = true := by decide +kernel
def xi_394_1 : XIs := [(115, .bipush 7, 2), (117, .ireturn, 1), (118, .bipush 8, 2), (120, .ireturn, 1), (121, .iconst (-1), 1), (122, .ireturn, 1)]
set_option maxRecDepth 100000 in
theorem xi_ok394_1 : xi_ok cX12_nameOf xi_394_1 = true := by decide +kernel
def xi_394 (pc : Nat) : XIs := cond (Nat.blt pc 115) (xi_394_0) (xi_394_1)
theorem xi_ok394 (pc : Nat) : xi_ok cX12_nameOf (xi_394 pc) = true := xi_c (xi_ok394_0) (xi_ok394_1)
def xi_395_0 : XIs := [(0, .aload_n 0, 1), (1, .getfield 672, 3), (4, .ifCond .ne 7, 3), (7, .iconst 0, 1), (8, .goto 14, 3), (11, .aload_n 0, 1), (12, .getfield 260, 3), (15, .aload_n 0, 1), (16, .getfield 672, 3), (19, .iconst 1, 1), (20, .isub, 1), (21, .iaload, 1), (22, .ireturn, 1)]
set_option maxRecDepth 100000 in
theorem xi_ok395_0 : xi_ok cX12_top xi_395_0 = true := by decide +kernel
def xi_395 (pc : Nat) : XIs := xi_395_0
theorem xi_ok395 (pc : Nat) : xi_ok cX12_top (xi_395 pc) = true := xi_ok395_0
def xi_396_0 : XIs := [(0, .aload_n 0, 1), (1, .getfield 260, 3), (4, .aload_n 0, 1), (5, .getfield 672, 3), (8, .iload_n 1, 1), (9, .iastore, 1), (10, .aload_n 0, 1), (11, .dup, 1), (12, .getfield 672, 3), (15, .iconst 1, 1), (16, .iadd, 1), (17, .putfield 672, 3), (20, .aload_n 0, 1), (21, .dup, 1), (22, .getfield 675, 3), (25, .iload_n 1, 1)]
set_option maxRecDepth 100000 in
theorem xi_ok396_0 : xi_ok cX12_hold xi_396_0 = true := by decide +kernel
def xi_396_1 : XIs := [(26, .iconst 2, 1), (27, .if_icmp .eq 9, 3), (30, .iload_n 1, 1), (31, .bipush 40, 2), (33, .if_icmp .ne 7, 3), (36, .iconst 1, 1), (37, .goto 4, 3), (40, .iconst 0, 1), (41, .iadd, 1), (42, .putfield 675, 3), (45, .return_, 1)]
set_option maxRecDepth 100000 in
theorem xi_ok396_1 : xi_ok cX12_hold xi_396_1 = true := by decide +kernel
def xi_396 (pc : Nat) : XIs := cond (Nat.blt pc 26) (xi_396_0) (xi_396_1)
theorem xi_ok396 (pc : Nat) : xi_ok cX12_hold (xi_396 pc) = true := xi_c (xi_ok396_0) (xi_ok396_1)
def xi_397_0 : XIs := [(0, .aload_n 0, 1), (1, .dup, 1), (2, .getfield 672, 3), (5, .iconst 1, 1), (6, .isub, 1), (7, .putfield 672, 3), (10, .aload_n 0, 1), (11, .dup, 1), (12, .getfield 675, 3), (15, .aload_n 0, 1), (16, .getfield 260, 3), (19, .aload_n 0, 1), (20, .getfield 672, 3), (23, .iaload, 1), (24, .iconst 2, 1), (25, .if_icmp .eq 17, 3)]
set_option maxRecDepth 100000 in
theorem xi_ok397_0 : xi_ok cX12_drop xi_397_0 = true := by decide +kernel
def xi_397_1 : XIs := [(28, .aload_n 0, 1), (29, .getfield 260, 3), (32, .aload_n 0, 1), (33, .getfield 672, 3), (36, .iaload, 1), (37, .bipush 40, 2), (39, .if_icmp .ne 7, 3), (42, .iconst 1, 1), (43, .goto 4, 3), (46, .iconst 0, 1), (47, .isub, 1), (48, .putfield 675, 3), (51, .return_, 1)]
set_option maxRecDepth 100000 in
theorem xi_ok397_1 : xi_ok cX12_drop xi_397_1 = true := by decide +kernel
def xi_397 (pc : Nat) : XIs := cond (Nat.blt pc 28) (xi_397_0) (xi_397_1)
theorem xi_ok397 (pc : Nat) : xi_ok cX12_drop (xi_397 pc) = true := xi_c (xi_ok397_0) (xi_ok397_1)
def xi_398_0 : XIs := [(0, .iload_n 0, 1), (1, .bipush 42, 2), (3, .if_icmp .ne 7, 3), (6, .iconst 3, 1), (7, .goto 36, 3), (10, .iload_n 0, 1), (11, .bipush 43, 2), (13, .if_icmp .eq 9, 3), (16, .iload_n 0, 1), (17, .bipush 45, 2), (19, .if_icmp .ne 7, 3), (22, .iconst 2, 1), (23, .goto 20, 3), (26, .iload_n 0, 1), (27, .bipush 60, 2), (29, .if_icmp .eq 9, 3)]
set_option maxRecDepth 100000 in
theorem xi_ok398_0 : xi_ok cX12_strength xi_398_0 = true := by decide +kernel
def xi_398_1 : XIs := [(32, .iload_n 0, 1), (33, .bipush 61, 2), (35, .if_icmp .ne 7, 3), (38, .iconst 1, 1), (39, .goto 4, 3), (42, .iconst 0, 1), (43, .ireturn, 1)]
set_option maxRecDepth 100000 in
theorem xi_ok398_1 : xi_ok cX12_strength xi_398_1 = true := by decide +kernel
def xi_398 (pc : Nat) : XIs := cond (Nat.blt pc 32) (xi_398_0) (xi_398_1)
theorem xi_ok398 (pc : Nat) : xi_ok cX12_strength (xi_398 pc) = true := xi_c (xi_ok398_0) (xi_ok398_1)
def xi_399 (pc : Nat) : XIs := []
theorem xi_ok399 (pc : Nat) : xi_ok cX12_settle (xi_399 pc) = true := rfl
def xi_400 (pc : Nat) : XIs := []
theorem xi_ok400 (pc : Nat) : xi_ok cX12_turn (xi_400 pc) = true := rfl
def xi_401 (pc : Nat) : XIs := []
theorem xi_ok401 (pc : Nat) : xi_ok cX12_factor (xi_401 pc) = true := rfl
def xi_402 (pc : Nat) : XIs := []
theorem xi_ok402 (pc : Nat) : xi_ok cX12_behindFactor (xi_402 pc) = true := rfl
def xi_403 (pc : Nat) : XIs := []
theorem xi_ok403 (pc : Nat) : xi_ok cX12_expression (xi_403 pc) = true := rfl
def xi_404_0 : XIs := [(0, .aload_n 0, 1), (1, .iconst 0, 1), (2, .putfield 278, 3), (5, .aload_n 0, 1), (6, .iconst 0, 1), (7, .putfield 359, 3), (10, .aload_n 0, 1), (11, .getfield 356, 3), (14, .bipush 120, 2), (16, .if_icmp .le 13, 3), (19, .aload_n 0, 1), (20, .iconst 2, 1), (21, .bipush 120, 2), (23, .invokevirtual 391, 3), (26, .bipush (-4), 2), (28, .ireturn, 1)]
set_option maxRecDepth 100000 in
theorem xi_ok404_0 : xi_ok cX12_program xi_404_0 = true := by decide +kernel
def xi_404_1 : XIs := [(29, .aload_n 0, 1), (30, .iconst 0, 1), (31, .putfield 365, 3), (34, .aload_n 0, 1), (35, .iconst 0, 1), (36, .putfield 669, 3), (39, .aload_n 0, 1), (40, .iconst 1, 1), (41, .invokevirtual 712, 3), (44, .aload_n 0, 1), (45, .getfield 257, 3), (48, .iconst 1, 1), (49, .aload_n 0, 1), (50, .getfield 669, 3), (53, .iastore, 1), (54, .aload_n 0, 1)]
set_option maxRecDepth 100000 in
theorem xi_ok404_1 : xi_ok cX12_program xi_404_1 = true := by decide +kernel
def xi_404_2 : XIs := [(55, .getfield 359, 3), (58, .ifCond .ne 8, 3), (61, .aload_n 0, 1), (62, .iconst 0, 1), (63, .invokevirtual 712, 3), (66, .aload_n 0, 1), (67, .getfield 257, 3), (70, .iconst 2, 1), (71, .aload_n 0, 1), (72, .getfield 669, 3), (75, .iastore, 1), (76, .aload_n 0, 1), (77, .getfield 359, 3), (80, .ifCond .le 6, 3), (83, .bipush (-4), 2), (85, .ireturn, 1)]
set_option maxRecDepth 100000 in
theorem xi_ok404_2 : xi_ok cX12_program xi_404_2 = true := by decide +kernel
def xi_404_3 : XIs := [(86, .iconst 0, 1), (87, .istore_n 1, 1), (88, .iload_n 1, 1), (89, .aload_n 0, 1), (90, .getfield 669, 3), (93, .if_icmp .ge 33, 3), (96, .aload_n 0, 1), (97, .getfield 242, 3), (100, .iload_n 1, 1), (101, .aload_n 0, 1), (102, .getfield 251, 3), (105, .iload_n 1, 1), (106, .iaload, 1), (107, .iastore, 1), (108, .aload_n 0, 1), (109, .getfield 245, 3)]
set_option maxRecDepth 100000 in
theorem xi_ok404_3 : xi_ok cX12_program xi_404_3 = true := by decide +kernel
def xi_404_4 : XIs := [(112, .iload_n 1, 1), (113, .aload_n 0, 1), (114, .getfield 254, 3), (117, .iload_n 1, 1), (118, .iaload, 1), (119, .iastore, 1), (120, .iinc 1 1, 3), (123, .goto (-35), 3), (126, .aload_n 0, 1), (127, .getfield 248, 3), (130, .iconst 1, 1), (131, .aload_n 0, 1), (132, .getfield 257, 3), (135, .iconst 1, 1), (136, .iaload, 1), (137, .iastore, 1)]
set_option maxRecDepth 100000 in
theorem xi_ok404_4 : xi_ok cX12_program xi_404_4 = true := by decide +kernel
def xi_404_5 : XIs := [(138, .aload_n 0, 1), (139, .getfield 248, 3), (142, .iconst 2, 1), (143, .aload_n 0, 1), (144, .getfield 257, 3), (147, .iconst 2, 1), (148, .iaload, 1), (149, .iastore, 1), (150, .iconst 0, 1), (151, .ireturn, 1)]
set_option maxRecDepth 100000 in
theorem xi_ok404_5 : xi_ok cX12_program xi_404_5 = true := by decide +kernel
def xi_404 (pc : Nat) : XIs := cond (Nat.blt pc 86) (cond (Nat.blt pc 29) (xi_404_0) (cond (Nat.blt pc 55) (xi_404_1) (xi_404_2))) (cond (Nat.blt pc 112) (xi_404_3) (cond (Nat.blt pc 138) (xi_404_4) (xi_404_5)))
theorem xi_ok404 (pc : Nat) : xi_ok cX12_program (xi_404 pc) = true := xi_c (xi_c (xi_ok404_0) (xi_c (xi_ok404_1) (xi_ok404_2))) (xi_c (xi_ok404_3) (xi_c (xi_ok404_4) (xi_ok404_5)))
def xi_405_0 : XIs := [(0, .lload_n 0, 1), (1, .ldc2_w 584, 3), (4, .lcmp, 1), (5, .ifCond .le 9, 3), (8, .ldc2_w 584, 3), (11, .goto 18, 3), (14, .lload_n 0, 1), (15, .ldc2_w 716, 3), (18, .lcmp, 1), (19, .ifCond .ge 9, 3), (22, .ldc2_w 716, 3), (25, .goto 4, 3), (28, .lload_n 0, 1), (29, .lreturn, 1)]
set_option maxRecDepth 100000 in
theorem xi_ok405_0 : xi_ok cX12_fit xi_405_0 = true := by decide +kernel
def xi_405 (pc : Nat) : XIs := xi_405_0
theorem xi_ok405 (pc : Nat) : xi_ok cX12_fit (xi_405 pc) = true := xi_ok405_0
def xi_406 (pc : Nat) : XIs := []
theorem xi_ok406 (pc : Nat) : xi_ok cX12_product (xi_406 pc) = true := rfl
def xi_407_0 : XIs := [(0, .aload_n 0, 1), (1, .getfield 272, 3), (4, .iconst 0, 1), (5, .aload_n 0, 1), (6, .getfield 263, 3), (9, .iload_n 1, 1), (10, .laload, 1), (11, .lastore, 1), (12, .aload_n 0, 1), (13, .getfield 272, 3), (16, .iconst 1, 1), (17, .iload_n 1, 1), (18, .i2l, 1), (19, .lastore, 1), (20, .aload_n 0, 1), (21, .getfield 272, 3)]
set_option maxRecDepth 100000 in
theorem xi_ok407_0 : xi_ok cX12_nameAll xi_407_0 = true := by decide +kernel
def xi_407_1 : XIs := [(24, .iconst 2, 1), (25, .aload_n 0, 1), (26, .getfield 13, 3), (29, .bipush 32, 2), (31, .aload_n 0, 1), (32, .getfield 301, 3), (35, .imul, 1), (36, .iload_n 1, 1), (37, .iadd, 1), (38, .iaload, 1), (39, .i2l, 1), (40, .lastore, 1), (41, .aload_n 0, 1), (42, .getfield 272, 3), (45, .iconst 3, 1), (46, .lconst 0, 1)]
set_option maxRecDepth 100000 in
theorem xi_ok407_1 : xi_ok cX12_nameAll xi_407_1 = true := by decide +kernel
