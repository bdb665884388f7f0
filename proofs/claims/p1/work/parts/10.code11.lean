def xi_286_2 : XIs := [(56, .iconst 0, 1), (57, .bastore, 1), (58, .iinc 2 1, 3), (61, .goto (-21), 3), (64, .iconst 0, 1), (65, .istore_n 2, 1), (66, .iload_n 2, 1), (67, .iload_n 1, 1), (68, .if_icmp .ge 15, 3), (83, .aload_n 0, 1), (84, .invokevirtual 298, 3), (87, .iload_n 1, 1), (88, .ifCond .ge 10, 3), (91, .aload_n 0, 1), (92, .getfield 291, 3), (95, .goto 4, 3)]
set_option maxRecDepth 100000 in
theorem xi_ok286_2 : xi_ok cX12_view xi_286_2 = true := by decide +kernel
def xi_286_3 : XIs := [(98, .iload_n 1, 1), (99, .ireturn, 1)]
set_option maxRecDepth 100000 in
theorem xi_ok286_3 : xi_ok cX12_view xi_286_3 = true := by decide +kernel
def xi_286 (pc : Nat) : XIs := cond (Nat.blt pc 56) (cond (Nat.blt pc 28) (xi_286_0) (xi_286_1)) (cond (Nat.blt pc 98) (xi_286_2) (xi_286_3))
theorem xi_ok286 (pc : Nat) : xi_ok cX12_view (xi_286 pc) = true := xi_c (xi_c (xi_ok286_0) (xi_ok286_1)) (xi_c (xi_ok286_2) (xi_ok286_3))
def xi_287_0 : XIs := [(0, .aload_n 0, 1), (1, .iconst 0, 1), (2, .putfield 278, 3), (5, .aload_n 0, 1), (6, .getfield 291, 3), (9, .ireturn, 1)]
set_option maxRecDepth 100000 in
theorem xi_ok287_0 : xi_ok cX12_version xi_287_0 = true := by decide +kernel
def xi_287 (pc : Nat) : XIs := xi_287_0
theorem xi_ok287 (pc : Nat) : xi_ok cX12_version (xi_287 pc) = true := xi_ok287_0
def xi_288_0 : XIs := [(0, .aload_n 0, 1), (1, .getfield 16, 3), (4, .aload_n 0, 1), (5, .getfield 288, 3), (8, .iload_n 1, 1), (9, .iadd, 1), (10, .baload, 1), (11, .ifCond .eq 32, 3), (43, .iconst 0, 1), (44, .ireturn, 1)]
set_option maxRecDepth 100000 in
theorem xi_ok288_0 : xi_ok cX12_isJoint xi_288_0 = true := by decide +kernel
def xi_288 (pc : Nat) : XIs := xi_288_0
theorem xi_ok288 (pc : Nat) : xi_ok cX12_isJoint (xi_288 pc) = true := xi_ok288_0
def xi_289_0 : XIs := [(0, .aload_n 0, 1), (1, .iload_n 1, 1), (2, .i2l, 1), (3, .lconst 0, 1), (4, .ldc2_w 338, 3), (7, .invokestatic 308, 3), (10, .invokevirtual 334, 3), (13, .ifCond .eq 5, 3), (16, .iconst 0, 1), (17, .ireturn, 1), (18, .iconst 0, 1), (19, .istore_n 2, 1), (20, .iconst 0, 1), (21, .istore_n 3, 1), (22, .iconst (-1), 1), (23, .istore 4, 2)]
set_option maxRecDepth 100000 in
theorem xi_ok289_0 : xi_ok cX12_size xi_289_0 = true := by decide +kernel
def xi_289_1 : XIs := [(25, .iconst 0, 1), (26, .istore 5, 2), (28, .iload 5, 2), (30, .sipush 160, 3), (33, .if_icmp .ge 73, 3), (36, .iload_n 2, 1), (37, .aload_n 0, 1), (38, .getfield 16, 3), (41, .aload_n 0, 1), (42, .getfield 288, 3), (45, .iload 5, 2), (47, .iadd, 1), (48, .baload, 1), (49, .ifCond .eq 7, 3), (56, .iconst 0, 1), (57, .iadd, 1)]
set_option maxRecDepth 100000 in
theorem xi_ok289_1 : xi_ok cX12_size xi_289_1 = true := by decide +kernel
def xi_289_2 : XIs := [(58, .istore_n 2, 1), (59, .iload_n 3, 1), (60, .aload_n 0, 1), (61, .iload 5, 2), (63, .invokevirtual 340, 3), (66, .ifCond .eq 7, 3), (73, .iconst 0, 1), (74, .iadd, 1), (75, .istore_n 3, 1), (76, .aload_n 0, 1), (77, .getfield 16, 3), (80, .aload_n 0, 1), (81, .getfield 288, 3), (84, .iload 5, 2), (86, .iadd, 1), (87, .baload, 1)]
set_option maxRecDepth 100000 in
theorem xi_ok289_2 : xi_ok cX12_size xi_289_2 = true := by decide +kernel
def xi_289_3 : XIs := [(88, .ifCond .eq 8, 3), (96, .iload 4, 2), (98, .istore 4, 2), (100, .iinc 5 1, 3), (103, .goto (-75), 3), (106, .iload_n 1, 1), (107, .ifCond .ne 10, 3), (110, .aload_n 0, 1), (111, .getfield 285, 3), (114, .goto 23, 3), (117, .iload_n 1, 1), (118, .iconst 1, 1), (119, .if_icmp .ne 7, 3), (122, .iload_n 2, 1), (123, .goto 14, 3), (126, .iload_n 1, 1)]
set_option maxRecDepth 100000 in
theorem xi_ok289_3 : xi_ok cX12_size xi_289_3 = true := by decide +kernel
def xi_289_4 : XIs := [(127, .iconst 2, 1), (128, .if_icmp .ne 7, 3), (131, .iload_n 3, 1), (132, .goto 5, 3), (135, .iload 4, 2), (137, .ireturn, 1)]
set_option maxRecDepth 100000 in
theorem xi_ok289_4 : xi_ok cX12_size xi_289_4 = true := by decide +kernel
def xi_289 (pc : Nat) : XIs := cond (Nat.blt pc 58) (cond (Nat.blt pc 25) (xi_289_0) (xi_289_1)) (cond (Nat.blt pc 88) (xi_289_2) (cond (Nat.blt pc 127) (xi_289_3) (xi_289_4)))
theorem xi_ok289 (pc : Nat) : xi_ok cX12_size (xi_289 pc) = true := xi_c (xi_c (xi_ok289_0) (xi_ok289_1)) (xi_c (xi_ok289_2) (xi_c (xi_ok289_3) (xi_ok289_4)))
def xi_290_0 : XIs := [(0, .aload_n 0, 1), (1, .iload_n 1, 1), (2, .i2l, 1), (3, .lconst 0, 1), (4, .ldc2_w 343, 3), (7, .invokestatic 308, 3), (10, .ifCond .eq 19, 3), (13, .iload_n 2, 1), (14, .i2l, 1), (15, .lconst 0, 1), (16, .ldc2_w 345, 3), (19, .invokestatic 308, 3), (22, .ifCond .eq 7, 3), (25, .iconst 1, 1), (26, .goto 4, 3), (29, .iconst 0, 1)]
set_option maxRecDepth 100000 in
theorem xi_ok290_0 : xi_ok cX12_told xi_290_0 = true := by decide +kernel
def xi_290_1 : XIs := [(30, .invokevirtual 334, 3), (33, .ifCond .eq 5, 3), (36, .lconst 0, 1), (37, .lreturn, 1), (38, .aload_n 0, 1), (39, .getfield 288, 3), (42, .iload_n 1, 1), (43, .iadd, 1), (44, .istore_n 3, 1), (45, .aload_n 0, 1), (46, .getfield 16, 3), (49, .iload_n 3, 1), (50, .baload, 1), (51, .ifCond .ne 7, 3), (54, .ldc2_w 347, 3), (57, .lreturn, 1)]
set_option maxRecDepth 100000 in
theorem xi_ok290_1 : xi_ok cX12_told xi_290_1 = true := by decide +kernel
def xi_290 (pc : Nat) : XIs := cond (Nat.blt pc 30) (xi_290_0) (xi_290_1)
theorem xi_ok290 (pc : Nat) : xi_ok cX12_told (xi_290 pc) = true := xi_c (xi_ok290_0) (xi_ok290_1)
def xi_291_0 : XIs := [(0, .aload_n 0, 1), (1, .aload_n 0, 1), (2, .iload_n 1, 1), (3, .invokevirtual 349, 3), (6, .invokevirtual 334, 3), (9, .ifCond .eq 7, 3), (12, .iconst 0, 1), (13, .goto 17, 3), (30, .ireturn, 1)]
set_option maxRecDepth 100000 in
theorem xi_ok291_0 : xi_ok cX12_labelOf xi_291_0 = true := by decide +kernel
def xi_291 (pc : Nat) : XIs := xi_291_0
theorem xi_ok291 (pc : Nat) : xi_ok cX12_labelOf (xi_291 pc) = true := xi_ok291_0
def xi_292_0 : XIs := [(0, .aload_n 0, 1), (1, .aload_n 0, 1), (2, .iload_n 1, 1), (3, .invokevirtual 349, 3), (6, .ifCond .eq 21, 3), (27, .iconst 0, 1), (28, .invokevirtual 334, 3), (31, .ifCond .eq 5, 3), (34, .iconst 0, 1), (35, .ireturn, 1)]
set_option maxRecDepth 100000 in
theorem xi_ok292_0 : xi_ok cX12_arcAt xi_292_0 = true := by decide +kernel
def xi_292 (pc : Nat) : XIs := xi_292_0
theorem xi_ok292 (pc : Nat) : xi_ok cX12_arcAt (xi_292 pc) = true := xi_ok292_0
def xi_293_0 : XIs := [(0, .aload_n 0, 1), (1, .iload_n 1, 1), (2, .i2l, 1), (3, .ldc2_w 352, 3), (6, .ldc2_w 354, 3), (9, .invokestatic 308, 3), (12, .aload_n 0, 1), (13, .getfield 356, 3), (16, .sipush 1000, 3), (19, .if_icmp .ge 7, 3), (22, .iconst 1, 1), (23, .goto 4, 3), (27, .invokevirtual 281, 3), (30, .ifCond .eq 5, 3), (33, .iconst 0, 1), (34, .ireturn, 1)]
set_option maxRecDepth 100000 in
theorem xi_ok293_0 : xi_ok cX12_type xi_293_0 = true := by decide +kernel
def xi_293_1 : XIs := [(35, .aload_n 0, 1), (36, .getfield 60, 3), (39, .aload_n 0, 1), (40, .getfield 356, 3), (43, .iload_n 1, 1), (44, .iastore, 1), (45, .aload_n 0, 1), (46, .dup, 1), (47, .getfield 356, 3), (50, .iconst 1, 1), (51, .iadd, 1), (52, .putfield 356, 3), (55, .aload_n 0, 1), (56, .getfield 356, 3), (59, .ireturn, 1)]
set_option maxRecDepth 100000 in
theorem xi_ok293_1 : xi_ok cX12_type xi_293_1 = true := by decide +kernel
def xi_293 (pc : Nat) : XIs := cond (Nat.blt pc 35) (xi_293_0) (xi_293_1)
theorem xi_ok293 (pc : Nat) : xi_ok cX12_type (xi_293 pc) = true := xi_c (xi_ok293_0) (xi_ok293_1)
def xi_294_0 : XIs := [(0, .aload_n 0, 1), (1, .iconst 0, 1), (2, .putfield 278, 3), (5, .aload_n 0, 1), (6, .getfield 356, 3), (9, .istore_n 1, 1), (10, .aload_n 0, 1), (11, .iconst 0, 1), (12, .putfield 356, 3), (15, .iload_n 1, 1), (16, .ireturn, 1)]
set_option maxRecDepth 100000 in
theorem xi_ok294_0 : xi_ok cX12_wipe xi_294_0 = true := by decide +kernel
def xi_294 (pc : Nat) : XIs := xi_294_0
theorem xi_ok294 (pc : Nat) : xi_ok cX12_wipe (xi_294 pc) = true := xi_ok294_0
def xi_295_0 : XIs := [(0, .aload_n 0, 1), (1, .iload_n 1, 1), (2, .i2l, 1), (3, .lconst 0, 1), (4, .lconst 1, 1), (5, .invokestatic 308, 3), (8, .invokevirtual 334, 3), (11, .ifCond .eq 5, 3), (14, .iconst 0, 1), (15, .ireturn, 1), (16, .aload_n 0, 1), (17, .getfield 359, 3), (20, .ifCond .ne 7, 3), (23, .iconst (-1), 1), (24, .goto 18, 3), (42, .ireturn, 1)]
set_option maxRecDepth 100000 in
theorem xi_ok295_0 : xi_ok cX12_fault xi_295_0 = true := by decide +kernel
def xi_295 (pc : Nat) : XIs := xi_295_0
theorem xi_ok295 (pc : Nat) : xi_ok cX12_fault (xi_295 pc) = true := xi_ok295_0
def xi_296 (pc : Nat) : XIs := []
theorem xi_ok296 (pc : Nat) : xi_ok cX12_isLetter (xi_296 pc) = true := rfl
def xi_297 (pc : Nat) : XIs := []
theorem xi_ok297 (pc : Nat) : xi_ok cX12_isDigit (xi_297 pc) = true := rfl
def xi_298_0 : XIs := [(0, .aload_n 0, 1), (1, .getfield 359, 3), (4, .ifCond .ne 13, 3), (7, .aload_n 0, 1), (8, .iload_n 1, 1), (9, .putfield 359, 3), (12, .aload_n 0, 1), (13, .iload_n 2, 1), (14, .putfield 362, 3), (17, .return_, 1)]
set_option maxRecDepth 100000 in
theorem xi_ok298_0 : xi_ok cX12_blame xi_298_0 = true := by decide +kernel
def xi_298 (pc : Nat) : XIs := xi_298_0
theorem xi_ok298 (pc : Nat) : xi_ok cX12_blame (xi_298 pc) = true := xi_ok298_0
def xi_299_0 : XIs := [(0, .aload_n 0, 1), (1, .getfield 365, 3), (4, .aload_n 0, 1), (5, .getfield 356, 3), (8, .if_icmp .ge 30, 3), (38, .aload_n 0, 1), (39, .aload_n 0, 1), (40, .getfield 365, 3), (43, .putfield 368, 3), (46, .aload_n 0, 1), (47, .getfield 365, 3), (50, .aload_n 0, 1), (51, .getfield 356, 3), (54, .if_icmp .ne 9, 3), (57, .aload_n 0, 1), (58, .iconst 0, 1)]
set_option maxRecDepth 100000 in
theorem xi_ok299_0 : xi_ok cX12_nextToken xi_299_0 = true := by decide +kernel
def xi_299_1 : XIs := [(59, .putfield 371, 3), (62, .return_, 1)]
set_option maxRecDepth 100000 in
theorem xi_ok299_1 : xi_ok cX12_nextToken xi_299_1 = true := by decide +kernel
def xi_299 (pc : Nat) : XIs := cond (Nat.blt pc 59) (xi_299_0) (xi_299_1)
theorem xi_ok299 (pc : Nat) : xi_ok cX12_nextToken (xi_299 pc) = true := xi_c (xi_ok299_0) (xi_ok299_1)
def xi_300 (pc : Nat) : XIs := []
theorem xi_ok300 (pc : Nat) : xi_ok cX12_readNumber (xi_300 pc) = true := rfl
def xi_301 (pc : Nat) : XIs := []
theorem xi_ok301 (pc : Nat) : xi_ok cX12_shape (xi_301 pc) = true := rfl
def xi_302_0 : XIs := [(0, .aload_n 0, 1), (1, .iconst 0, 1), (2, .putfield 278, 3), (5, .aload_n 0, 1), (6, .iconst 0, 1), (7, .putfield 359, 3), (10, .aload_n 0, 1), (11, .iconst 0, 1), (12, .putfield 398, 3), (15, .aload_n 0, 1), (16, .iconst 0, 1), (17, .putfield 365, 3), (20, .aload_n 0, 1), (21, .invokevirtual 401, 3), (24, .aload_n 0, 1), (25, .invokevirtual 404, 3)]
set_option maxRecDepth 100000 in
theorem xi_ok302_0 : xi_ok cX12_load xi_302_0 = true := by decide +kernel
def xi_302_1 : XIs := [(28, .aload_n 0, 1), (29, .getfield 371, 3), (32, .ifCond .eq 28, 3), (60, .aload_n 0, 1), (61, .getfield 359, 3), (64, .ifCond .le 6, 3), (70, .iconst 0, 1), (71, .istore_n 1, 1), (72, .iload_n 1, 1), (73, .aload_n 0, 1), (74, .getfield 398, 3), (77, .if_icmp .ge 165, 3), (242, .aload_n 0, 1), (243, .getfield 398, 3), (246, .ireturn, 1)]
set_option maxRecDepth 100000 in
theorem xi_ok302_1 : xi_ok cX12_load xi_302_1 = true := by decide +kernel
def xi_302 (pc : Nat) : XIs := cond (Nat.blt pc 28) (xi_302_0) (xi_302_1)
theorem xi_ok302 (pc : Nat) : xi_ok cX12_load (xi_302 pc) = true := xi_c (xi_ok302_0) (xi_ok302_1)
def xi_303_0 : XIs := [(0, .aload_n 0, 1), (1, .getfield 7, 3), (4, .iconst 2, 1), (5, .aload_n 0, 1), (6, .getfield 7, 3), (9, .iconst 0, 1), (10, .iaload, 1), (11, .iastore, 1), (12, .iconst 0, 1), (13, .istore_n 1, 1), (14, .iload_n 1, 1), (15, .sipush 160, 3), (18, .if_icmp .ge 25, 3), (21, .aload_n 0, 1), (22, .getfield 16, 3), (25, .sipush 320, 3)]
set_option maxRecDepth 100000 in
theorem xi_ok303_0 : xi_ok cX12_copyGraph xi_303_0 = true := by decide +kernel
def xi_303_1 : XIs := [(28, .iload_n 1, 1), (29, .iadd, 1), (30, .aload_n 0, 1), (31, .getfield 16, 3), (34, .iload_n 1, 1), (35, .baload, 1), (36, .bastore, 1), (37, .iinc 1 1, 3), (40, .goto (-26), 3), (43, .return_, 1)]
set_option maxRecDepth 100000 in
theorem xi_ok303_1 : xi_ok cX12_copyGraph xi_303_1 = true := by decide +kernel
def xi_303 (pc : Nat) : XIs := cond (Nat.blt pc 28) (xi_303_0) (xi_303_1)
theorem xi_ok303 (pc : Nat) : xi_ok cX12_copyGraph (xi_303 pc) = true := xi_c (xi_ok303_0) (xi_ok303_1)
def xi_304 (pc : Nat) : XIs := []
theorem xi_ok304 (pc : Nat) : xi_ok cX12_command (xi_304 pc) = true := rfl
def xi_305 (pc : Nat) : XIs := []
theorem xi_ok305 (pc : Nat) : xi_ok cX12_isDone (xi_305 pc) = true := rfl
def xi_306 (pc : Nat) : XIs := []
theorem xi_ok306 (pc : Nat) : xi_ok cX12_put (xi_306 pc) = true := rfl
def xi_307 (pc : Nat) : XIs := []
theorem xi_ok307 (pc : Nat) : xi_ok cX12_putNumber (xi_307 pc) = true := rfl
def xi_308_0 : XIs := [(0, .aload_n 0, 1), (1, .iconst 0, 1), (2, .putfield 278, 3), (5, .aload_n 0, 1), (6, .iconst 0, 1), (7, .putfield 418, 3), (10, .iconst 0, 1), (11, .istore_n 1, 1), (12, .iload_n 1, 1), (13, .aload_n 0, 1), (14, .getfield 285, 3), (17, .if_icmp .ge 48, 3), (65, .aload_n 0, 1), (66, .getfield 288, 3), (69, .istore_n 1, 1), (70, .iload_n 1, 1)]
set_option maxRecDepth 100000 in
theorem xi_ok308_0 : xi_ok cX12_print xi_308_0 = true := by decide +kernel
def xi_308_1 : XIs := [(71, .aload_n 0, 1), (72, .getfield 288, 3), (75, .sipush 160, 3), (78, .iadd, 1), (79, .if_icmp .ge 89, 3), (82, .aload_n 0, 1), (83, .getfield 16, 3), (86, .iload_n 1, 1), (87, .baload, 1), (88, .ifCond .eq 74, 3), (162, .iinc 1 1, 3), (165, .goto (-95), 3), (168, .aload_n 0, 1), (169, .getfield 418, 3), (172, .ireturn, 1)]
set_option maxRecDepth 100000 in
theorem xi_ok308_1 : xi_ok cX12_print xi_308_1 = true := by decide +kernel
def xi_308 (pc : Nat) : XIs := cond (Nat.blt pc 71) (xi_308_0) (xi_308_1)
theorem xi_ok308 (pc : Nat) : xi_ok cX12_print (xi_308 pc) = true := xi_c (xi_ok308_0) (xi_ok308_1)
def xi_309_0 : XIs := [(0, .aload_n 0, 1), (1, .iload_n 1, 1), (2, .ifCond .lt 15, 3), (5, .iload_n 1, 1), (6, .aload_n 0, 1), (7, .getfield 418, 3), (10, .if_icmp .ge 7, 3), (17, .iconst 0, 1), (18, .invokevirtual 334, 3), (21, .ifCond .eq 7, 3), (24, .iconst 0, 1), (25, .goto 9, 3), (34, .ireturn, 1)]
set_option maxRecDepth 100000 in
theorem xi_ok309_0 : xi_ok cX12_printed xi_309_0 = true := by decide +kernel
def xi_309 (pc : Nat) : XIs := xi_309_0
theorem xi_ok309 (pc : Nat) : xi_ok cX12_printed (xi_309 pc) = true := xi_ok309_0
def xi_310 (pc : Nat) : XIs := []
theorem xi_ok310 (pc : Nat) : xi_ok cX12_close (xi_310 pc) = true := rfl
def xi_311 (pc : Nat) : XIs := []
theorem xi_ok311 (pc : Nat) : xi_ok cX12_has (xi_311 pc) = true := rfl
def xi_312 (pc : Nat) : XIs := []
theorem xi_ok312 (pc : Nat) : xi_ok cX12_toGoal (xi_312 pc) = true := rfl
def xi_313 (pc : Nat) : XIs := []
theorem xi_ok313 (pc : Nat) : xi_ok cX12_fewest (xi_313 pc) = true := rfl
def xi_314 (pc : Nat) : XIs := []
theorem xi_ok314 (pc : Nat) : xi_ok cX12_between (xi_314 pc) = true := rfl
def xi_315_0 : XIs := [(0, .aload_n 0, 1), (1, .aload_n 0, 1), (2, .iload_n 1, 1), (3, .invokevirtual 349, 3), (6, .ifCond .eq 15, 3), (21, .iconst 0, 1), (22, .invokevirtual 334, 3), (25, .ifCond .eq 5, 3), (28, .lconst 0, 1), (29, .lreturn, 1)]
set_option maxRecDepth 100000 in
theorem xi_ok315_0 : xi_ok cX12_distance xi_315_0 = true := by decide +kernel
def xi_315 (pc : Nat) : XIs := xi_315_0
theorem xi_ok315 (pc : Nat) : xi_ok cX12_distance (xi_315 pc) = true := xi_ok315_0
def xi_316_0 : XIs := [(0, .aload_n 0, 1), (1, .aload_n 0, 1), (2, .iload_n 1, 1), (3, .invokevirtual 349, 3), (6, .ifCond .eq 19, 3), (25, .iconst 0, 1), (26, .invokevirtual 334, 3), (29, .ifCond .eq 5, 3), (32, .iconst 0, 1), (33, .ireturn, 1)]
set_option maxRecDepth 100000 in
theorem xi_ok316_0 : xi_ok cX12_way xi_316_0 = true := by decide +kernel
def xi_316 (pc : Nat) : XIs := xi_316_0
theorem xi_ok316 (pc : Nat) : xi_ok cX12_way (xi_316 pc) = true := xi_ok316_0
def xi_317_0 : XIs := [(0, .aload_n 0, 1), (1, .aload_n 0, 1), (2, .iload_n 1, 1), (3, .invokevirtual 349, 3), (6, .ifCond .eq 15, 3), (21, .iconst 0, 1), (22, .invokevirtual 334, 3), (25, .ifCond .eq 5, 3), (28, .iconst 0, 1), (29, .ireturn, 1)]
set_option maxRecDepth 100000 in
theorem xi_ok317_0 : xi_ok cX12_width xi_317_0 = true := by decide +kernel
def xi_317 (pc : Nat) : XIs := xi_317_0
theorem xi_ok317 (pc : Nat) : xi_ok cX12_width (xi_317 pc) = true := xi_ok317_0
def xi_318 (pc : Nat) : XIs := []
theorem xi_ok318 (pc : Nat) : xi_ok cX12_addShort (xi_318 pc) = true := rfl
def xi_319 (pc : Nat) : XIs := []
theorem xi_ok319 (pc : Nat) : xi_ok cX12_goesOn (xi_319 pc) = true := rfl
def xi_320 (pc : Nat) : XIs := []
theorem xi_ok320 (pc : Nat) : xi_ok cX12_findShorts (xi_320 pc) = true := rfl
def xi_321 (pc : Nat) : XIs := []
theorem xi_ok321 (pc : Nat) : xi_ok cX12_second (xi_321 pc) = true := rfl
def xi_322 (pc : Nat) : XIs := []
theorem xi_ok322 (pc : Nat) : xi_ok cX12_third (xi_322 pc) = true := rfl
def xi_323 (pc : Nat) : XIs := []
theorem xi_ok323 (pc : Nat) : xi_ok cX12_isBefore (xi_323 pc) = true := rfl
def xi_324 (pc : Nat) : XIs := []
theorem xi_ok324 (pc : Nat) : xi_ok cX12_sortShorts (xi_324 pc) = true := rfl
def xi_325_0 : XIs := [(0, .aload_n 0, 1), (1, .aload_n 0, 1), (2, .iload_n 1, 1), (3, .invokevirtual 349, 3), (6, .ifCond .eq 20, 3), (26, .iconst 0, 1), (27, .invokevirtual 334, 3), (30, .ifCond .eq 5, 3), (33, .iconst 0, 1), (34, .ireturn, 1)]
set_option maxRecDepth 100000 in
theorem xi_ok325_0 : xi_ok cX12_shorts xi_325_0 = true := by decide +kernel
def xi_325 (pc : Nat) : XIs := xi_325_0
theorem xi_ok325 (pc : Nat) : xi_ok cX12_shorts (xi_325 pc) = true := xi_ok325_0
def xi_326_0 : XIs := [(0, .aload_n 0, 1), (1, .aload_n 0, 1), (2, .iload_n 1, 1), (3, .invokevirtual 349, 3), (6, .ifCond .eq 29, 3), (35, .iconst 0, 1), (36, .invokevirtual 334, 3), (39, .ifCond .eq 5, 3), (42, .iconst 0, 1), (43, .ireturn, 1)]
set_option maxRecDepth 100000 in
theorem xi_ok326_0 : xi_ok cX12_shortArc xi_326_0 = true := by decide +kernel
def xi_326 (pc : Nat) : XIs := xi_326_0
theorem xi_ok326 (pc : Nat) : xi_ok cX12_shortArc (xi_326 pc) = true := xi_ok326_0
def xi_327 (pc : Nat) : XIs := []
theorem xi_ok327 (pc : Nat) : xi_ok cX12_least (xi_327 pc) = true := rfl
def xi_328_0 : XIs := [(0, .aload_n 0, 1), (1, .iload_n 1, 1), (2, .i2l, 1), (3, .lconst 0, 1), (4, .lconst 1, 1), (5, .invokestatic 308, 3), (8, .ifCond .eq 15, 3), (11, .aload_n 0, 1), (12, .iload_n 2, 1), (13, .invokevirtual 349, 3), (16, .ifCond .eq 7, 3), (23, .iconst 0, 1), (24, .invokevirtual 334, 3), (27, .ifCond .eq 5, 3), (30, .iconst 0, 1), (31, .ireturn, 1)]
set_option maxRecDepth 100000 in
theorem xi_ok328_0 : xi_ok cX12_part xi_328_0 = true := by decide +kernel
def xi_328 (pc : Nat) : XIs := xi_328_0
theorem xi_ok328 (pc : Nat) : xi_ok cX12_part (xi_328 pc) = true := xi_ok328_0
def xi_329 (pc : Nat) : XIs := []
theorem xi_ok329 (pc : Nat) : xi_ok cX12_weakParts (xi_329 pc) = true := rfl
def xi_330_0 : XIs := [(0, .aload_n 0, 1), (1, .aload_n 0, 1), (2, .iload_n 1, 1), (3, .invokevirtual 476, 3), (6, .invokevirtual 334, 3), (9, .ifCond .eq 5, 3), (12, .iconst 0, 1), (13, .ireturn, 1)]
set_option maxRecDepth 100000 in
theorem xi_ok330_0 : xi_ok cX12_bridge xi_330_0 = true := by decide +kernel
def xi_330 (pc : Nat) : XIs := xi_330_0
theorem xi_ok330 (pc : Nat) : xi_ok cX12_bridge (xi_330 pc) = true := xi_ok330_0
def xi_331_0 : XIs := [(0, .aload_n 0, 1), (1, .aload_n 0, 1), (2, .iload_n 1, 1), (3, .invokevirtual 349, 3), (6, .invokevirtual 334, 3), (9, .ifCond .eq 5, 3), (12, .iconst 0, 1), (13, .ireturn, 1)]
set_option maxRecDepth 100000 in
theorem xi_ok331_0 : xi_ok cX12_cut xi_331_0 = true := by decide +kernel
def xi_331 (pc : Nat) : XIs := xi_331_0
theorem xi_ok331 (pc : Nat) : xi_ok cX12_cut (xi_331 pc) = true := xi_ok331_0
def xi_332_0 : XIs := [(0, .aload_n 0, 1), (1, .iload_n 1, 1), (2, .ifCond .lt 7, 3), (5, .iconst 1, 1), (6, .goto 4, 3), (9, .iconst 0, 1), (10, .invokevirtual 334, 3), (13, .ifCond .eq 5, 3), (16, .iconst 0, 1), (17, .ireturn, 1), (18, .iconst 0, 1), (19, .istore_n 2, 1), (20, .iconst (-1), 1), (21, .istore_n 3, 1), (22, .iconst (-1), 1), (23, .istore 4, 2)]
set_option maxRecDepth 100000 in
theorem xi_ok332_0 : xi_ok cX12_order xi_332_0 = true := by decide +kernel
def xi_332_1 : XIs := [(25, .iconst 0, 1), (26, .istore 5, 2), (28, .iload 5, 2), (30, .aload_n 0, 1), (31, .getfield 285, 3), (34, .if_icmp .ge 158, 3), (192, .iload 4, 2), (194, .ireturn, 1)]
set_option maxRecDepth 100000 in
theorem xi_ok332_1 : xi_ok cX12_order xi_332_1 = true := by decide +kernel
def xi_332 (pc : Nat) : XIs := cond (Nat.blt pc 25) (xi_332_0) (xi_332_1)
theorem xi_ok332 (pc : Nat) : xi_ok cX12_order (xi_332 pc) = true := xi_c (xi_ok332_0) (xi_ok332_1)
def xi_333 (pc : Nat) : XIs := []
theorem xi_ok333 (pc : Nat) : xi_ok cX12_jointsWith (xi_333 pc) = true := rfl
def xi_334_0 : XIs := [(0, .aload_n 0, 1), (1, .aload_n 0, 1), (2, .iload_n 1, 1), (3, .invokevirtual 349, 3), (6, .invokevirtual 334, 3), (9, .ifCond .eq 5, 3), (12, .iconst 0, 1), (13, .ireturn, 1)]
set_option maxRecDepth 100000 in
theorem xi_ok334_0 : xi_ok cX12_core xi_334_0 = true := by decide +kernel
def xi_334 (pc : Nat) : XIs := xi_334_0
theorem xi_ok334 (pc : Nat) : xi_ok cX12_core (xi_334 pc) = true := xi_ok334_0
def xi_335_0 : XIs := [(0, .iconst 0, 1), (1, .istore_n 1, 1), (2, .iload_n 1, 1), (3, .aload_n 0, 1), (4, .getfield 285, 3), (7, .if_icmp .ge 16, 3), (23, .iconst 0, 1), (24, .istore_n 1, 1), (25, .iload_n 1, 1), (26, .sipush 160, 3), (29, .if_icmp .ge 81, 3), (32, .aload_n 0, 1), (33, .iload_n 1, 1), (34, .invokevirtual 340, 3), (37, .ifCond .eq 67, 3), (104, .iinc 1 1, 3)]
set_option maxRecDepth 100000 in
theorem xi_ok335_0 : xi_ok cX12_findBeside xi_335_0 = true := by decide +kernel
def xi_335_1 : XIs := [(107, .goto (-82), 3), (110, .return_, 1)]
set_option maxRecDepth 100000 in
theorem xi_ok335_1 : xi_ok cX12_findBeside xi_335_1 = true := by decide +kernel
def xi_335 (pc : Nat) : XIs := cond (Nat.blt pc 107) (xi_335_0) (xi_335_1)
theorem xi_ok335 (pc : Nat) : xi_ok cX12_findBeside (xi_335 pc) = true := xi_c (xi_ok335_0) (xi_ok335_1)
def xi_336 (pc : Nat) : XIs := []
theorem xi_ok336 (pc : Nat) : xi_ok cX12_count (xi_336 pc) = true := rfl
def xi_337_0 : XIs := [(0, .aload_n 0, 1), (1, .invokevirtual 485, 3), (4, .iconst 0, 1), (5, .istore_n 1, 1), (6, .iconst 0, 1), (7, .istore_n 2, 1), (8, .iconst 0, 1), (9, .istore_n 3, 1), (10, .aload_n 0, 1), (11, .getfield 106, 3), (14, .iconst 0, 1), (15, .aload_n 0, 1), (16, .getfield 285, 3), (19, .bipush 32, 2), (21, .if_icmp .ne 7, 3), (28, .iconst 1, 1)]
set_option maxRecDepth 100000 in
theorem xi_ok337_0 : xi_ok cX12_findClique xi_337_0 = true := by decide +kernel
def xi_337_1 : XIs := [(29, .aload_n 0, 1), (30, .getfield 285, 3), (33, .ishl, 1), (34, .iconst 1, 1), (35, .isub, 1), (36, .iastore, 1), (37, .aload_n 0, 1), (38, .getfield 103, 3), (41, .iconst 0, 1), (42, .iconst 0, 1), (43, .iastore, 1), (44, .iload_n 3, 1), (45, .ifCond .lt 120, 3), (48, .iload_n 3, 1), (49, .iload_n 2, 1), (50, .if_icmp .le 12, 3)]
set_option maxRecDepth 100000 in
theorem xi_ok337_1 : xi_ok cX12_findClique xi_337_1 = true := by decide +kernel
def xi_337_2 : XIs := [(62, .aload_n 0, 1), (63, .getfield 106, 3), (66, .iload_n 3, 1), (67, .iaload, 1), (68, .ifCond .eq 18, 3), (86, .iinc 3 (-1), 3), (89, .goto (-45), 3), (165, .iload_n 1, 1), (166, .ireturn, 1)]
set_option maxRecDepth 100000 in
theorem xi_ok337_2 : xi_ok cX12_findClique xi_337_2 = true := by decide +kernel
def xi_337 (pc : Nat) : XIs := cond (Nat.blt pc 29) (xi_337_0) (cond (Nat.blt pc 62) (xi_337_1) (xi_337_2))
theorem xi_ok337 (pc : Nat) : xi_ok cX12_findClique (xi_337 pc) = true := xi_c (xi_ok337_0) (xi_c (xi_ok337_1) (xi_ok337_2))
def xi_338_0 : XIs := [(0, .aload_n 0, 1), (1, .iload_n 1, 1), (2, .ifCond .lt 7, 3), (5, .iconst 1, 1), (6, .goto 4, 3), (9, .iconst 0, 1), (10, .invokevirtual 334, 3), (13, .ifCond .eq 5, 3), (16, .iconst 0, 1), (17, .ireturn, 1), (18, .aload_n 0, 1), (19, .invokevirtual 491, 3), (22, .istore_n 2, 1), (23, .iconst 0, 1), (24, .istore_n 3, 1), (25, .iconst 0, 1)]
set_option maxRecDepth 100000 in
theorem xi_ok338_0 : xi_ok cX12_clique xi_338_0 = true := by decide +kernel
def xi_338_1 : XIs := [(26, .istore 4, 2), (28, .iload 4, 2), (30, .aload_n 0, 1), (31, .getfield 285, 3), (34, .if_icmp .ge 29, 3), (63, .iconst (-1), 1), (64, .ireturn, 1)]
set_option maxRecDepth 100000 in
theorem xi_ok338_1 : xi_ok cX12_clique xi_338_1 = true := by decide +kernel
def xi_338 (pc : Nat) : XIs := cond (Nat.blt pc 26) (xi_338_0) (xi_338_1)
theorem xi_ok338 (pc : Nat) : xi_ok cX12_clique (xi_338 pc) = true := xi_c (xi_ok338_0) (xi_ok338_1)
def xi_339 (pc : Nat) : XIs := []
theorem xi_ok339 (pc : Nat) : xi_ok cX12_barsOf (xi_339 pc) = true := rfl
def xi_340 (pc : Nat) : XIs := []
theorem xi_ok340 (pc : Nat) : xi_ok cX12_tightest (xi_340 pc) = true := rfl
def xi_341 (pc : Nat) : XIs := []
theorem xi_ok341 (pc : Nat) : xi_ok cX12_tough (xi_341 pc) = true := rfl
def xi_342 (pc : Nat) : XIs := []
theorem xi_ok342 (pc : Nat) : xi_ok cX12_hanging (xi_342 pc) = true := rfl
def xi_343 (pc : Nat) : XIs := []
theorem xi_ok343 (pc : Nat) : xi_ok cX12_isColourable (xi_343 pc) = true := rfl
def xi_344 (pc : Nat) : XIs := []
theorem xi_ok344 (pc : Nat) : xi_ok cX12_begin (xi_344 pc) = true := rfl
def xi_345 (pc : Nat) : XIs := []
theorem xi_ok345 (pc : Nat) : xi_ok cX12_isPartColourable (xi_345 pc) = true := rfl
def xi_346 (pc : Nat) : XIs := []
theorem xi_ok346 (pc : Nat) : xi_ok cX12_capped (xi_346 pc) = true := rfl
def xi_347_0 : XIs := [(0, .aload_n 0, 1), (1, .aload_n 0, 1), (2, .iload_n 1, 1), (3, .invokevirtual 349, 3), (6, .invokevirtual 334, 3), (9, .ifCond .eq 5, 3), (12, .iconst 0, 1), (13, .ireturn, 1)]
set_option maxRecDepth 100000 in
theorem xi_ok347_0 : xi_ok cX12_colour xi_347_0 = true := by decide +kernel
def xi_347 (pc : Nat) : XIs := xi_347_0
theorem xi_ok347 (pc : Nat) : xi_ok cX12_colour (xi_347 pc) = true := xi_ok347_0
def xi_348 (pc : Nat) : XIs := []
theorem xi_ok348 (pc : Nat) : xi_ok cX12_search (xi_348 pc) = true := rfl
def xi_349 (pc : Nat) : XIs := []
theorem xi_ok349 (pc : Nat) : xi_ok cX12_before (xi_349 pc) = true := rfl
def xi_350 (pc : Nat) : XIs := []
theorem xi_ok350 (pc : Nat) : xi_ok cX12_roomOn (xi_350 pc) = true := rfl
def xi_351 (pc : Nat) : XIs := []
theorem xi_ok351 (pc : Nat) : xi_ok cX12_push (xi_351 pc) = true := rfl
def xi_352 (pc : Nat) : XIs := []
theorem xi_ok352 (pc : Nat) : xi_ok cX12_most (xi_352 pc) = true := rfl
def xi_353_0 : XIs := [(0, .aload_n 0, 1), (1, .iload_n 1, 1), (2, .invokevirtual 349, 3), (5, .ifCond .eq 20, 3), (25, .iconst 0, 1), (26, .ireturn, 1)]
set_option maxRecDepth 100000 in
theorem xi_ok353_0 : xi_ok cX12_twoNodes xi_353_0 = true := by decide +kernel
def xi_353 (pc : Nat) : XIs := xi_353_0
theorem xi_ok353 (pc : Nat) : xi_ok cX12_twoNodes (xi_353 pc) = true := xi_ok353_0
def xi_354_0 : XIs := [(0, .aload_n 0, 1), (1, .aload_n 0, 1), (2, .iload_n 1, 1), (3, .iload_n 2, 1), (4, .invokevirtual 538, 3), (7, .invokevirtual 334, 3), (10, .ifCond .eq 7, 3), (13, .lconst 0, 1), (14, .goto 9, 3), (23, .lreturn, 1)]
set_option maxRecDepth 100000 in
theorem xi_ok354_0 : xi_ok cX12_flow xi_354_0 = true := by decide +kernel
def xi_354 (pc : Nat) : XIs := xi_354_0
theorem xi_ok354 (pc : Nat) : xi_ok cX12_flow (xi_354 pc) = true := xi_ok354_0
def xi_355_0 : XIs := [(0, .aload_n 0, 1), (1, .aload_n 0, 1), (2, .iload_n 1, 1), (3, .iload_n 2, 1), (4, .invokevirtual 538, 3), (7, .ifCond .eq 15, 3), (22, .iconst 0, 1), (23, .invokevirtual 334, 3), (26, .ifCond .eq 5, 3), (29, .iconst 0, 1), (30, .ireturn, 1)]
set_option maxRecDepth 100000 in
theorem xi_ok355_0 : xi_ok cX12_side xi_355_0 = true := by decide +kernel
def xi_355 (pc : Nat) : XIs := xi_355_0
theorem xi_ok355 (pc : Nat) : xi_ok cX12_side (xi_355 pc) = true := xi_ok355_0
def xi_356 (pc : Nat) : XIs := []
theorem xi_ok356 (pc : Nat) : xi_ok cX12_cheapest (xi_356 pc) = true := rfl
def xi_357_0 : XIs := [(0, .aload_n 0, 1), (1, .aload_n 0, 1), (2, .iload_n 1, 1), (3, .iload_n 2, 1), (4, .invokevirtual 538, 3), (7, .ifCond .eq 19, 3), (26, .iconst 0, 1), (27, .invokevirtual 334, 3), (30, .ifCond .eq 5, 3), (33, .lconst 0, 1), (34, .lreturn, 1)]
set_option maxRecDepth 100000 in
theorem xi_ok357_0 : xi_ok cX12_cost xi_357_0 = true := by decide +kernel
def xi_357 (pc : Nat) : XIs := xi_357_0
theorem xi_ok357 (pc : Nat) : xi_ok cX12_cost (xi_357 pc) = true := xi_ok357_0
def xi_358 (pc : Nat) : XIs := []
theorem xi_ok358 (pc : Nat) : xi_ok cX12_sends (xi_358 pc) = true := rfl
def xi_359 (pc : Nat) : XIs := []
theorem xi_ok359 (pc : Nat) : xi_ok cX12_isFirstSort (xi_359 pc) = true := rfl
def xi_360_0 : XIs := [(0, .iconst 0, 1), (1, .istore_n 1, 1), (2, .iload_n 1, 1), (3, .sipush 1024, 3), (6, .if_icmp .ge 18, 3), (9, .aload_n 0, 1), (10, .getfield 142, 3), (13, .iload_n 1, 1), (14, .ldc2_w 347, 3), (17, .lastore, 1), (18, .iinc 1 1, 3), (21, .goto (-19), 3), (24, .iconst 0, 1), (25, .istore_n 1, 1), (26, .iload_n 1, 1), (27, .sipush 160, 3)]
set_option maxRecDepth 100000 in
theorem xi_ok360_0 : xi_ok cX12_pairUp xi_360_0 = true := by decide +kernel
def xi_360_1 : XIs := [(30, .if_icmp .ge 131, 3), (33, .aload_n 0, 1), (34, .iload_n 1, 1), (35, .invokevirtual 340, 3), (38, .ifCond .eq 117, 3), (155, .iinc 1 1, 3), (158, .goto (-132), 3), (161, .iconst 0, 1), (162, .istore_n 1, 1), (163, .iload_n 1, 1), (164, .aload_n 0, 1), (165, .getfield 285, 3), (168, .if_icmp .ge 16, 3), (184, .iconst 1, 1), (185, .istore_n 1, 1), (186, .iload_n 1, 1)]
set_option maxRecDepth 100000 in
theorem xi_ok360_1 : xi_ok cX12_pairUp xi_360_1 = true := by decide +kernel
def xi_360_2 : XIs := [(187, .ifCond .eq 60, 3), (190, .aload_n 0, 1), (191, .invokevirtual 556, 3), (194, .istore_n 2, 1), (195, .iload_n 2, 1), (196, .ifCond .lt 7, 3), (203, .iconst 0, 1), (204, .istore_n 1, 1), (205, .iload_n 2, 1), (206, .ifCond .lt 38, 3), (244, .goto (-58), 3), (247, .return_, 1)]
set_option maxRecDepth 100000 in
theorem xi_ok360_2 : xi_ok cX12_pairUp xi_360_2 = true := by decide +kernel
def xi_360 (pc : Nat) : XIs := cond (Nat.blt pc 30) (xi_360_0) (cond (Nat.blt pc 187) (xi_360_1) (xi_360_2))
theorem xi_ok360 (pc : Nat) : xi_ok cX12_pairUp (xi_360 pc) = true := xi_c (xi_ok360_0) (xi_c (xi_ok360_1) (xi_ok360_2))
def xi_361_0 : XIs := [(0, .iconst 0, 1), (1, .istore_n 1, 1), (2, .iload_n 1, 1), (3, .aload_n 0, 1), (4, .getfield 285, 3), (7, .if_icmp .ge 46, 3), (53, .iconst 1, 1), (54, .istore_n 1, 1), (55, .iload_n 1, 1), (56, .ifCond .eq 173, 3), (59, .iconst 0, 1), (60, .istore_n 1, 1), (61, .iconst 0, 1), (62, .istore_n 2, 1), (63, .iload_n 2, 1), (64, .sipush 1024, 3)]
set_option maxRecDepth 100000 in
theorem xi_ok361_0 : xi_ok cX12_cheapestPair xi_361_0 = true := by decide +kernel
def xi_361_1 : XIs := [(67, .if_icmp .ge 159, 3), (70, .iload_n 2, 1), (71, .bipush 32, 2), (73, .idiv, 1), (74, .istore_n 3, 1), (75, .iload_n 2, 1), (76, .bipush 32, 2), (78, .irem, 1), (79, .istore 4, 2), (81, .aload_n 0, 1), (82, .getfield 142, 3), (85, .iload_n 2, 1), (86, .laload, 1), (87, .ldc2_w 347, 3), (90, .lcmp, 1), (91, .ifCond .ge 129, 3)]
set_option maxRecDepth 100000 in
theorem xi_ok361_1 : xi_ok cX12_cheapestPair xi_361_1 = true := by decide +kernel
def xi_361_2 : XIs := [(220, .iinc 2 1, 3), (223, .goto (-160), 3), (226, .goto (-171), 3), (229, .iconst (-1), 1), (230, .istore_n 2, 1), (231, .iconst 0, 1), (232, .istore_n 3, 1), (233, .iload_n 3, 1), (234, .aload_n 0, 1), (235, .getfield 285, 3), (238, .if_icmp .ge 77, 3), (315, .iload_n 2, 1), (316, .ireturn, 1)]
set_option maxRecDepth 100000 in
theorem xi_ok361_2 : xi_ok cX12_cheapestPair xi_361_2 = true := by decide +kernel
def xi_361 (pc : Nat) : XIs := cond (Nat.blt pc 67) (xi_361_0) (cond (Nat.blt pc 220) (xi_361_1) (xi_361_2))
theorem xi_ok361 (pc : Nat) : xi_ok cX12_cheapestPair (xi_361 pc) = true := xi_c (xi_ok361_0) (xi_c (xi_ok361_1) (xi_ok361_2))
def xi_362_0 : XIs := [(0, .aload_n 0, 1), (1, .iload_n 1, 1), (2, .i2l, 1), (3, .lconst 0, 1), (4, .lconst 1, 1), (5, .invokestatic 308, 3), (8, .invokevirtual 334, 3), (11, .ifCond .eq 5, 3), (14, .lconst 0, 1), (15, .lreturn, 1), (16, .aload_n 0, 1), (17, .invokevirtual 559, 3), (20, .lconst 0, 1), (21, .lstore_n 2, 1), (22, .lconst 0, 1), (23, .lstore 4, 2)]
set_option maxRecDepth 100000 in
theorem xi_ok362_0 : xi_ok cX12_pairing xi_362_0 = true := by decide +kernel
def xi_362_1 : XIs := [(25, .iconst 0, 1), (26, .istore 6, 2), (28, .iload 6, 2), (30, .aload_n 0, 1), (31, .getfield 285, 3), (34, .if_icmp .ge 55, 3), (89, .iload_n 1, 1), (90, .ifCond .ne 7, 3), (93, .lload_n 2, 1), (94, .goto 5, 3), (97, .lload 4, 2), (99, .lreturn, 1)]
set_option maxRecDepth 100000 in
theorem xi_ok362_1 : xi_ok cX12_pairing xi_362_1 = true := by decide +kernel
def xi_362 (pc : Nat) : XIs := cond (Nat.blt pc 25) (xi_362_0) (xi_362_1)
theorem xi_ok362 (pc : Nat) : xi_ok cX12_pairing (xi_362 pc) = true := xi_c (xi_ok362_0) (xi_ok362_1)
def xi_363_0 : XIs := [(0, .aload_n 0, 1), (1, .aload_n 0, 1), (2, .iload_n 1, 1), (3, .invokevirtual 349, 3), (6, .invokevirtual 334, 3), (9, .ifCond .eq 5, 3), (12, .lconst 0, 1), (13, .lreturn, 1)]
set_option maxRecDepth 100000 in
theorem xi_ok363_0 : xi_ok cX12_tree xi_363_0 = true := by decide +kernel
def xi_363 (pc : Nat) : XIs := xi_363_0
theorem xi_ok363 (pc : Nat) : xi_ok cX12_tree (xi_363 pc) = true := xi_ok363_0
def xi_364 (pc : Nat) : XIs := []
theorem xi_ok364 (pc : Nat) : xi_ok cX12_rings (xi_364 pc) = true := rfl
def xi_365_0 : XIs := [(0, .aload_n 0, 1), (1, .aload_n 0, 1), (2, .iload_n 1, 1), (3, .invokevirtual 476, 3), (6, .invokevirtual 334, 3), (9, .ifCond .eq 5, 3), (12, .iconst 0, 1), (13, .ireturn, 1)]
set_option maxRecDepth 100000 in
theorem xi_ok365_0 : xi_ok cX12_span xi_365_0 = true := by decide +kernel
def xi_365 (pc : Nat) : XIs := xi_365_0
theorem xi_ok365 (pc : Nat) : xi_ok cX12_span (xi_365 pc) = true := xi_ok365_0
def xi_366 (pc : Nat) : XIs := []
theorem xi_ok366 (pc : Nat) : xi_ok cX12_orderOf (xi_366 pc) = true := rfl
def xi_367 (pc : Nat) : XIs := []
theorem xi_ok367 (pc : Nat) : xi_ok cX12_power (xi_367 pc) = true := rfl
def xi_368_0 : XIs := [(0, .aload_n 0, 1), (1, .iconst 0, 1), (2, .putfield 278, 3), (5, .aload_n 0, 1), (6, .getfield 285, 3), (9, .ifCond .ne 5, 3), (12, .iconst 0, 1), (13, .ireturn, 1)]
set_option maxRecDepth 100000 in
theorem xi_ok368_0 : xi_ok cX12_trees xi_368_0 = true := by decide +kernel
def xi_368 (pc : Nat) : XIs := xi_368_0
theorem xi_ok368 (pc : Nat) : xi_ok cX12_trees (xi_368 pc) = true := xi_ok368_0
def xi_369_0 : XIs := [(0, .aload_n 0, 1), (1, .aload_n 0, 1), (2, .iload_n 1, 1), (3, .invokevirtual 349, 3), (6, .ifCond .eq 19, 3), (25, .iconst 0, 1), (26, .invokevirtual 334, 3), (29, .ifCond .eq 5, 3), (32, .lconst 0, 1), (33, .lreturn, 1)]
set_option maxRecDepth 100000 in
theorem xi_ok369_0 : xi_ok cX12_rank xi_369_0 = true := by decide +kernel
def xi_369 (pc : Nat) : XIs := xi_369_0
theorem xi_ok369 (pc : Nat) : xi_ok cX12_rank (xi_369 pc) = true := xi_ok369_0
def xi_370 (pc : Nat) : XIs := []
theorem xi_ok370 (pc : Nat) : xi_ok cX12_hop (xi_370 pc) = true := rfl
def xi_371_0 : XIs := [(0, .aload_n 0, 1), (1, .aload_n 0, 1), (2, .iload_n 1, 1), (3, .invokevirtual 349, 3), (6, .ifCond .eq 36, 3), (42, .iconst 0, 1), (43, .invokevirtual 334, 3), (46, .ifCond .eq 5, 3), (49, .iconst 0, 1), (50, .ireturn, 1)]
set_option maxRecDepth 100000 in
theorem xi_ok371_0 : xi_ok cX12_shortest xi_371_0 = true := by decide +kernel
def xi_371 (pc : Nat) : XIs := xi_371_0
theorem xi_ok371 (pc : Nat) : xi_ok cX12_shortest (xi_371 pc) = true := xi_ok371_0
def xi_372 (pc : Nat) : XIs := []
theorem xi_ok372 (pc : Nat) : xi_ok cX12_gainOf (xi_372 pc) = true := rfl
def xi_373 (pc : Nat) : XIs := []
theorem xi_ok373 (pc : Nat) : xi_ok cX12_gainIn (xi_373 pc) = true := rfl
def xi_374_0 : XIs := [(0, .aload_n 0, 1), (1, .iconst 0, 1), (2, .putfield 594, 3), (5, .iconst 0, 1), (6, .istore_n 1, 1), (7, .iload_n 1, 1), (8, .sipush 1024, 3), (11, .if_icmp .ge 16, 3), (14, .aload_n 0, 1), (15, .getfield 199, 3), (18, .iload_n 1, 1), (19, .iconst 0, 1), (20, .iastore, 1), (21, .iinc 1 1, 3), (24, .goto (-17), 3), (27, .iconst 0, 1)]
set_option maxRecDepth 100000 in
theorem xi_ok374_0 : xi_ok cX12_findGroups xi_374_0 = true := by decide +kernel
def xi_374_1 : XIs := [(28, .istore_n 1, 1), (29, .iload_n 1, 1), (30, .aload_n 0, 1), (31, .getfield 285, 3), (34, .if_icmp .ge 23, 3), (57, .iconst 0, 1), (58, .istore_n 1, 1), (59, .iload_n 1, 1), (60, .sipush 160, 3), (63, .if_icmp .ge 137, 3), (66, .aload_n 0, 1), (67, .iload_n 1, 1), (68, .invokevirtual 340, 3), (71, .ifCond .eq 123, 3), (194, .iinc 1 1, 3), (197, .goto (-138), 3)]
set_option maxRecDepth 100000 in
theorem xi_ok374_1 : xi_ok cX12_findGroups xi_374_1 = true := by decide +kernel
def xi_374_2 : XIs := [(200, .iconst 1, 1), (201, .istore_n 1, 1), (202, .iconst 0, 1), (203, .istore_n 2, 1), (204, .iload_n 2, 1), (205, .bipush 20, 2), (207, .if_icmp .ge 67, 3), (210, .iload_n 1, 1), (211, .ifCond .eq 63, 3), (214, .iconst 0, 1), (215, .istore_n 1, 1), (216, .iconst 0, 1), (217, .istore_n 3, 1), (218, .iload_n 3, 1), (219, .aload_n 0, 1), (220, .getfield 285, 3)]
set_option maxRecDepth 100000 in
theorem xi_ok374_2 : xi_ok cX12_findGroups xi_374_2 = true := by decide +kernel
def xi_374_3 : XIs := [(223, .if_icmp .ge 45, 3), (268, .iinc 2 1, 3), (271, .goto (-67), 3), (274, .return_, 1)]
set_option maxRecDepth 100000 in
theorem xi_ok374_3 : xi_ok cX12_findGroups xi_374_3 = true := by decide +kernel
def xi_374 (pc : Nat) : XIs := cond (Nat.blt pc 200) (cond (Nat.blt pc 28) (xi_374_0) (xi_374_1)) (cond (Nat.blt pc 223) (xi_374_2) (xi_374_3))
theorem xi_ok374 (pc : Nat) : xi_ok cX12_findGroups (xi_374 pc) = true := xi_c (xi_c (xi_ok374_0) (xi_ok374_1)) (xi_c (xi_ok374_2) (xi_ok374_3))
def xi_375 (pc : Nat) : XIs := []
theorem xi_ok375 (pc : Nat) : xi_ok cX12_leastOf (xi_375 pc) = true := rfl
def xi_376 (pc : Nat) : XIs := []
theorem xi_ok376 (pc : Nat) : xi_ok cX12_bestGroup (xi_376 pc) = true := rfl
def xi_377 (pc : Nat) : XIs := []
theorem xi_ok377 (pc : Nat) : xi_ok cX12_freeGroup (xi_377 pc) = true := rfl
def xi_378_0 : XIs := [(0, .aload_n 0, 1), (1, .aload_n 0, 1), (2, .iload_n 1, 1), (3, .invokevirtual 349, 3), (6, .invokevirtual 334, 3), (9, .ifCond .eq 5, 3), (12, .iconst 0, 1), (13, .ireturn, 1)]
set_option maxRecDepth 100000 in
theorem xi_ok378_0 : xi_ok cX12_group xi_378_0 = true := by decide +kernel
def xi_378 (pc : Nat) : XIs := xi_378_0
theorem xi_ok378 (pc : Nat) : xi_ok cX12_group (xi_378 pc) = true := xi_ok378_0
def xi_379_0 : XIs := [(0, .aload_n 0, 1), (1, .iconst 0, 1), (2, .putfield 278, 3), (5, .aload_n 0, 1), (6, .invokevirtual 612, 3), (9, .lconst 0, 1), (10, .lstore_n 1, 1), (11, .iconst 0, 1), (12, .istore_n 3, 1), (13, .iload_n 3, 1), (14, .aload_n 0, 1), (15, .getfield 285, 3), (18, .if_icmp .ge 23, 3), (41, .lload_n 1, 1), (42, .lreturn, 1)]
set_option maxRecDepth 100000 in
theorem xi_ok379_0 : xi_ok cX12_gain xi_379_0 = true := by decide +kernel
def xi_379 (pc : Nat) : XIs := xi_379_0
theorem xi_ok379 (pc : Nat) : xi_ok cX12_gain (xi_379 pc) = true := xi_ok379_0
def xi_380_0 : XIs := [(0, .aload_n 0, 1), (1, .iload_n 1, 1), (2, .i2l, 1), (3, .lconst 0, 1), (4, .lconst 1, 1), (5, .invokestatic 308, 3), (8, .invokevirtual 334, 3), (11, .ifCond .eq 5, 3), (14, .lconst 0, 1), (15, .lreturn, 1), (16, .aload_n 0, 1), (17, .invokevirtual 485, 3), (20, .lconst 0, 1), (21, .lstore_n 2, 1), (22, .iconst 0, 1), (23, .istore 4, 2)]
set_option maxRecDepth 100000 in
theorem xi_ok380_0 : xi_ok cX12_figures xi_380_0 = true := by decide +kernel
def xi_380_1 : XIs := [(25, .iload 4, 2), (27, .aload_n 0, 1), (28, .getfield 285, 3), (31, .if_icmp .ge 94, 3), (125, .iload_n 1, 1), (126, .ifCond .ne 11, 3), (129, .lload_n 2, 1), (130, .ldc2_w 338, 3), (133, .ldiv, 1), (134, .goto 8, 3), (137, .lload_n 2, 1), (138, .ldc2_w 570, 3), (141, .ldiv, 1), (142, .lreturn, 1)]
set_option maxRecDepth 100000 in
theorem xi_ok380_1 : xi_ok cX12_figures xi_380_1 = true := by decide +kernel
def xi_380 (pc : Nat) : XIs := cond (Nat.blt pc 25) (xi_380_0) (xi_380_1)
theorem xi_ok380 (pc : Nat) : xi_ok cX12_figures (xi_380 pc) = true := xi_c (xi_ok380_0) (xi_ok380_1)
def xi_381_0 : XIs := [(0, .aload_n 0, 1), (1, .getfield 218, 3), (4, .aload_n 0, 1), (5, .getfield 615, 3), (8, .iconst 0, 1), (9, .bastore, 1), (10, .aload_n 0, 1), (11, .getfield 221, 3), (14, .aload_n 0, 1), (15, .getfield 615, 3), (18, .iconst 0, 1), (19, .bastore, 1), (20, .aload_n 0, 1), (21, .getfield 224, 3), (24, .aload_n 0, 1), (25, .getfield 615, 3)]
set_option maxRecDepth 100000 in
theorem xi_ok381_0 : xi_ok cX12_beginAlternative xi_381_0 = true := by decide +kernel
def xi_381_1 : XIs := [(28, .lconst 0, 1), (29, .lastore, 1), (30, .aload_n 0, 1), (31, .getfield 227, 3), (34, .aload_n 0, 1), (35, .getfield 615, 3), (38, .lconst 0, 1), (39, .lastore, 1), (40, .aload_n 0, 1), (41, .invokevirtual 618, 3), (44, .return_, 1)]
set_option maxRecDepth 100000 in
theorem xi_ok381_1 : xi_ok cX12_beginAlternative xi_381_1 = true := by decide +kernel
def xi_381 (pc : Nat) : XIs := cond (Nat.blt pc 28) (xi_381_0) (xi_381_1)
theorem xi_ok381 (pc : Nat) : xi_ok cX12_beginAlternative (xi_381 pc) = true := xi_c (xi_ok381_0) (xi_ok381_1)
def xi_382_0 : XIs := [(0, .aload_n 0, 1), (1, .getfield 230, 3), (4, .aload_n 0, 1), (5, .getfield 615, 3), (8, .iconst 1, 1), (9, .bastore, 1), (10, .aload_n 0, 1), (11, .getfield 233, 3), (14, .aload_n 0, 1), (15, .getfield 615, 3), (18, .lconst 0, 1), (19, .lastore, 1), (20, .aload_n 0, 1), (21, .getfield 236, 3), (24, .aload_n 0, 1), (25, .getfield 615, 3)]
set_option maxRecDepth 100000 in
theorem xi_ok382_0 : xi_ok cX12_beginSequence xi_382_0 = true := by decide +kernel
def xi_382_1 : XIs := [(28, .lconst 0, 1), (29, .lastore, 1), (30, .aload_n 0, 1), (31, .iconst 0, 1), (32, .putfield 621, 3), (35, .aload_n 0, 1), (36, .iconst 0, 1), (37, .putfield 624, 3), (40, .return_, 1)]
set_option maxRecDepth 100000 in
theorem xi_ok382_1 : xi_ok cX12_beginSequence xi_382_1 = true := by decide +kernel
def xi_382 (pc : Nat) : XIs := cond (Nat.blt pc 28) (xi_382_0) (xi_382_1)
theorem xi_ok382 (pc : Nat) : xi_ok cX12_beginSequence (xi_382 pc) = true := xi_c (xi_ok382_0) (xi_ok382_1)
def xi_383 (pc : Nat) : XIs := []
theorem xi_ok383 (pc : Nat) : xi_ok cX12_follow (xi_383 pc) = true := rfl
def xi_384_0 : XIs := [(0, .aload_n 0, 1), (1, .getfield 621, 3), (4, .ifCond .eq 119, 3), (123, .aload_n 0, 1), (124, .iconst 0, 1), (125, .putfield 621, 3), (128, .aload_n 0, 1), (129, .iconst 0, 1), (130, .putfield 624, 3), (133, .return_, 1)]
set_option maxRecDepth 100000 in
theorem xi_ok384_0 : xi_ok cX12_flush xi_384_0 = true := by decide +kernel
def xi_384 (pc : Nat) : XIs := xi_384_0
theorem xi_ok384 (pc : Nat) : xi_ok cX12_flush (xi_384 pc) = true := xi_ok384_0
def xi_385_0 : XIs := [(0, .aload_n 0, 1), (1, .invokevirtual 640, 3), (4, .aload_n 0, 1), (5, .getfield 218, 3), (8, .aload_n 0, 1), (9, .getfield 615, 3), (12, .iconst 1, 1), (13, .bastore, 1), (14, .aload_n 0, 1), (15, .getfield 221, 3), (18, .aload_n 0, 1), (19, .getfield 615, 3), (22, .aload_n 0, 1), (23, .getfield 221, 3), (26, .aload_n 0, 1), (27, .getfield 615, 3)]
set_option maxRecDepth 100000 in
theorem xi_ok385_0 : xi_ok cX12_endSequence xi_385_0 = true := by decide +kernel
def xi_385_1 : XIs := [(30, .baload, 1), (31, .ifCond .ne 15, 3), (34, .aload_n 0, 1), (35, .getfield 230, 3), (38, .aload_n 0, 1), (39, .getfield 615, 3), (42, .baload, 1), (43, .ifCond .eq 7, 3), (46, .iconst 1, 1), (47, .goto 4, 3), (51, .bastore, 1), (52, .aload_n 0, 1), (53, .getfield 224, 3), (56, .aload_n 0, 1), (57, .getfield 615, 3), (60, .dup2, 1)]
set_option maxRecDepth 100000 in
theorem xi_ok385_1 : xi_ok cX12_endSequence xi_385_1 = true := by decide +kernel
def xi_385_2 : XIs := [(61, .laload, 1), (62, .aload_n 0, 1), (63, .getfield 233, 3), (66, .aload_n 0, 1), (67, .getfield 615, 3), (70, .laload, 1), (71, .lor, 1), (72, .lastore, 1), (73, .aload_n 0, 1), (74, .getfield 227, 3), (77, .aload_n 0, 1), (78, .getfield 615, 3), (81, .dup2, 1), (82, .laload, 1), (83, .aload_n 0, 1), (84, .getfield 236, 3)]
set_option maxRecDepth 100000 in
theorem xi_ok385_2 : xi_ok cX12_endSequence xi_385_2 = true := by decide +kernel
def xi_385_3 : XIs := [(87, .aload_n 0, 1), (88, .getfield 615, 3), (91, .laload, 1), (92, .lor, 1), (93, .lastore, 1), (94, .return_, 1)]
set_option maxRecDepth 100000 in
theorem xi_ok385_3 : xi_ok cX12_endSequence xi_385_3 = true := by decide +kernel
def xi_385 (pc : Nat) : XIs := cond (Nat.blt pc 61) (cond (Nat.blt pc 30) (xi_385_0) (xi_385_1)) (cond (Nat.blt pc 87) (xi_385_2) (xi_385_3))
theorem xi_ok385 (pc : Nat) : xi_ok cX12_endSequence (xi_385 pc) = true := xi_c (xi_c (xi_ok385_0) (xi_ok385_1)) (xi_c (xi_ok385_2) (xi_ok385_3))
def xi_386_0 : XIs := [(0, .aload_n 0, 1), (1, .iconst 0, 1), (2, .putfield 278, 3), (5, .aload_n 0, 1), (6, .iconst 0, 1), (7, .putfield 359, 3), (10, .aload_n 0, 1), (11, .getfield 356, 3), (14, .bipush 60, 2), (16, .if_icmp .le 13, 3), (29, .iconst 0, 1), (30, .istore_n 1, 1), (31, .iconst 0, 1), (32, .istore_n 2, 1), (33, .iload_n 2, 1), (34, .bipush 60, 2)]
set_option maxRecDepth 100000 in
theorem xi_ok386_0 : xi_ok cX12_pattern xi_386_0 = true := by decide +kernel
def xi_386_1 : XIs := [(36, .if_icmp .ge 16, 3), (39, .aload_n 0, 1), (40, .getfield 215, 3), (43, .iload_n 2, 1), (44, .lconst 0, 1), (45, .lastore, 1), (46, .iinc 2 1, 3), (49, .goto (-16), 3), (52, .aload_n 0, 1), (53, .iconst 0, 1), (54, .putfield 615, 3), (57, .aload_n 0, 1), (58, .invokevirtual 643, 3), (61, .iconst 0, 1), (62, .istore_n 2, 1), (63, .iload_n 2, 1)]
set_option maxRecDepth 100000 in
theorem xi_ok386_1 : xi_ok cX12_pattern xi_386_1 = true := by decide +kernel
def xi_386_2 : XIs := [(64, .aload_n 0, 1), (65, .getfield 356, 3), (68, .if_icmp .ge 84, 3), (152, .aload_n 0, 1), (153, .getfield 359, 3), (156, .ifCond .ne 19, 3), (159, .aload_n 0, 1), (160, .getfield 615, 3), (163, .ifCond .le 12, 3), (175, .aload_n 0, 1), (176, .getfield 359, 3), (179, .ifCond .le 6, 3), (185, .aload_n 0, 1), (186, .invokevirtual 653, 3), (189, .aload_n 0, 1), (190, .iload_n 1, 1)]
set_option maxRecDepth 100000 in
theorem xi_ok386_2 : xi_ok cX12_pattern xi_386_2 = true := by decide +kernel
def xi_386_3 : XIs := [(191, .putfield 656, 3), (194, .aload_n 0, 1), (195, .aload_n 0, 1), (196, .getfield 221, 3), (199, .iconst 0, 1), (200, .baload, 1), (201, .putfield 208, 3), (204, .aload_n 0, 1), (205, .aload_n 0, 1), (206, .getfield 224, 3), (209, .iconst 0, 1), (210, .laload, 1), (211, .putfield 659, 3), (214, .aload_n 0, 1), (215, .aload_n 0, 1), (216, .getfield 227, 3)]
set_option maxRecDepth 100000 in
theorem xi_ok386_3 : xi_ok cX12_pattern xi_386_3 = true := by decide +kernel
def xi_386_4 : XIs := [(219, .iconst 0, 1), (220, .laload, 1), (221, .putfield 662, 3), (224, .iconst 0, 1), (225, .istore_n 2, 1), (226, .iload_n 2, 1), (227, .bipush 60, 2), (229, .if_icmp .ge 33, 3), (232, .aload_n 0, 1), (233, .getfield 202, 3), (236, .iload_n 2, 1), (237, .aload_n 0, 1), (238, .getfield 212, 3), (241, .iload_n 2, 1), (242, .iaload, 1), (243, .iastore, 1)]
set_option maxRecDepth 100000 in
theorem xi_ok386_4 : xi_ok cX12_pattern xi_386_4 = true := by decide +kernel
def xi_386_5 : XIs := [(244, .aload_n 0, 1), (245, .getfield 205, 3), (248, .iload_n 2, 1), (249, .aload_n 0, 1), (250, .getfield 215, 3), (253, .iload_n 2, 1), (254, .laload, 1), (255, .lastore, 1), (256, .iinc 2 1, 3), (259, .goto (-33), 3), (262, .iconst 0, 1), (263, .ireturn, 1)]
set_option maxRecDepth 100000 in
theorem xi_ok386_5 : xi_ok cX12_pattern xi_386_5 = true := by decide +kernel
def xi_386 (pc : Nat) : XIs := cond (Nat.blt pc 191) (cond (Nat.blt pc 36) (xi_386_0) (cond (Nat.blt pc 64) (xi_386_1) (xi_386_2))) (cond (Nat.blt pc 219) (xi_386_3) (cond (Nat.blt pc 244) (xi_386_4) (xi_386_5)))
theorem xi_ok386 (pc : Nat) : xi_ok cX12_pattern (xi_386 pc) = true := xi_c (xi_c (xi_ok386_0) (xi_c (xi_ok386_1) (xi_ok386_2))) (xi_c (xi_ok386_3) (xi_c (xi_ok386_4) (xi_ok386_5)))
def xi_387 (pc : Nat) : XIs := []
theorem xi_ok387 (pc : Nat) : xi_ok cX12_setAtom (xi_387 pc) = true := rfl
def xi_388 (pc : Nat) : XIs := []
theorem xi_ok388 (pc : Nat) : xi_ok cX12_sign (xi_388 pc) = true := rfl
def xi_389_0 : XIs := [(0, .aload_n 0, 1), (1, .aload_n 0, 1), (2, .iload_n 1, 1), (3, .invokevirtual 349, 3), (6, .ifCond .eq 15, 3), (21, .iconst 0, 1), (22, .invokevirtual 334, 3), (25, .ifCond .eq 5, 3), (28, .iconst 0, 1), (29, .ireturn, 1)]
set_option maxRecDepth 100000 in
theorem xi_ok389_0 : xi_ok cX12_fits xi_389_0 = true := by decide +kernel
def xi_389 (pc : Nat) : XIs := xi_389_0
theorem xi_ok389 (pc : Nat) : xi_ok cX12_fits (xi_389 pc) = true := xi_ok389_0
def xi_390 (pc : Nat) : XIs := []
theorem xi_ok390 (pc : Nat) : xi_ok cX12_goOn (xi_390 pc) = true := rfl
def xi_391_0 : XIs := [(0, .aload_n 0, 1), (1, .getfield 248, 3), (4, .iconst 1, 1), (5, .iconst 1, 1), (6, .iastore, 1), (7, .aload_n 0, 1), (8, .getfield 248, 3), (11, .iconst 2, 1), (12, .iconst 2, 1), (13, .iastore, 1), (14, .return_, 1)]
set_option maxRecDepth 100000 in
theorem xi_ok391_0 : xi_ok cX12_program0 xi_391_0 = true := by decide +kernel
def xi_391 (pc : Nat) : XIs := xi_391_0
theorem xi_ok391 (pc : Nat) : xi_ok cX12_program0 (xi_391 pc) = true := xi_ok391_0
def xi_392_0 : XIs := [(0, .aload_n 0, 1), (1, .getfield 365, 3), (4, .aload_n 0, 1), (5, .getfield 356, 3), (8, .if_icmp .ge 30, 3), (38, .aload_n 0, 1), (39, .aload_n 0, 1), (40, .getfield 365, 3), (43, .putfield 368, 3), (46, .aload_n 0, 1), (47, .getfield 365, 3), (50, .aload_n 0, 1), (51, .getfield 356, 3), (54, .if_icmp .ne 9, 3), (57, .aload_n 0, 1), (58, .iconst 0, 1)]
set_option maxRecDepth 100000 in
theorem xi_ok392_0 : xi_ok cX12_nextOfProgram xi_392_0 = true := by decide +kernel
def xi_392_1 : XIs := [(59, .putfield 371, 3), (62, .return_, 1)]
set_option maxRecDepth 100000 in
theorem xi_ok392_1 : xi_ok cX12_nextOfProgram xi_392_1 = true := by decide +kernel
def xi_392 (pc : Nat) : XIs := cond (Nat.blt pc 59) (xi_392_0) (xi_392_1)
theorem xi_ok392 (pc : Nat) : xi_ok cX12_nextOfProgram (xi_392 pc) = true := xi_c (xi_ok392_0) (xi_ok392_1)
def xi_393 (pc : Nat) : XIs := []
theorem xi_ok393 (pc : Nat) : xi_ok cX12_add (xi_393 pc) = true := rfl
def xi_394 (pc : Nat) : XIs := []
theorem xi_ok394 (pc : Nat) : xi_ok cX12_nameOf (xi_394 pc) = true := rfl
def xi_395 (pc : Nat) : XIs := []
theorem xi_ok395 (pc : Nat) : xi_ok cX12_top (xi_395 pc) = true := rfl
def xi_396 (pc : Nat) : XIs := []
theorem xi_ok396 (pc : Nat) : xi_ok cX12_hold (xi_396 pc) = true := rfl
def xi_397 (pc : Nat) : XIs := []
theorem xi_ok397 (pc : Nat) : xi_ok cX12_drop (xi_397 pc) = true := rfl
def xi_398 (pc : Nat) : XIs := []
theorem xi_ok398 (pc : Nat) : xi_ok cX12_strength (xi_398 pc) = true := rfl
def xi_399 (pc : Nat) : XIs := []
theorem xi_ok399 (pc : Nat) : xi_ok cX12_settle (xi_399 pc) = true := rfl
def xi_400 (pc : Nat) : XIs := []
theorem xi_ok400 (pc : Nat) : xi_ok cX12_turn (xi_400 pc) = true := rfl
def xi_401_0 : XIs := [(0, .aload_n 0, 1), (1, .getfield 371, 3), (4, .iconst 2, 1), (5, .if_icmp .ne 19, 3), (24, .aload_n 0, 1), (25, .getfield 371, 3), (28, .iconst 1, 1), (29, .if_icmp .ne 36, 3), (65, .aload_n 0, 1), (66, .getfield 371, 3), (69, .iconst 3, 1), (70, .if_icmp .ne 21, 3), (91, .aload_n 0, 1), (92, .iconst 2, 1), (93, .aload_n 0, 1), (94, .getfield 368, 3)]
set_option maxRecDepth 100000 in
theorem xi_ok401_0 : xi_ok cX12_factor xi_401_0 = true := by decide +kernel
def xi_401_1 : XIs := [(97, .invokevirtual 391, 3), (100, .goto 43, 3), (143, .iconst 0, 1), (144, .ireturn, 1)]
set_option maxRecDepth 100000 in
theorem xi_ok401_1 : xi_ok cX12_factor xi_401_1 = true := by decide +kernel
def xi_401 (pc : Nat) : XIs := cond (Nat.blt pc 97) (xi_401_0) (xi_401_1)
theorem xi_ok401 (pc : Nat) : xi_ok cX12_factor (xi_401 pc) = true := xi_c (xi_ok401_0) (xi_ok401_1)
def xi_402 (pc : Nat) : XIs := []
theorem xi_ok402 (pc : Nat) : xi_ok cX12_behindFactor (xi_402 pc) = true := rfl
def xi_403_0 : XIs := [(0, .aload_n 0, 1), (1, .iconst 0, 1), (2, .putfield 672, 3), (5, .aload_n 0, 1), (6, .iconst 0, 1), (7, .putfield 675, 3), (10, .iconst 1, 1), (11, .istore_n 2, 1), (12, .iconst 1, 1), (13, .istore_n 3, 1), (14, .iload_n 3, 1), (15, .ifCond .eq 81, 3), (18, .aload_n 0, 1), (19, .getfield 359, 3), (22, .ifCond .ne 74, 3), (25, .aload_n 0, 1)]
set_option maxRecDepth 100000 in
theorem xi_ok403_0 : xi_ok cX12_expression xi_403_0 = true := by decide +kernel
def xi_403_1 : XIs := [(26, .invokevirtual 701, 3), (29, .aload_n 0, 1), (30, .getfield 359, 3), (33, .ifCond .ne 23, 3), (36, .iload_n 2, 1), (37, .ifCond .eq 19, 3), (40, .aload_n 0, 1), (41, .invokevirtual 704, 3), (44, .ifCond .ne 7, 3), (47, .iconst 1, 1), (48, .goto 4, 3), (52, .istore_n 2, 1), (53, .goto (-39), 3), (96, .return_, 1)]
set_option maxRecDepth 100000 in
theorem xi_ok403_1 : xi_ok cX12_expression xi_403_1 = true := by decide +kernel
def xi_403 (pc : Nat) : XIs := cond (Nat.blt pc 26) (xi_403_0) (xi_403_1)
theorem xi_ok403 (pc : Nat) : xi_ok cX12_expression (xi_403 pc) = true := xi_c (xi_ok403_0) (xi_ok403_1)
def xi_404_0 : XIs := [(0, .aload_n 0, 1), (1, .iconst 0, 1), (2, .putfield 278, 3), (5, .aload_n 0, 1), (6, .iconst 0, 1), (7, .putfield 359, 3), (10, .aload_n 0, 1), (11, .getfield 356, 3), (14, .bipush 120, 2), (16, .if_icmp .le 13, 3), (29, .aload_n 0, 1), (30, .iconst 0, 1), (31, .putfield 365, 3), (34, .aload_n 0, 1), (35, .iconst 0, 1), (36, .putfield 669, 3)]
set_option maxRecDepth 100000 in
theorem xi_ok404_0 : xi_ok cX12_program xi_404_0 = true := by decide +kernel
def xi_404_1 : XIs := [(39, .aload_n 0, 1), (40, .iconst 1, 1), (41, .invokevirtual 712, 3), (44, .aload_n 0, 1), (45, .getfield 257, 3), (48, .iconst 1, 1), (49, .aload_n 0, 1), (50, .getfield 669, 3), (53, .iastore, 1), (54, .aload_n 0, 1), (55, .getfield 359, 3), (58, .ifCond .ne 8, 3), (66, .aload_n 0, 1), (67, .getfield 257, 3), (70, .iconst 2, 1), (71, .aload_n 0, 1)]
set_option maxRecDepth 100000 in
theorem xi_ok404_1 : xi_ok cX12_program xi_404_1 = true := by decide +kernel
def xi_404_2 : XIs := [(72, .getfield 669, 3), (75, .iastore, 1), (76, .aload_n 0, 1), (77, .getfield 359, 3), (80, .ifCond .le 6, 3), (83, .bipush (-4), 2), (85, .ireturn, 1)]
set_option maxRecDepth 100000 in
theorem xi_ok404_2 : xi_ok cX12_program xi_404_2 = true := by decide +kernel
def xi_404 (pc : Nat) : XIs := cond (Nat.blt pc 39) (xi_404_0) (cond (Nat.blt pc 72) (xi_404_1) (xi_404_2))
theorem xi_ok404 (pc : Nat) : xi_ok cX12_program (xi_404 pc) = true := xi_c (xi_ok404_0) (xi_c (xi_ok404_1) (xi_ok404_2))
def xi_405 (pc : Nat) : XIs := []
theorem xi_ok405 (pc : Nat) : xi_ok cX12_fit (xi_405 pc) = true := rfl
def xi_406 (pc : Nat) : XIs := []
theorem xi_ok406 (pc : Nat) : xi_ok cX12_product (xi_406 pc) = true := rfl
def xi_407 (pc : Nat) : XIs := []
theorem xi_ok407 (pc : Nat) : xi_ok cX12_nameAll (xi_407 pc) = true := rfl
def xi_408 (pc : Nat) : XIs := []
theorem xi_ok408 (pc : Nat) : xi_ok cX12_workOut (xi_408 pc) = true := rfl
def xi_409_0 : XIs := [(0, .aload_n 0, 1), (1, .iload_n 1, 1), (2, .i2l, 1), (3, .lconst 0, 1), (4, .ldc2_w 725, 3), (7, .invokestatic 308, 3), (10, .ifCond .eq 31, 3), (13, .iload_n 2, 1), (14, .i2l, 1), (15, .lconst 1, 1), (16, .ldc2_w 345, 3), (19, .invokestatic 308, 3), (22, .ifCond .eq 19, 3), (25, .iload_n 3, 1), (26, .i2l, 1), (27, .lconst 0, 1)]
set_option maxRecDepth 100000 in
theorem xi_ok409_0 : xi_ok cX12_run xi_409_0 = true := by decide +kernel
def xi_409_1 : XIs := [(28, .ldc2_w 727, 3), (31, .invokestatic 308, 3), (34, .ifCond .eq 7, 3), (37, .iconst 1, 1), (38, .goto 4, 3), (41, .iconst 0, 1), (42, .invokevirtual 334, 3), (45, .ifCond .eq 5, 3), (48, .iconst 0, 1), (49, .ireturn, 1), (50, .aload_n 0, 1), (51, .aload_n 0, 1), (52, .getfield 285, 3), (55, .putfield 729, 3), (58, .aload_n 0, 1), (59, .iconst 0, 1)]
set_option maxRecDepth 100000 in
theorem xi_ok409_1 : xi_ok cX12_run xi_409_1 = true := by decide +kernel
def xi_409_2 : XIs := [(60, .putfield 732, 3), (63, .aload_n 0, 1), (64, .iconst 0, 1), (65, .putfield 735, 3), (68, .aload_n 0, 1), (69, .iconst 0, 1), (70, .putfield 738, 3), (73, .aload_n 0, 1), (74, .lconst 0, 1), (75, .putfield 741, 3), (78, .iconst 0, 1), (79, .istore 6, 2), (81, .iload 6, 2), (83, .aload_n 0, 1), (84, .getfield 285, 3), (87, .if_icmp .ge 17, 3)]
set_option maxRecDepth 100000 in
theorem xi_ok409_2 : xi_ok cX12_run xi_409_2 = true := by decide +kernel
def xi_409_3 : XIs := [(104, .iconst 0, 1), (105, .istore 6, 2), (107, .iload 6, 2), (109, .aload_n 0, 1), (110, .getfield 285, 3), (113, .if_icmp .ge 28, 3), (141, .iconst 0, 1), (142, .istore 6, 2), (144, .iload 6, 2), (146, .aload_n 0, 1), (147, .getfield 285, 3), (150, .if_icmp .ge 23, 3), (173, .iconst 0, 1), (174, .istore 6, 2), (176, .iconst 1, 1), (177, .istore 7, 2)]
set_option maxRecDepth 100000 in
theorem xi_ok409_3 : xi_ok cX12_run xi_409_3 = true := by decide +kernel
def xi_409_4 : XIs := [(179, .iload 7, 2), (181, .ifCond .eq 126, 3), (184, .iload 6, 2), (186, .iload_n 1, 1), (187, .if_icmp .ge 120, 3), (190, .iinc 6 1, 3), (193, .aload_n 0, 1), (194, .iload_n 2, 1), (195, .iload_n 3, 1), (196, .lload 4, 2), (198, .invokevirtual 750, 3), (201, .iconst 0, 1), (202, .istore 7, 2), (204, .iconst 0, 1), (205, .istore 8, 2), (207, .iload 8, 2)]
set_option maxRecDepth 100000 in
theorem xi_ok409_4 : xi_ok cX12_run xi_409_4 = true := by decide +kernel
def xi_409_5 : XIs := [(209, .aload_n 0, 1), (210, .getfield 285, 3), (213, .if_icmp .ge 59, 3), (272, .iconst 0, 1), (273, .istore 8, 2), (275, .iload 8, 2), (277, .aload_n 0, 1), (278, .getfield 285, 3), (281, .if_icmp .ge 23, 3), (304, .goto (-125), 3), (307, .iload 6, 2), (309, .ireturn, 1)]
set_option maxRecDepth 100000 in
theorem xi_ok409_5 : xi_ok cX12_run xi_409_5 = true := by decide +kernel
def xi_409 (pc : Nat) : XIs := cond (Nat.blt pc 104) (cond (Nat.blt pc 28) (xi_409_0) (cond (Nat.blt pc 60) (xi_409_1) (xi_409_2))) (cond (Nat.blt pc 179) (xi_409_3) (cond (Nat.blt pc 209) (xi_409_4) (xi_409_5)))
theorem xi_ok409 (pc : Nat) : xi_ok cX12_run (xi_409 pc) = true := xi_c (xi_c (xi_ok409_0) (xi_c (xi_ok409_1) (xi_ok409_2))) (xi_c (xi_ok409_3) (xi_c (xi_ok409_4) (xi_ok409_5)))
def xi_410 (pc : Nat) : XIs := []
theorem xi_ok410 (pc : Nat) : xi_ok cX12_goesTo (xi_410 pc) = true := rfl
def xi_411_0 : XIs := [(0, .iconst 0, 1), (1, .istore 5, 2), (3, .iconst 0, 1), (4, .istore 6, 2), (6, .iload 6, 2), (8, .aload_n 0, 1), (9, .getfield 285, 3), (12, .if_icmp .ge 46, 3), (58, .iload 5, 2), (60, .ifCond .le 146, 3), (206, .return_, 1)]
set_option maxRecDepth 100000 in
theorem xi_ok411_0 : xi_ok cX12_send xi_411_0 = true := by decide +kernel
def xi_411 (pc : Nat) : XIs := xi_411_0
theorem xi_ok411 (pc : Nat) : xi_ok cX12_send (xi_411 pc) = true := xi_ok411_0
def xi_412_0 : XIs := [(0, .aload_n 0, 1), (1, .iload_n 1, 1), (2, .ifCond .lt 15, 3), (5, .iload_n 1, 1), (6, .aload_n 0, 1), (7, .getfield 729, 3), (10, .if_icmp .ge 7, 3), (17, .iconst 0, 1), (18, .invokevirtual 334, 3), (21, .ifCond .eq 7, 3), (24, .lconst 0, 1), (25, .goto 9, 3), (34, .lreturn, 1)]
set_option maxRecDepth 100000 in
theorem xi_ok412_0 : xi_ok cX12_state xi_412_0 = true := by decide +kernel
def xi_412 (pc : Nat) : XIs := xi_412_0
theorem xi_ok412 (pc : Nat) : xi_ok cX12_state (xi_412 pc) = true := xi_ok412_0
def xi_413_0 : XIs := [(0, .aload_n 0, 1), (1, .iload_n 1, 1), (2, .i2l, 1), (3, .lconst 0, 1), (4, .ldc2_w 570, 3), (7, .invokestatic 308, 3), (10, .invokevirtual 334, 3), (13, .ifCond .eq 5, 3), (16, .iconst 0, 1), (17, .ireturn, 1), (18, .iload_n 1, 1), (19, .ifCond .ne 10, 3), (22, .aload_n 0, 1), (23, .getfield 732, 3), (26, .goto 19, 3), (29, .iload_n 1, 1)]
set_option maxRecDepth 100000 in
theorem xi_ok413_0 : xi_ok cX12_letters xi_413_0 = true := by decide +kernel
def xi_413_1 : XIs := [(30, .iconst 1, 1), (31, .if_icmp .ne 10, 3), (34, .aload_n 0, 1), (35, .getfield 735, 3), (38, .goto 7, 3), (41, .aload_n 0, 1), (42, .getfield 738, 3), (45, .ireturn, 1)]
set_option maxRecDepth 100000 in
theorem xi_ok413_1 : xi_ok cX12_letters xi_413_1 = true := by decide +kernel
def xi_413 (pc : Nat) : XIs := cond (Nat.blt pc 30) (xi_413_0) (xi_413_1)
theorem xi_ok413 (pc : Nat) : xi_ok cX12_letters (xi_413 pc) = true := xi_c (xi_ok413_0) (xi_ok413_1)
def xi_414_0 : XIs := [(0, .iload_n 0, 1), (1, .iload_n 0, 1), (2, .iconst 1, 1), (3, .iushr, 1), (4, .ldc_w 265, 3), (7, .iand, 1), (8, .isub, 1), (9, .istore_n 0, 1), (10, .iload_n 0, 1), (11, .ldc_w 266, 3), (14, .iand, 1), (15, .iload_n 0, 1), (16, .iconst 2, 1), (17, .iushr, 1), (18, .ldc_w 266, 3), (21, .iand, 1)]
set_option maxRecDepth 100000 in
theorem xi_ok414_0 : xi_ok cJ6_bitCount_0f7a4 xi_414_0 = true := by decide +kernel
def xi_414_1 : XIs := [(22, .iadd, 1), (23, .istore_n 0, 1), (24, .iload_n 0, 1), (25, .iload_n 0, 1), (26, .iconst 4, 1), (27, .iushr, 1), (28, .iadd, 1), (29, .ldc_w 267, 3), (32, .iand, 1), (33, .istore_n 0, 1), (34, .iload_n 0, 1), (35, .iload_n 0, 1), (36, .bipush 8, 2), (38, .iushr, 1), (39, .iadd, 1), (40, .istore_n 0, 1)]
set_option maxRecDepth 100000 in
theorem xi_ok414_1 : xi_ok cJ6_bitCount_0f7a4 xi_414_1 = true := by decide +kernel
def xi_414_2 : XIs := [(41, .iload_n 0, 1), (42, .iload_n 0, 1), (43, .bipush 16, 2), (45, .iushr, 1), (46, .iadd, 1), (47, .istore_n 0, 1), (48, .iload_n 0, 1), (49, .bipush 63, 2), (51, .iand, 1), (52, .ireturn, 1)]
set_option maxRecDepth 100000 in
theorem xi_ok414_2 : xi_ok cJ6_bitCount_0f7a4 xi_414_2 = true := by decide +kernel
def xi_414 (pc : Nat) : XIs := cond (Nat.blt pc 22) (xi_414_0) (cond (Nat.blt pc 41) (xi_414_1) (xi_414_2))
theorem xi_ok414 (pc : Nat) : xi_ok cJ6_bitCount_0f7a4 (xi_414 pc) = true := xi_c (xi_ok414_0) (xi_c (xi_ok414_1) (xi_ok414_2))
def xi_415_0 : XIs := [(0, .lload_n 0, 1), (1, .lload_n 0, 1), (2, .iconst 1, 1), (3, .lushr, 1), (4, .ldc2_w 314, 3), (7, .land, 1), (8, .lsub, 1), (9, .lstore_n 0, 1), (10, .lload_n 0, 1), (11, .ldc2_w 316, 3), (14, .land, 1), (15, .lload_n 0, 1), (16, .iconst 2, 1), (17, .lushr, 1), (18, .ldc2_w 316, 3), (21, .land, 1)]
set_option maxRecDepth 100000 in
theorem xi_ok415_0 : xi_ok cJ13_bitCount_95d88 xi_415_0 = true := by decide +kernel
def xi_415_1 : XIs := [(22, .ladd, 1), (23, .lstore_n 0, 1), (24, .lload_n 0, 1), (25, .lload_n 0, 1), (26, .iconst 4, 1), (27, .lushr, 1), (28, .ladd, 1), (29, .ldc2_w 318, 3), (32, .land, 1), (33, .lstore_n 0, 1), (34, .lload_n 0, 1), (35, .lload_n 0, 1), (36, .bipush 8, 2), (38, .lushr, 1), (39, .ladd, 1), (40, .lstore_n 0, 1)]
set_option maxRecDepth 100000 in
theorem xi_ok415_1 : xi_ok cJ13_bitCount_95d88 xi_415_1 = true := by decide +kernel
def xi_415_2 : XIs := [(41, .lload_n 0, 1), (42, .lload_n 0, 1), (43, .bipush 16, 2), (45, .lushr, 1), (46, .ladd, 1), (47, .lstore_n 0, 1), (48, .lload_n 0, 1), (49, .lload_n 0, 1), (50, .bipush 32, 2), (52, .lushr, 1), (53, .ladd, 1), (54, .lstore_n 0, 1), (55, .lload_n 0, 1), (56, .l2i, 1), (57, .bipush 127, 2), (59, .iand, 1)]
set_option maxRecDepth 100000 in
theorem xi_ok415_2 : xi_ok cJ13_bitCount_95d88 xi_415_2 = true := by decide +kernel
def xi_415_3 : XIs := [(60, .ireturn, 1)]
set_option maxRecDepth 100000 in
theorem xi_ok415_3 : xi_ok cJ13_bitCount_95d88 xi_415_3 = true := by decide +kernel
def xi_415 (pc : Nat) : XIs := cond (Nat.blt pc 41) (cond (Nat.blt pc 22) (xi_415_0) (xi_415_1)) (cond (Nat.blt pc 60) (xi_415_2) (xi_415_3))
theorem xi_ok415 (pc : Nat) : xi_ok cJ13_bitCount_95d88 (xi_415 pc) = true := xi_c (xi_c (xi_ok415_0) (xi_ok415_1)) (xi_c (xi_ok415_2) (xi_ok415_3))
def xi_416_0 : XIs := [(0, .iconst 0, 1), (1, .istore_n 3, 1), (2, .aload_n 0, 1), (3, .arraylength, 1), (4, .istore 4, 2), (6, .iload_n 3, 1), (7, .iload 4, 2), (9, .if_icmp .ge 13, 3), (12, .aload_n 0, 1), (13, .iload_n 3, 1), (14, .lload_n 1, 1), (15, .lastore, 1), (16, .iinc 3 1, 3), (19, .goto (-13), 3), (22, .return_, 1)]
set_option maxRecDepth 100000 in
theorem xi_ok416_0 : xi_ok cJ7_fill_d0a16 xi_416_0 = true := by decide +kernel
def xi_416 (pc : Nat) : XIs := xi_416_0
theorem xi_ok416 (pc : Nat) : xi_ok cJ7_fill_d0a16 (xi_416 pc) = true := xi_ok416_0
def xi_417_0 : XIs := [(0, .iconst 0, 1), (1, .istore_n 2, 1), (2, .aload_n 0, 1), (3, .arraylength, 1), (4, .istore_n 3, 1), (5, .iload_n 2, 1), (6, .iload_n 3, 1), (7, .if_icmp .ge 13, 3), (10, .aload_n 0, 1), (11, .iload_n 2, 1), (12, .iload_n 1, 1), (13, .iastore, 1), (14, .iinc 2 1, 3), (17, .goto (-12), 3), (20, .return_, 1)]
set_option maxRecDepth 100000 in
theorem xi_ok417_0 : xi_ok cJ7_fill_53178 xi_417_0 = true := by decide +kernel
def xi_417 (pc : Nat) : XIs := xi_417_0
theorem xi_ok417 (pc : Nat) : xi_ok cJ7_fill_53178 (xi_417 pc) = true := xi_ok417_0
