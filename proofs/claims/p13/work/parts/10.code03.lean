def xi_338_1 : XIs := [(26, .istore 4, 2), (28, .iload 4, 2), (30, .aload_n 0, 1), (31, .getfield 285, 3), (34, .if_icmp .ge 29, 3), (37, .iload_n 2, 1), (38, .iload 4, 2), (40, .invokestatic 427, 3), (43, .ifCond .eq 14, 3), (46, .iload_n 3, 1), (47, .iload_n 1, 1), (48, .if_icmp .ne 6, 3), (51, .iload 4, 2), (53, .ireturn, 1), (54, .iinc 3 1, 3), (57, .iinc 4 1, 3)]
set_option maxRecDepth 100000 in
theorem xi_ok338_1 : xi_ok cX12_clique xi_338_1 = true := by decide +kernel
def xi_338_2 : XIs := [(60, .goto (-32), 3), (63, .iconst (-1), 1), (64, .ireturn, 1)]
set_option maxRecDepth 100000 in
theorem xi_ok338_2 : xi_ok cX12_clique xi_338_2 = true := by decide +kernel
def xi_338 (pc : Nat) : XIs := cond (Nat.blt pc 26) (xi_338_0) (cond (Nat.blt pc 60) (xi_338_1) (xi_338_2))
theorem xi_ok338 (pc : Nat) : xi_ok cX12_clique (xi_338 pc) = true := xi_c (xi_ok338_0) (xi_c (xi_ok338_1) (xi_ok338_2))
def xi_339_0 : XIs := [(0, .iconst 0, 1), (1, .istore_n 2, 1), (2, .iconst 0, 1), (3, .istore_n 3, 1), (4, .iload_n 3, 1), (5, .aload_n 0, 1), (6, .getfield 285, 3), (9, .if_icmp .ge 46, 3), (12, .iload_n 2, 1), (13, .aload_n 0, 1), (14, .getfield 100, 3), (17, .iload_n 1, 1), (18, .iaload, 1), (19, .iload_n 3, 1), (20, .invokestatic 427, 3), (23, .ifCond .eq 23, 3)]
set_option maxRecDepth 100000 in
theorem xi_ok339_0 : xi_ok cX12_barsOf xi_339_0 = true := by decide +kernel
def xi_339_1 : XIs := [(26, .aload_n 0, 1), (27, .getfield 112, 3), (30, .iload_n 3, 1), (31, .iaload, 1), (32, .ifCond .lt 14, 3), (35, .iconst 1, 1), (36, .aload_n 0, 1), (37, .getfield 112, 3), (40, .iload_n 3, 1), (41, .iaload, 1), (42, .ishl, 1), (43, .goto 4, 3), (46, .iconst 0, 1), (47, .ior, 1), (48, .istore_n 2, 1), (49, .iinc 3 1, 3)]
set_option maxRecDepth 100000 in
theorem xi_ok339_1 : xi_ok cX12_barsOf xi_339_1 = true := by decide +kernel
def xi_339_2 : XIs := [(52, .goto (-48), 3), (55, .iload_n 2, 1), (56, .ireturn, 1)]
set_option maxRecDepth 100000 in
theorem xi_ok339_2 : xi_ok cX12_barsOf xi_339_2 = true := by decide +kernel
def xi_339 (pc : Nat) : XIs := cond (Nat.blt pc 26) (xi_339_0) (cond (Nat.blt pc 52) (xi_339_1) (xi_339_2))
theorem xi_ok339 (pc : Nat) : xi_ok cX12_barsOf (xi_339 pc) = true := xi_c (xi_ok339_0) (xi_c (xi_ok339_1) (xi_ok339_2))
def xi_340_0 : XIs := [(0, .iconst (-1), 1), (1, .istore_n 2, 1), (2, .iconst 0, 1), (3, .istore_n 3, 1), (4, .iconst 0, 1), (5, .istore 4, 2), (7, .iconst 0, 1), (8, .istore 5, 2), (10, .iload 5, 2), (12, .aload_n 0, 1), (13, .getfield 285, 3), (16, .if_icmp .ge 89, 3), (19, .aload_n 0, 1), (20, .getfield 495, 3), (23, .iload 5, 2), (25, .invokestatic 427, 3)]
set_option maxRecDepth 100000 in
theorem xi_ok340_0 : xi_ok cX12_tightest xi_340_0 = true := by decide +kernel
def xi_340_1 : XIs := [(28, .ifCond .eq 71, 3), (31, .aload_n 0, 1), (32, .getfield 112, 3), (35, .iload 5, 2), (37, .iaload, 1), (38, .ifCond .ge 61, 3), (41, .iload_n 1, 1), (42, .aload_n 0, 1), (43, .iload 5, 2), (45, .invokevirtual 498, 3), (48, .invokestatic 488, 3), (51, .isub, 1), (52, .istore 6, 2), (54, .aload_n 0, 1), (55, .getfield 100, 3), (58, .iload 5, 2)]
set_option maxRecDepth 100000 in
theorem xi_ok340_1 : xi_ok cX12_tightest xi_340_1 = true := by decide +kernel
def xi_340_2 : XIs := [(60, .iaload, 1), (61, .invokestatic 488, 3), (64, .istore 7, 2), (66, .iload_n 2, 1), (67, .ifCond .lt 22, 3), (70, .iload 6, 2), (72, .iload_n 3, 1), (73, .if_icmp .lt 16, 3), (76, .iload 6, 2), (78, .iload_n 3, 1), (79, .if_icmp .ne 20, 3), (82, .iload 7, 2), (84, .iload 4, 2), (86, .if_icmp .le 13, 3), (89, .iload 5, 2), (91, .istore_n 2, 1)]
set_option maxRecDepth 100000 in
theorem xi_ok340_2 : xi_ok cX12_tightest xi_340_2 = true := by decide +kernel
def xi_340_3 : XIs := [(92, .iload 6, 2), (94, .istore_n 3, 1), (95, .iload 7, 2), (97, .istore 4, 2), (99, .iinc 5 1, 3), (102, .goto (-92), 3), (105, .iload_n 2, 1), (106, .ireturn, 1)]
set_option maxRecDepth 100000 in
theorem xi_ok340_3 : xi_ok cX12_tightest xi_340_3 = true := by decide +kernel
def xi_340 (pc : Nat) : XIs := cond (Nat.blt pc 60) (cond (Nat.blt pc 28) (xi_340_0) (xi_340_1)) (cond (Nat.blt pc 92) (xi_340_2) (xi_340_3))
theorem xi_ok340 (pc : Nat) : xi_ok cX12_tightest (xi_340 pc) = true := xi_c (xi_c (xi_ok340_0) (xi_ok340_1)) (xi_c (xi_ok340_2) (xi_ok340_3))
def xi_341 (pc : Nat) : XIs := []
theorem xi_ok341 (pc : Nat) : xi_ok cX12_tough (xi_341 pc) = true := rfl
def xi_342 (pc : Nat) : XIs := []
theorem xi_ok342 (pc : Nat) : xi_ok cX12_hanging (xi_342 pc) = true := rfl
def xi_343 (pc : Nat) : XIs := []
theorem xi_ok343 (pc : Nat) : xi_ok cX12_isColourable (xi_343 pc) = true := rfl
def xi_344 (pc : Nat) : XIs := []
theorem xi_ok344 (pc : Nat) : xi_ok cX12_begin (xi_344 pc) = true := rfl
def xi_345 (pc : Nat) : XIs := []
theorem xi_ok345 (pc : Nat) : xi_ok cX12_isPartColourable (xi_345 pc) = true := rfl
def xi_346_0 : XIs := [(0, .iload_n 0, 1), (1, .iconst 1, 1), (2, .iadd, 1), (3, .iload_n 1, 1), (4, .if_icmp .ge 9, 3), (7, .iload_n 0, 1), (8, .iconst 1, 1), (9, .iadd, 1), (10, .goto 4, 3), (13, .iload_n 1, 1), (14, .istore_n 2, 1), (15, .iload_n 2, 1), (16, .bipush 32, 2), (18, .if_icmp .lt 7, 3), (21, .iconst (-1), 1), (22, .goto 8, 3)]
set_option maxRecDepth 100000 in
theorem xi_ok346_0 : xi_ok cX12_capped xi_346_0 = true := by decide +kernel
def xi_346_1 : XIs := [(25, .iconst 1, 1), (26, .iload_n 2, 1), (27, .ishl, 1), (28, .iconst 1, 1), (29, .isub, 1), (30, .ireturn, 1)]
set_option maxRecDepth 100000 in
theorem xi_ok346_1 : xi_ok cX12_capped xi_346_1 = true := by decide +kernel
def xi_346 (pc : Nat) : XIs := cond (Nat.blt pc 25) (xi_346_0) (xi_346_1)
theorem xi_ok346 (pc : Nat) : xi_ok cX12_capped (xi_346 pc) = true := xi_c (xi_ok346_0) (xi_ok346_1)
def xi_347 (pc : Nat) : XIs := []
theorem xi_ok347 (pc : Nat) : xi_ok cX12_colour (xi_347 pc) = true := rfl
def xi_348 (pc : Nat) : XIs := []
theorem xi_ok348 (pc : Nat) : xi_ok cX12_search (xi_348 pc) = true := rfl
def xi_349_0 : XIs := [(0, .aload_n 0, 1), (1, .getfield 130, 3), (4, .iload_n 1, 1), (5, .iaload, 1), (6, .istore_n 2, 1), (7, .iload_n 2, 1), (8, .sipush 200, 3), (11, .if_icmp .lt 21, 3), (14, .aload_n 0, 1), (15, .getfield 23, 3), (18, .aload_n 0, 1), (19, .getfield 288, 3), (22, .iload_n 2, 1), (23, .iadd, 1), (24, .sipush 200, 3), (27, .isub, 1)]
set_option maxRecDepth 100000 in
theorem xi_ok349_0 : xi_ok cX12_before xi_349_0 = true := by decide +kernel
def xi_349_1 : XIs := [(28, .iaload, 1), (29, .goto 14, 3), (32, .aload_n 0, 1), (33, .getfield 20, 3), (36, .aload_n 0, 1), (37, .getfield 288, 3), (40, .iload_n 2, 1), (41, .iadd, 1), (42, .iaload, 1), (43, .ireturn, 1)]
set_option maxRecDepth 100000 in
theorem xi_ok349_1 : xi_ok cX12_before xi_349_1 = true := by decide +kernel
def xi_349 (pc : Nat) : XIs := cond (Nat.blt pc 28) (xi_349_0) (xi_349_1)
theorem xi_ok349 (pc : Nat) : xi_ok cX12_before (xi_349 pc) = true := xi_c (xi_ok349_0) (xi_ok349_1)
def xi_350_0 : XIs := [(0, .aload_n 0, 1), (1, .getfield 130, 3), (4, .iload_n 1, 1), (5, .iaload, 1), (6, .istore_n 2, 1), (7, .iload_n 2, 1), (8, .sipush 200, 3), (11, .if_icmp .lt 16, 3), (14, .aload_n 0, 1), (15, .getfield 127, 3), (18, .iload_n 2, 1), (19, .sipush 200, 3), (22, .isub, 1), (23, .laload, 1), (24, .goto 22, 3), (27, .aload_n 0, 1)]
set_option maxRecDepth 100000 in
theorem xi_ok350_0 : xi_ok cX12_roomOn xi_350_0 = true := by decide +kernel
def xi_350_1 : XIs := [(28, .getfield 29, 3), (31, .aload_n 0, 1), (32, .getfield 288, 3), (35, .iload_n 2, 1), (36, .iadd, 1), (37, .iaload, 1), (38, .i2l, 1), (39, .aload_n 0, 1), (40, .getfield 127, 3), (43, .iload_n 2, 1), (44, .laload, 1), (45, .lsub, 1), (46, .lreturn, 1)]
set_option maxRecDepth 100000 in
theorem xi_ok350_1 : xi_ok cX12_roomOn xi_350_1 = true := by decide +kernel
def xi_350 (pc : Nat) : XIs := cond (Nat.blt pc 28) (xi_350_0) (xi_350_1)
theorem xi_ok350 (pc : Nat) : xi_ok cX12_roomOn (xi_350 pc) = true := xi_c (xi_ok350_0) (xi_ok350_1)
def xi_351_0 : XIs := [(0, .aload_n 0, 1), (1, .getfield 130, 3), (4, .iload_n 1, 1), (5, .iaload, 1), (6, .istore 4, 2), (8, .iload 4, 2), (10, .sipush 200, 3), (13, .if_icmp .lt 21, 3), (16, .aload_n 0, 1), (17, .getfield 127, 3), (20, .iload 4, 2), (22, .sipush 200, 3), (25, .isub, 1), (26, .dup2, 1), (27, .laload, 1), (28, .lload_n 2, 1)]
set_option maxRecDepth 100000 in
theorem xi_ok351_0 : xi_ok cX12_push xi_351_0 = true := by decide +kernel
def xi_351_1 : XIs := [(29, .lsub, 1), (30, .lastore, 1), (31, .goto 14, 3), (34, .aload_n 0, 1), (35, .getfield 127, 3), (38, .iload 4, 2), (40, .dup2, 1), (41, .laload, 1), (42, .lload_n 2, 1), (43, .ladd, 1), (44, .lastore, 1), (45, .return_, 1)]
set_option maxRecDepth 100000 in
theorem xi_ok351_1 : xi_ok cX12_push xi_351_1 = true := by decide +kernel
def xi_351 (pc : Nat) : XIs := cond (Nat.blt pc 29) (xi_351_0) (xi_351_1)
theorem xi_ok351 (pc : Nat) : xi_ok cX12_push (xi_351 pc) = true := xi_c (xi_ok351_0) (xi_ok351_1)
def xi_352 (pc : Nat) : XIs := []
theorem xi_ok352 (pc : Nat) : xi_ok cX12_most (xi_352 pc) = true := rfl
def xi_353_0 : XIs := [(0, .aload_n 0, 1), (1, .iload_n 1, 1), (2, .invokevirtual 349, 3), (5, .ifCond .eq 20, 3), (8, .aload_n 0, 1), (9, .iload_n 2, 1), (10, .invokevirtual 349, 3), (13, .ifCond .eq 12, 3), (16, .iload_n 1, 1), (17, .iload_n 2, 1), (18, .if_icmp .eq 7, 3), (21, .iconst 1, 1), (22, .goto 4, 3), (25, .iconst 0, 1), (26, .ireturn, 1)]
set_option maxRecDepth 100000 in
theorem xi_ok353_0 : xi_ok cX12_twoNodes xi_353_0 = true := by decide +kernel
def xi_353 (pc : Nat) : XIs := xi_353_0
theorem xi_ok353 (pc : Nat) : xi_ok cX12_twoNodes (xi_353 pc) = true := xi_ok353_0
def xi_354_0 : XIs := [(0, .aload_n 0, 1), (1, .aload_n 0, 1), (2, .iload_n 1, 1), (3, .iload_n 2, 1), (4, .invokevirtual 538, 3), (7, .invokevirtual 334, 3), (10, .ifCond .eq 7, 3), (13, .lconst 0, 1), (14, .goto 9, 3), (17, .aload_n 0, 1), (18, .iload_n 1, 1), (19, .iload_n 2, 1), (20, .invokevirtual 541, 3), (23, .lreturn, 1)]
set_option maxRecDepth 100000 in
theorem xi_ok354_0 : xi_ok cX12_flow xi_354_0 = true := by decide +kernel
def xi_354 (pc : Nat) : XIs := xi_354_0
theorem xi_ok354 (pc : Nat) : xi_ok cX12_flow (xi_354 pc) = true := xi_ok354_0
def xi_355_0 : XIs := [(0, .aload_n 0, 1), (1, .aload_n 0, 1), (2, .iload_n 1, 1), (3, .iload_n 2, 1), (4, .invokevirtual 538, 3), (7, .ifCond .eq 15, 3), (10, .aload_n 0, 1), (11, .iload_n 3, 1), (12, .invokevirtual 349, 3), (15, .ifCond .eq 7, 3), (18, .iconst 1, 1), (19, .goto 4, 3), (22, .iconst 0, 1), (23, .invokevirtual 334, 3), (26, .ifCond .eq 5, 3), (29, .iconst 0, 1)]
set_option maxRecDepth 100000 in
theorem xi_ok355_0 : xi_ok cX12_side xi_355_0 = true := by decide +kernel
def xi_355_1 : XIs := [(30, .ireturn, 1), (31, .aload_n 0, 1), (32, .iload_n 1, 1), (33, .iload_n 2, 1), (34, .invokevirtual 541, 3), (37, .lstore 4, 2), (39, .aload_n 0, 1), (40, .getfield 130, 3), (43, .iload_n 3, 1), (44, .iaload, 1), (45, .ifCond .lt 7, 3), (48, .iconst 1, 1), (49, .goto 4, 3), (52, .iconst 0, 1), (53, .ireturn, 1)]
set_option maxRecDepth 100000 in
theorem xi_ok355_1 : xi_ok cX12_side xi_355_1 = true := by decide +kernel
def xi_355 (pc : Nat) : XIs := cond (Nat.blt pc 30) (xi_355_0) (xi_355_1)
theorem xi_ok355 (pc : Nat) : xi_ok cX12_side (xi_355 pc) = true := xi_c (xi_ok355_0) (xi_ok355_1)
def xi_356 (pc : Nat) : XIs := []
theorem xi_ok356 (pc : Nat) : xi_ok cX12_cheapest (xi_356 pc) = true := rfl
def xi_357 (pc : Nat) : XIs := []
theorem xi_ok357 (pc : Nat) : xi_ok cX12_cost (xi_357 pc) = true := rfl
def xi_358 (pc : Nat) : XIs := []
theorem xi_ok358 (pc : Nat) : xi_ok cX12_sends (xi_358 pc) = true := rfl
def xi_359_0 : XIs := [(0, .aload_n 0, 1), (1, .getfield 13, 3), (4, .bipush 32, 2), (6, .aload_n 0, 1), (7, .getfield 301, 3), (10, .imul, 1), (11, .iload_n 1, 1), (12, .iadd, 1), (13, .iaload, 1), (14, .bipush 13, 2), (16, .if_icmp .ge 7, 3), (19, .iconst 1, 1), (20, .goto 4, 3), (23, .iconst 0, 1), (24, .ireturn, 1)]
set_option maxRecDepth 100000 in
theorem xi_ok359_0 : xi_ok cX12_isFirstSort xi_359_0 = true := by decide +kernel
def xi_359 (pc : Nat) : XIs := xi_359_0
theorem xi_ok359 (pc : Nat) : xi_ok cX12_isFirstSort (xi_359 pc) = true := xi_ok359_0
def xi_360 (pc : Nat) : XIs := []
theorem xi_ok360 (pc : Nat) : xi_ok cX12_pairUp (xi_360 pc) = true := rfl
def xi_361 (pc : Nat) : XIs := []
theorem xi_ok361 (pc : Nat) : xi_ok cX12_cheapestPair (xi_361 pc) = true := rfl
def xi_362_0 : XIs := [(0, .aload_n 0, 1), (1, .iload_n 1, 1), (2, .i2l, 1), (3, .lconst 0, 1), (4, .lconst 1, 1), (5, .invokestatic 308, 3), (8, .invokevirtual 334, 3), (11, .ifCond .eq 5, 3), (14, .lconst 0, 1), (15, .lreturn, 1), (16, .aload_n 0, 1), (17, .invokevirtual 559, 3), (20, .lconst 0, 1), (21, .lstore_n 2, 1), (22, .lconst 0, 1), (23, .lstore 4, 2)]
set_option maxRecDepth 100000 in
theorem xi_ok362_0 : xi_ok cX12_pairing xi_362_0 = true := by decide +kernel
def xi_362_1 : XIs := [(25, .iconst 0, 1), (26, .istore 6, 2), (28, .iload 6, 2), (30, .aload_n 0, 1), (31, .getfield 285, 3), (34, .if_icmp .ge 55, 3), (37, .aload_n 0, 1), (38, .iload 6, 2), (40, .invokevirtual 553, 3), (43, .ifCond .eq 40, 3), (46, .aload_n 0, 1), (47, .getfield 139, 3), (50, .iload 6, 2), (52, .iaload, 1), (53, .ifCond .lt 30, 3), (56, .lload_n 2, 1)]
set_option maxRecDepth 100000 in
theorem xi_ok362_1 : xi_ok cX12_pairing xi_362_1 = true := by decide +kernel
def xi_362_2 : XIs := [(57, .lconst 1, 1), (58, .ladd, 1), (59, .lstore_n 2, 1), (60, .lload 4, 2), (62, .aload_n 0, 1), (63, .getfield 142, 3), (66, .bipush 32, 2), (68, .iload 6, 2), (70, .imul, 1), (71, .aload_n 0, 1), (72, .getfield 139, 3), (75, .iload 6, 2), (77, .iaload, 1), (78, .iadd, 1), (79, .laload, 1), (80, .ladd, 1)]
set_option maxRecDepth 100000 in
theorem xi_ok362_2 : xi_ok cX12_pairing xi_362_2 = true := by decide +kernel
def xi_362_3 : XIs := [(81, .lstore 4, 2), (83, .iinc 6 1, 3), (86, .goto (-58), 3), (89, .iload_n 1, 1), (90, .ifCond .ne 7, 3), (93, .lload_n 2, 1), (94, .goto 5, 3), (97, .lload 4, 2), (99, .lreturn, 1)]
set_option maxRecDepth 100000 in
theorem xi_ok362_3 : xi_ok cX12_pairing xi_362_3 = true := by decide +kernel
def xi_362 (pc : Nat) : XIs := cond (Nat.blt pc 57) (cond (Nat.blt pc 25) (xi_362_0) (xi_362_1)) (cond (Nat.blt pc 81) (xi_362_2) (xi_362_3))
theorem xi_ok362 (pc : Nat) : xi_ok cX12_pairing (xi_362 pc) = true := xi_c (xi_c (xi_ok362_0) (xi_ok362_1)) (xi_c (xi_ok362_2) (xi_ok362_3))
def xi_363 (pc : Nat) : XIs := []
theorem xi_ok363 (pc : Nat) : xi_ok cX12_tree (xi_363 pc) = true := rfl
def xi_364 (pc : Nat) : XIs := []
theorem xi_ok364 (pc : Nat) : xi_ok cX12_rings (xi_364 pc) = true := rfl
def xi_365_0 : XIs := [(0, .aload_n 0, 1), (1, .aload_n 0, 1), (2, .iload_n 1, 1), (3, .invokevirtual 476, 3), (6, .invokevirtual 334, 3), (9, .ifCond .eq 5, 3), (12, .iconst 0, 1), (13, .ireturn, 1), (14, .aload_n 0, 1), (15, .iload_n 1, 1), (16, .invokevirtual 340, 3), (19, .ifCond .ne 5, 3), (22, .iconst 0, 1), (23, .ireturn, 1), (24, .iconst 0, 1), (25, .istore_n 2, 1)]
set_option maxRecDepth 100000 in
theorem xi_ok365_0 : xi_ok cX12_span xi_365_0 = true := by decide +kernel
def xi_365_1 : XIs := [(26, .iload_n 2, 1), (27, .aload_n 0, 1), (28, .getfield 285, 3), (31, .if_icmp .ge 16, 3), (34, .aload_n 0, 1), (35, .getfield 166, 3), (38, .iload_n 2, 1), (39, .iload_n 2, 1), (40, .iastore, 1), (41, .iinc 2 1, 3), (44, .goto (-18), 3), (47, .aload_n 0, 1), (48, .aload_n 0, 1), (49, .getfield 288, 3), (52, .iload_n 1, 1), (53, .iadd, 1)]
set_option maxRecDepth 100000 in
theorem xi_ok365_1 : xi_ok cX12_span xi_365_1 = true := by decide +kernel
def xi_365_2 : XIs := [(54, .iload_n 1, 1), (55, .invokevirtual 565, 3), (58, .lstore_n 2, 1), (59, .iconst 0, 1), (60, .istore 4, 2), (62, .iload 4, 2), (64, .aload_n 0, 1), (65, .getfield 285, 3), (68, .if_icmp .ge 145, 3), (71, .iconst 0, 1), (72, .istore 5, 2), (74, .iload 5, 2), (76, .sipush 160, 3), (79, .if_icmp .ge 128, 3), (82, .aload_n 0, 1), (83, .iload 5, 2)]
set_option maxRecDepth 100000 in
theorem xi_ok365_2 : xi_ok cX12_span xi_365_2 = true := by decide +kernel
def xi_365_3 : XIs := [(85, .invokevirtual 340, 3), (88, .ifCond .eq 113, 3), (91, .aload_n 0, 1), (92, .aload_n 0, 1), (93, .getfield 288, 3), (96, .iload 5, 2), (98, .iadd, 1), (99, .iload 5, 2), (101, .invokevirtual 565, 3), (104, .lload_n 2, 1), (105, .lcmp, 1), (106, .ifCond .ge 95, 3), (109, .aload_n 0, 1), (110, .getfield 166, 3), (113, .aload_n 0, 1), (114, .getfield 20, 3)]
set_option maxRecDepth 100000 in
theorem xi_ok365_3 : xi_ok cX12_span xi_365_3 = true := by decide +kernel
def xi_365_4 : XIs := [(117, .aload_n 0, 1), (118, .getfield 288, 3), (121, .iload 5, 2), (123, .iadd, 1), (124, .iaload, 1), (125, .iaload, 1), (126, .istore 6, 2), (128, .aload_n 0, 1), (129, .getfield 166, 3), (132, .aload_n 0, 1), (133, .getfield 23, 3), (136, .aload_n 0, 1), (137, .getfield 288, 3), (140, .iload 5, 2), (142, .iadd, 1), (143, .iaload, 1)]
set_option maxRecDepth 100000 in
theorem xi_ok365_4 : xi_ok cX12_span xi_365_4 = true := by decide +kernel
def xi_365_5 : XIs := [(144, .iaload, 1), (145, .istore 7, 2), (147, .iload 6, 2), (149, .iload 7, 2), (151, .if_icmp .ge 8, 3), (154, .iload 6, 2), (156, .goto 5, 3), (159, .iload 7, 2), (161, .istore 8, 2), (163, .aload_n 0, 1), (164, .getfield 166, 3), (167, .aload_n 0, 1), (168, .getfield 20, 3), (171, .aload_n 0, 1), (172, .getfield 288, 3), (175, .iload 5, 2)]
set_option maxRecDepth 100000 in
theorem xi_ok365_5 : xi_ok cX12_span xi_365_5 = true := by decide +kernel
def xi_365_6 : XIs := [(177, .iadd, 1), (178, .iaload, 1), (179, .iload 8, 2), (181, .iastore, 1), (182, .aload_n 0, 1), (183, .getfield 166, 3), (186, .aload_n 0, 1), (187, .getfield 23, 3), (190, .aload_n 0, 1), (191, .getfield 288, 3), (194, .iload 5, 2), (196, .iadd, 1), (197, .iaload, 1), (198, .iload 8, 2), (200, .iastore, 1), (201, .iinc 5 1, 3)]
set_option maxRecDepth 100000 in
theorem xi_ok365_6 : xi_ok cX12_span xi_365_6 = true := by decide +kernel
def xi_365_7 : XIs := [(204, .goto (-130), 3), (207, .iinc 4 1, 3), (210, .goto (-148), 3), (213, .aload_n 0, 1), (214, .getfield 166, 3), (217, .aload_n 0, 1), (218, .getfield 20, 3), (221, .aload_n 0, 1), (222, .getfield 288, 3), (225, .iload_n 1, 1), (226, .iadd, 1), (227, .iaload, 1), (228, .iaload, 1), (229, .aload_n 0, 1), (230, .getfield 166, 3), (233, .aload_n 0, 1)]
set_option maxRecDepth 100000 in
theorem xi_ok365_7 : xi_ok cX12_span xi_365_7 = true := by decide +kernel
def xi_365_8 : XIs := [(234, .getfield 23, 3), (237, .aload_n 0, 1), (238, .getfield 288, 3), (241, .iload_n 1, 1), (242, .iadd, 1), (243, .iaload, 1), (244, .iaload, 1), (245, .if_icmp .eq 7, 3), (248, .iconst 1, 1), (249, .goto 4, 3), (252, .iconst 0, 1), (253, .ireturn, 1)]
set_option maxRecDepth 100000 in
theorem xi_ok365_8 : xi_ok cX12_span xi_365_8 = true := by decide +kernel
def xi_365 (pc : Nat) : XIs := cond (Nat.blt pc 117) (cond (Nat.blt pc 54) (cond (Nat.blt pc 26) (xi_365_0) (xi_365_1)) (cond (Nat.blt pc 85) (xi_365_2) (xi_365_3))) (cond (Nat.blt pc 177) (cond (Nat.blt pc 144) (xi_365_4) (xi_365_5)) (cond (Nat.blt pc 204) (xi_365_6) (cond (Nat.blt pc 234) (xi_365_7) (xi_365_8))))
theorem xi_ok365 (pc : Nat) : xi_ok cX12_span (xi_365 pc) = true := xi_c (xi_c (xi_c (xi_ok365_0) (xi_ok365_1)) (xi_c (xi_ok365_2) (xi_ok365_3))) (xi_c (xi_c (xi_ok365_4) (xi_ok365_5)) (xi_c (xi_ok365_6) (xi_c (xi_ok365_7) (xi_ok365_8))))
def xi_366_0 : XIs := [(0, .ldc2_w 568, 3), (3, .aload_n 0, 1), (4, .getfield 26, 3), (7, .iload_n 1, 1), (8, .iaload, 1), (9, .i2l, 1), (10, .ldc2_w 306, 3), (13, .ladd, 1), (14, .lmul, 1), (15, .iload_n 2, 1), (16, .i2l, 1), (17, .ladd, 1), (18, .lreturn, 1)]
set_option maxRecDepth 100000 in
theorem xi_ok366_0 : xi_ok cX12_orderOf xi_366_0 = true := by decide +kernel
def xi_366 (pc : Nat) : XIs := xi_366_0
theorem xi_ok366 (pc : Nat) : xi_ok cX12_orderOf (xi_366 pc) = true := xi_ok366_0
def xi_367 (pc : Nat) : XIs := []
theorem xi_ok367 (pc : Nat) : xi_ok cX12_power (xi_367 pc) = true := rfl
def xi_368 (pc : Nat) : XIs := []
theorem xi_ok368 (pc : Nat) : xi_ok cX12_trees (xi_368 pc) = true := rfl
def xi_369 (pc : Nat) : XIs := []
theorem xi_ok369 (pc : Nat) : xi_ok cX12_rank (xi_369 pc) = true := rfl
def xi_370_0 : XIs := [(0, .iconst 0, 1), (1, .istore 5, 2), (3, .iload 5, 2), (5, .aload_n 0, 1), (6, .getfield 285, 3), (9, .if_icmp .ge 40, 3), (12, .aload_n 3, 1), (13, .iload 5, 2), (15, .iload 5, 2), (17, .iload_n 1, 1), (18, .if_icmp .ne 7, 3), (21, .iconst 0, 1), (22, .goto 4, 3), (25, .iconst (-1), 1), (26, .iastore, 1), (27, .aload 4, 2)]
set_option maxRecDepth 100000 in
theorem xi_ok370_0 : xi_ok cX12_hop xi_370_0 = true := by decide +kernel
def xi_370_1 : XIs := [(29, .iload 5, 2), (31, .iload 5, 2), (33, .iload_n 1, 1), (34, .if_icmp .ne 7, 3), (37, .lconst 1, 1), (38, .goto 4, 3), (41, .lconst 0, 1), (42, .lastore, 1), (43, .iinc 5 1, 3), (46, .goto (-43), 3), (49, .iconst 0, 1), (50, .istore 5, 2), (52, .iload 5, 2), (54, .aload_n 0, 1), (55, .getfield 285, 3), (58, .if_icmp .ge 145, 3)]
set_option maxRecDepth 100000 in
theorem xi_ok370_1 : xi_ok cX12_hop xi_370_1 = true := by decide +kernel
def xi_370_2 : XIs := [(61, .aload_n 0, 1), (62, .getfield 288, 3), (65, .istore 6, 2), (67, .iload 6, 2), (69, .aload_n 0, 1), (70, .getfield 288, 3), (73, .sipush 160, 3), (76, .iadd, 1), (77, .if_icmp .ge 120, 3), (80, .iload_n 2, 1), (81, .ifCond .eq 13, 3), (84, .aload_n 0, 1), (85, .getfield 23, 3), (88, .iload 6, 2), (90, .iaload, 1), (91, .goto 10, 3)]
set_option maxRecDepth 100000 in
theorem xi_ok370_2 : xi_ok cX12_hop xi_370_2 = true := by decide +kernel
def xi_370_3 : XIs := [(94, .aload_n 0, 1), (95, .getfield 20, 3), (98, .iload 6, 2), (100, .iaload, 1), (101, .istore 7, 2), (103, .iload_n 2, 1), (104, .ifCond .eq 13, 3), (107, .aload_n 0, 1), (108, .getfield 20, 3), (111, .iload 6, 2), (113, .iaload, 1), (114, .goto 10, 3), (117, .aload_n 0, 1), (118, .getfield 23, 3), (121, .iload 6, 2), (123, .iaload, 1)]
set_option maxRecDepth 100000 in
theorem xi_ok370_3 : xi_ok cX12_hop xi_370_3 = true := by decide +kernel
def xi_370_4 : XIs := [(124, .istore 8, 2), (126, .aload_n 0, 1), (127, .getfield 16, 3), (130, .iload 6, 2), (132, .baload, 1), (133, .ifCond .eq 58, 3), (136, .aload_n 3, 1), (137, .iload 7, 2), (139, .iaload, 1), (140, .iload 5, 2), (142, .if_icmp .ne 49, 3), (145, .aload_n 3, 1), (146, .iload 8, 2), (148, .iaload, 1), (149, .ifCond .lt 14, 3), (152, .aload_n 3, 1)]
set_option maxRecDepth 100000 in
theorem xi_ok370_4 : xi_ok cX12_hop xi_370_4 = true := by decide +kernel
def xi_370_5 : XIs := [(153, .iload 8, 2), (155, .iaload, 1), (156, .iload 5, 2), (158, .iconst 1, 1), (159, .iadd, 1), (160, .if_icmp .ne 31, 3), (163, .aload_n 3, 1), (164, .iload 8, 2), (166, .iload 5, 2), (168, .iconst 1, 1), (169, .iadd, 1), (170, .iastore, 1), (171, .aload 4, 2), (173, .iload 8, 2), (175, .aload 4, 2), (177, .iload 8, 2)]
set_option maxRecDepth 100000 in
theorem xi_ok370_5 : xi_ok cX12_hop xi_370_5 = true := by decide +kernel
def xi_370_6 : XIs := [(179, .laload, 1), (180, .aload 4, 2), (182, .iload 7, 2), (184, .laload, 1), (185, .ladd, 1), (186, .ldc2_w 572, 3), (189, .lrem, 1), (190, .lastore, 1), (191, .iinc 6 1, 3), (194, .goto (-127), 3), (197, .iinc 5 1, 3), (200, .goto (-148), 3), (203, .return_, 1)]
set_option maxRecDepth 100000 in
theorem xi_ok370_6 : xi_ok cX12_hop xi_370_6 = true := by decide +kernel
def xi_370 (pc : Nat) : XIs := cond (Nat.blt pc 94) (cond (Nat.blt pc 29) (xi_370_0) (cond (Nat.blt pc 61) (xi_370_1) (xi_370_2))) (cond (Nat.blt pc 153) (cond (Nat.blt pc 124) (xi_370_3) (xi_370_4)) (cond (Nat.blt pc 179) (xi_370_5) (xi_370_6)))
theorem xi_ok370 (pc : Nat) : xi_ok cX12_hop (xi_370 pc) = true := xi_c (xi_c (xi_ok370_0) (xi_c (xi_ok370_1) (xi_ok370_2))) (xi_c (xi_c (xi_ok370_3) (xi_ok370_4)) (xi_c (xi_ok370_5) (xi_ok370_6)))
def xi_371_0 : XIs := [(0, .aload_n 0, 1), (1, .aload_n 0, 1), (2, .iload_n 1, 1), (3, .invokevirtual 349, 3), (6, .ifCond .eq 36, 3), (9, .aload_n 0, 1), (10, .iload_n 2, 1), (11, .invokevirtual 349, 3), (14, .ifCond .eq 28, 3), (17, .iload_n 3, 1), (18, .i2l, 1), (19, .lconst 0, 1), (20, .ldc2_w 570, 3), (23, .invokestatic 308, 3), (26, .ifCond .eq 16, 3), (29, .aload_n 0, 1)]
set_option maxRecDepth 100000 in
theorem xi_ok371_0 : xi_ok cX12_shortest xi_371_0 = true := by decide +kernel
def xi_371_1 : XIs := [(30, .iload 4, 2), (32, .invokevirtual 349, 3), (35, .ifCond .eq 7, 3), (38, .iconst 1, 1), (39, .goto 4, 3), (42, .iconst 0, 1), (43, .invokevirtual 334, 3), (46, .ifCond .eq 5, 3), (49, .iconst 0, 1), (50, .ireturn, 1), (51, .aload_n 0, 1), (52, .iload_n 1, 1), (53, .iconst 0, 1), (54, .aload_n 0, 1), (55, .getfield 181, 3), (58, .aload_n 0, 1)]
set_option maxRecDepth 100000 in
theorem xi_ok371_1 : xi_ok cX12_shortest xi_371_1 = true := by decide +kernel
def xi_371_2 : XIs := [(59, .getfield 184, 3), (62, .invokevirtual 590, 3), (65, .aload_n 0, 1), (66, .iload_n 2, 1), (67, .iconst 1, 1), (68, .aload_n 0, 1), (69, .getfield 187, 3), (72, .aload_n 0, 1), (73, .getfield 190, 3), (76, .invokevirtual 590, 3), (79, .iload_n 3, 1), (80, .ifCond .ne 10, 3), (83, .aload_n 0, 1), (84, .getfield 181, 3), (87, .iload_n 2, 1), (88, .iaload, 1)]
set_option maxRecDepth 100000 in
theorem xi_ok371_2 : xi_ok cX12_shortest xi_371_2 = true := by decide +kernel
def xi_371_3 : XIs := [(89, .ireturn, 1), (90, .iload_n 3, 1), (91, .iconst 1, 1), (92, .if_icmp .ne 11, 3), (95, .aload_n 0, 1), (96, .getfield 184, 3), (99, .iload_n 2, 1), (100, .laload, 1), (101, .l2i, 1), (102, .ireturn, 1), (103, .aload_n 0, 1), (104, .getfield 181, 3), (107, .iload 4, 2), (109, .iaload, 1), (110, .ifCond .lt 41, 3), (113, .aload_n 0, 1)]
set_option maxRecDepth 100000 in
theorem xi_ok371_3 : xi_ok cX12_shortest xi_371_3 = true := by decide +kernel
def xi_371_4 : XIs := [(114, .getfield 187, 3), (117, .iload 4, 2), (119, .iaload, 1), (120, .ifCond .lt 31, 3), (123, .aload_n 0, 1), (124, .getfield 181, 3), (127, .iload 4, 2), (129, .iaload, 1), (130, .aload_n 0, 1), (131, .getfield 187, 3), (134, .iload 4, 2), (136, .iaload, 1), (137, .iadd, 1), (138, .aload_n 0, 1), (139, .getfield 181, 3), (142, .iload_n 2, 1)]
set_option maxRecDepth 100000 in
theorem xi_ok371_4 : xi_ok cX12_shortest xi_371_4 = true := by decide +kernel
def xi_371_5 : XIs := [(143, .iaload, 1), (144, .if_icmp .ne 7, 3), (147, .iconst 1, 1), (148, .goto 4, 3), (151, .iconst 0, 1), (152, .istore 5, 2), (154, .iload 5, 2), (156, .ifCond .eq 26, 3), (159, .aload_n 0, 1), (160, .getfield 184, 3), (163, .iload 4, 2), (165, .laload, 1), (166, .aload_n 0, 1), (167, .getfield 190, 3), (170, .iload 4, 2), (172, .laload, 1)]
set_option maxRecDepth 100000 in
theorem xi_ok371_5 : xi_ok cX12_shortest xi_371_5 = true := by decide +kernel
def xi_371_6 : XIs := [(173, .lmul, 1), (174, .ldc2_w 572, 3), (177, .lrem, 1), (178, .l2i, 1), (179, .goto 4, 3), (182, .iconst 0, 1), (183, .ireturn, 1)]
set_option maxRecDepth 100000 in
theorem xi_ok371_6 : xi_ok cX12_shortest xi_371_6 = true := by decide +kernel
def xi_371 (pc : Nat) : XIs := cond (Nat.blt pc 89) (cond (Nat.blt pc 30) (xi_371_0) (cond (Nat.blt pc 59) (xi_371_1) (xi_371_2))) (cond (Nat.blt pc 143) (cond (Nat.blt pc 114) (xi_371_3) (xi_371_4)) (cond (Nat.blt pc 173) (xi_371_5) (xi_371_6)))
theorem xi_ok371 (pc : Nat) : xi_ok cX12_shortest (xi_371 pc) = true := xi_c (xi_c (xi_ok371_0) (xi_c (xi_ok371_1) (xi_ok371_2))) (xi_c (xi_c (xi_ok371_3) (xi_ok371_4)) (xi_c (xi_ok371_5) (xi_ok371_6)))
def xi_372_0 : XIs := [(0, .ldc2_w 570, 3), (3, .aload_n 0, 1), (4, .getfield 594, 3), (7, .i2l, 1), (8, .lmul, 1), (9, .aload_n 0, 1), (10, .getfield 199, 3), (13, .bipush 32, 2), (15, .iload_n 1, 1), (16, .imul, 1), (17, .iload_n 2, 1), (18, .iadd, 1), (19, .iaload, 1), (20, .i2l, 1), (21, .lmul, 1), (22, .aload_n 0, 1)]
set_option maxRecDepth 100000 in
theorem xi_ok372_0 : xi_ok cX12_gainOf xi_372_0 = true := by decide +kernel
def xi_372_1 : XIs := [(23, .getfield 196, 3), (26, .iload_n 1, 1), (27, .iaload, 1), (28, .i2l, 1), (29, .aload_n 0, 1), (30, .getfield 196, 3), (33, .iload_n 2, 1), (34, .iaload, 1), (35, .i2l, 1), (36, .lmul, 1), (37, .lsub, 1), (38, .lreturn, 1)]
set_option maxRecDepth 100000 in
theorem xi_ok372_1 : xi_ok cX12_gainOf xi_372_1 = true := by decide +kernel
def xi_372 (pc : Nat) : XIs := cond (Nat.blt pc 23) (xi_372_0) (xi_372_1)
theorem xi_ok372 (pc : Nat) : xi_ok cX12_gainOf (xi_372 pc) = true := xi_c (xi_ok372_0) (xi_ok372_1)
def xi_373_0 : XIs := [(0, .lconst 0, 1), (1, .lstore_n 3, 1), (2, .iconst 0, 1), (3, .istore 5, 2), (5, .iload 5, 2), (7, .aload_n 0, 1), (8, .getfield 285, 3), (11, .if_icmp .ge 40, 3), (14, .lload_n 3, 1), (15, .iload 5, 2), (17, .iload_n 1, 1), (18, .if_icmp .eq 24, 3), (21, .aload_n 0, 1), (22, .getfield 193, 3), (25, .iload 5, 2), (27, .iaload, 1)]
set_option maxRecDepth 100000 in
theorem xi_ok373_0 : xi_ok cX12_gainIn xi_373_0 = true := by decide +kernel
def xi_373_1 : XIs := [(28, .iload_n 2, 1), (29, .if_icmp .ne 13, 3), (32, .aload_n 0, 1), (33, .iload_n 1, 1), (34, .iload 5, 2), (36, .invokevirtual 597, 3), (39, .goto 4, 3), (42, .lconst 0, 1), (43, .ladd, 1), (44, .lstore_n 3, 1), (45, .iinc 5 1, 3), (48, .goto (-43), 3), (51, .lload_n 3, 1), (52, .lreturn, 1)]
set_option maxRecDepth 100000 in
theorem xi_ok373_1 : xi_ok cX12_gainIn xi_373_1 = true := by decide +kernel
def xi_373 (pc : Nat) : XIs := cond (Nat.blt pc 28) (xi_373_0) (xi_373_1)
theorem xi_ok373 (pc : Nat) : xi_ok cX12_gainIn (xi_373 pc) = true := xi_c (xi_ok373_0) (xi_ok373_1)
def xi_374 (pc : Nat) : XIs := []
theorem xi_ok374 (pc : Nat) : xi_ok cX12_findGroups (xi_374 pc) = true := rfl
def xi_375_0 : XIs := [(0, .bipush 40, 2), (2, .istore_n 3, 1), (3, .aload_n 0, 1), (4, .getfield 285, 3), (7, .iconst 1, 1), (8, .isub, 1), (9, .istore 4, 2), (11, .iload 4, 2), (13, .ifCond .lt 33, 3), (16, .aload_n 0, 1), (17, .getfield 193, 3), (20, .iload 4, 2), (22, .iaload, 1), (23, .iload_n 1, 1), (24, .if_icmp .ne 14, 3), (27, .iload 4, 2)]
set_option maxRecDepth 100000 in
theorem xi_ok375_0 : xi_ok cX12_leastOf xi_375_0 = true := by decide +kernel
def xi_375_1 : XIs := [(29, .iload_n 2, 1), (30, .if_icmp .eq 8, 3), (33, .iload 4, 2), (35, .goto 4, 3), (38, .iload_n 3, 1), (39, .istore_n 3, 1), (40, .iinc 4 (-1), 3), (43, .goto (-32), 3), (46, .iload_n 3, 1), (47, .ireturn, 1)]
set_option maxRecDepth 100000 in
theorem xi_ok375_1 : xi_ok cX12_leastOf xi_375_1 = true := by decide +kernel
def xi_375 (pc : Nat) : XIs := cond (Nat.blt pc 29) (xi_375_0) (xi_375_1)
theorem xi_ok375 (pc : Nat) : xi_ok cX12_leastOf (xi_375 pc) = true := xi_c (xi_ok375_0) (xi_ok375_1)
def xi_376 (pc : Nat) : XIs := []
theorem xi_ok376 (pc : Nat) : xi_ok cX12_bestGroup (xi_376 pc) = true := rfl
def xi_377 (pc : Nat) : XIs := []
theorem xi_ok377 (pc : Nat) : xi_ok cX12_freeGroup (xi_377 pc) = true := rfl
def xi_378_0 : XIs := [(0, .aload_n 0, 1), (1, .aload_n 0, 1), (2, .iload_n 1, 1), (3, .invokevirtual 349, 3), (6, .invokevirtual 334, 3), (9, .ifCond .eq 5, 3), (12, .iconst 0, 1), (13, .ireturn, 1), (14, .aload_n 0, 1), (15, .invokevirtual 612, 3), (18, .aload_n 0, 1), (19, .aload_n 0, 1), (20, .getfield 193, 3), (23, .iload_n 1, 1), (24, .iaload, 1), (25, .iconst (-1), 1)]
set_option maxRecDepth 100000 in
theorem xi_ok378_0 : xi_ok cX12_group xi_378_0 = true := by decide +kernel
def xi_378_1 : XIs := [(26, .invokevirtual 606, 3), (29, .ireturn, 1)]
set_option maxRecDepth 100000 in
theorem xi_ok378_1 : xi_ok cX12_group xi_378_1 = true := by decide +kernel
def xi_378 (pc : Nat) : XIs := cond (Nat.blt pc 26) (xi_378_0) (xi_378_1)
theorem xi_ok378 (pc : Nat) : xi_ok cX12_group (xi_378 pc) = true := xi_c (xi_ok378_0) (xi_ok378_1)
def xi_379_0 : XIs := [(0, .aload_n 0, 1), (1, .iconst 0, 1), (2, .putfield 278, 3), (5, .aload_n 0, 1), (6, .invokevirtual 612, 3), (9, .lconst 0, 1), (10, .lstore_n 1, 1), (11, .iconst 0, 1), (12, .istore_n 3, 1), (13, .iload_n 3, 1), (14, .aload_n 0, 1), (15, .getfield 285, 3), (18, .if_icmp .ge 23, 3), (21, .lload_n 1, 1), (22, .aload_n 0, 1), (23, .iload_n 3, 1)]
set_option maxRecDepth 100000 in
theorem xi_ok379_0 : xi_ok cX12_gain xi_379_0 = true := by decide +kernel
def xi_379_1 : XIs := [(24, .aload_n 0, 1), (25, .getfield 193, 3), (28, .iload_n 3, 1), (29, .iaload, 1), (30, .invokevirtual 603, 3), (33, .ladd, 1), (34, .lstore_n 1, 1), (35, .iinc 3 1, 3), (38, .goto (-25), 3), (41, .lload_n 1, 1), (42, .lreturn, 1)]
set_option maxRecDepth 100000 in
theorem xi_ok379_1 : xi_ok cX12_gain xi_379_1 = true := by decide +kernel
def xi_379 (pc : Nat) : XIs := cond (Nat.blt pc 24) (xi_379_0) (xi_379_1)
theorem xi_ok379 (pc : Nat) : xi_ok cX12_gain (xi_379 pc) = true := xi_c (xi_ok379_0) (xi_ok379_1)
def xi_380_0 : XIs := [(0, .aload_n 0, 1), (1, .iload_n 1, 1), (2, .i2l, 1), (3, .lconst 0, 1), (4, .lconst 1, 1), (5, .invokestatic 308, 3), (8, .invokevirtual 334, 3), (11, .ifCond .eq 5, 3), (14, .lconst 0, 1), (15, .lreturn, 1), (16, .aload_n 0, 1), (17, .invokevirtual 485, 3), (20, .lconst 0, 1), (21, .lstore_n 2, 1), (22, .iconst 0, 1), (23, .istore 4, 2)]
set_option maxRecDepth 100000 in
theorem xi_ok380_0 : xi_ok cX12_figures xi_380_0 = true := by decide +kernel
def xi_380_1 : XIs := [(25, .iload 4, 2), (27, .aload_n 0, 1), (28, .getfield 285, 3), (31, .if_icmp .ge 94, 3), (34, .iload 4, 2), (36, .iconst 1, 1), (37, .iadd, 1), (38, .istore 5, 2), (40, .iload 5, 2), (42, .aload_n 0, 1), (43, .getfield 285, 3), (46, .if_icmp .ge 73, 3), (49, .aload_n 0, 1), (50, .getfield 100, 3), (53, .iload 4, 2), (55, .iaload, 1)]
set_option maxRecDepth 100000 in
theorem xi_ok380_1 : xi_ok cX12_figures xi_380_1 = true := by decide +kernel
def xi_380_2 : XIs := [(56, .aload_n 0, 1), (57, .getfield 100, 3), (60, .iload 5, 2), (62, .iaload, 1), (63, .iand, 1), (64, .invokestatic 488, 3), (67, .i2l, 1), (68, .lstore 6, 2), (70, .lload_n 2, 1), (71, .iload_n 1, 1), (72, .iconst 1, 1), (73, .if_icmp .ne 17, 3), (76, .lload 6, 2), (78, .lload 6, 2), (80, .lconst 1, 1), (81, .lsub, 1)]
set_option maxRecDepth 100000 in
theorem xi_ok380_2 : xi_ok cX12_figures xi_380_2 = true := by decide +kernel
def xi_380_3 : XIs := [(82, .lmul, 1), (83, .ldc2_w 570, 3), (86, .ldiv, 1), (87, .goto 24, 3), (90, .aload_n 0, 1), (91, .getfield 100, 3), (94, .iload 4, 2), (96, .iaload, 1), (97, .iload 5, 2), (99, .invokestatic 427, 3), (102, .ifCond .eq 8, 3), (105, .lload 6, 2), (107, .goto 4, 3), (110, .lconst 0, 1), (111, .ladd, 1), (112, .lstore_n 2, 1)]
set_option maxRecDepth 100000 in
theorem xi_ok380_3 : xi_ok cX12_figures xi_380_3 = true := by decide +kernel
def xi_380_4 : XIs := [(113, .iinc 5 1, 3), (116, .goto (-76), 3), (119, .iinc 4 1, 3), (122, .goto (-97), 3), (125, .iload_n 1, 1), (126, .ifCond .ne 11, 3), (129, .lload_n 2, 1), (130, .ldc2_w 338, 3), (133, .ldiv, 1), (134, .goto 8, 3), (137, .lload_n 2, 1), (138, .ldc2_w 570, 3), (141, .ldiv, 1), (142, .lreturn, 1)]
set_option maxRecDepth 100000 in
theorem xi_ok380_4 : xi_ok cX12_figures xi_380_4 = true := by decide +kernel
def xi_380 (pc : Nat) : XIs := cond (Nat.blt pc 56) (cond (Nat.blt pc 25) (xi_380_0) (xi_380_1)) (cond (Nat.blt pc 82) (xi_380_2) (cond (Nat.blt pc 113) (xi_380_3) (xi_380_4)))
theorem xi_ok380 (pc : Nat) : xi_ok cX12_figures (xi_380 pc) = true := xi_c (xi_c (xi_ok380_0) (xi_ok380_1)) (xi_c (xi_ok380_2) (xi_c (xi_ok380_3) (xi_ok380_4)))
def xi_381_0 : XIs := [(0, .aload_n 0, 1), (1, .getfield 218, 3), (4, .aload_n 0, 1), (5, .getfield 615, 3), (8, .iconst 0, 1), (9, .bastore, 1), (10, .aload_n 0, 1), (11, .getfield 221, 3), (14, .aload_n 0, 1), (15, .getfield 615, 3), (18, .iconst 0, 1), (19, .bastore, 1), (20, .aload_n 0, 1), (21, .getfield 224, 3), (24, .aload_n 0, 1), (25, .getfield 615, 3)]
set_option maxRecDepth 100000 in
theorem xi_ok381_0 : xi_ok cX12_beginAlternative xi_381_0 = true := by decide +kernel
def xi_381_1 : XIs := [(28, .lconst 0, 1), (29, .lastore, 1), (30, .aload_n 0, 1), (31, .getfield 227, 3), (34, .aload_n 0, 1), (35, .getfield 615, 3), (38, .lconst 0, 1), (39, .lastore, 1), (40, .aload_n 0, 1), (41, .invokevirtual 618, 3), (44, .return_, 1)]
set_option maxRecDepth 100000 in
theorem xi_ok381_1 : xi_ok cX12_beginAlternative xi_381_1 = true := by decide +kernel
def xi_381 (pc : Nat) : XIs := cond (Nat.blt pc 28) (xi_381_0) (xi_381_1)
theorem xi_ok381 (pc : Nat) : xi_ok cX12_beginAlternative (xi_381 pc) = true := xi_c (xi_ok381_0) (xi_ok381_1)
def xi_382_0 : XIs := [(0, .aload_n 0, 1), (1, .getfield 230, 3), (4, .aload_n 0, 1), (5, .getfield 615, 3), (8, .iconst 1, 1), (9, .bastore, 1), (10, .aload_n 0, 1), (11, .getfield 233, 3), (14, .aload_n 0, 1), (15, .getfield 615, 3), (18, .lconst 0, 1), (19, .lastore, 1), (20, .aload_n 0, 1), (21, .getfield 236, 3), (24, .aload_n 0, 1), (25, .getfield 615, 3)]
set_option maxRecDepth 100000 in
theorem xi_ok382_0 : xi_ok cX12_beginSequence xi_382_0 = true := by decide +kernel
def xi_382_1 : XIs := [(28, .lconst 0, 1), (29, .lastore, 1), (30, .aload_n 0, 1), (31, .iconst 0, 1), (32, .putfield 621, 3), (35, .aload_n 0, 1), (36, .iconst 0, 1), (37, .putfield 624, 3), (40, .return_, 1)]
set_option maxRecDepth 100000 in
theorem xi_ok382_1 : xi_ok cX12_beginSequence xi_382_1 = true := by decide +kernel
def xi_382 (pc : Nat) : XIs := cond (Nat.blt pc 28) (xi_382_0) (xi_382_1)
theorem xi_ok382 (pc : Nat) : xi_ok cX12_beginSequence (xi_382 pc) = true := xi_c (xi_ok382_0) (xi_ok382_1)
def xi_383_0 : XIs := [(0, .iconst 0, 1), (1, .istore 5, 2), (3, .iload 5, 2), (5, .bipush 60, 2), (7, .if_icmp .ge 35, 3), (10, .aload_n 0, 1), (11, .getfield 215, 3), (14, .iload 5, 2), (16, .dup2, 1), (17, .laload, 1), (18, .lload_n 1, 1), (19, .iload 5, 2), (21, .lshr, 1), (22, .lconst 1, 1), (23, .land, 1), (24, .lconst 1, 1)]
set_option maxRecDepth 100000 in
theorem xi_ok383_0 : xi_ok cX12_follow xi_383_0 = true := by decide +kernel
def xi_383_1 : XIs := [(25, .lcmp, 1), (26, .ifCond .ne 7, 3), (29, .lload_n 3, 1), (30, .goto 4, 3), (33, .lconst 0, 1), (34, .lor, 1), (35, .lastore, 1), (36, .iinc 5 1, 3), (39, .goto (-36), 3), (42, .return_, 1)]
set_option maxRecDepth 100000 in
theorem xi_ok383_1 : xi_ok cX12_follow xi_383_1 = true := by decide +kernel
def xi_383 (pc : Nat) : XIs := cond (Nat.blt pc 25) (xi_383_0) (xi_383_1)
theorem xi_ok383 (pc : Nat) : xi_ok cX12_follow (xi_383 pc) = true := xi_c (xi_ok383_0) (xi_ok383_1)
def xi_384_0 : XIs := [(0, .aload_n 0, 1), (1, .getfield 621, 3), (4, .ifCond .eq 119, 3), (7, .aload_n 0, 1), (8, .aload_n 0, 1), (9, .getfield 236, 3), (12, .aload_n 0, 1), (13, .getfield 615, 3), (16, .laload, 1), (17, .aload_n 0, 1), (18, .getfield 627, 3), (21, .invokevirtual 630, 3), (24, .aload_n 0, 1), (25, .getfield 233, 3), (28, .aload_n 0, 1), (29, .getfield 615, 3)]
set_option maxRecDepth 100000 in
theorem xi_ok384_0 : xi_ok cX12_flush xi_384_0 = true := by decide +kernel
def xi_384_1 : XIs := [(32, .dup2, 1), (33, .laload, 1), (34, .aload_n 0, 1), (35, .getfield 230, 3), (38, .aload_n 0, 1), (39, .getfield 615, 3), (42, .baload, 1), (43, .ifCond .eq 10, 3), (46, .aload_n 0, 1), (47, .getfield 627, 3), (50, .goto 4, 3), (53, .lconst 0, 1), (54, .lor, 1), (55, .lastore, 1), (56, .aload_n 0, 1), (57, .getfield 236, 3)]
set_option maxRecDepth 100000 in
theorem xi_ok384_1 : xi_ok cX12_flush xi_384_1 = true := by decide +kernel
def xi_384_2 : XIs := [(60, .aload_n 0, 1), (61, .getfield 615, 3), (64, .aload_n 0, 1), (65, .getfield 634, 3), (68, .aload_n 0, 1), (69, .getfield 637, 3), (72, .ifCond .eq 15, 3), (75, .aload_n 0, 1), (76, .getfield 236, 3), (79, .aload_n 0, 1), (80, .getfield 615, 3), (83, .laload, 1), (84, .goto 4, 3), (87, .lconst 0, 1), (88, .lor, 1), (89, .lastore, 1)]
set_option maxRecDepth 100000 in
theorem xi_ok384_2 : xi_ok cX12_flush xi_384_2 = true := by decide +kernel
def xi_384_3 : XIs := [(90, .aload_n 0, 1), (91, .getfield 230, 3), (94, .aload_n 0, 1), (95, .getfield 615, 3), (98, .aload_n 0, 1), (99, .getfield 230, 3), (102, .aload_n 0, 1), (103, .getfield 615, 3), (106, .baload, 1), (107, .ifCond .eq 14, 3), (110, .aload_n 0, 1), (111, .getfield 637, 3), (114, .ifCond .eq 7, 3), (117, .iconst 1, 1), (118, .goto 4, 3), (121, .iconst 0, 1)]
set_option maxRecDepth 100000 in
theorem xi_ok384_3 : xi_ok cX12_flush xi_384_3 = true := by decide +kernel
def xi_384_4 : XIs := [(122, .bastore, 1), (123, .aload_n 0, 1), (124, .iconst 0, 1), (125, .putfield 621, 3), (128, .aload_n 0, 1), (129, .iconst 0, 1), (130, .putfield 624, 3), (133, .return_, 1)]
set_option maxRecDepth 100000 in
theorem xi_ok384_4 : xi_ok cX12_flush xi_384_4 = true := by decide +kernel
def xi_384 (pc : Nat) : XIs := cond (Nat.blt pc 60) (cond (Nat.blt pc 32) (xi_384_0) (xi_384_1)) (cond (Nat.blt pc 90) (xi_384_2) (cond (Nat.blt pc 122) (xi_384_3) (xi_384_4)))
theorem xi_ok384 (pc : Nat) : xi_ok cX12_flush (xi_384 pc) = true := xi_c (xi_c (xi_ok384_0) (xi_ok384_1)) (xi_c (xi_ok384_2) (xi_c (xi_ok384_3) (xi_ok384_4)))
def xi_385_0 : XIs := [(0, .aload_n 0, 1), (1, .invokevirtual 640, 3), (4, .aload_n 0, 1), (5, .getfield 218, 3), (8, .aload_n 0, 1), (9, .getfield 615, 3), (12, .iconst 1, 1), (13, .bastore, 1), (14, .aload_n 0, 1), (15, .getfield 221, 3), (18, .aload_n 0, 1), (19, .getfield 615, 3), (22, .aload_n 0, 1), (23, .getfield 221, 3), (26, .aload_n 0, 1), (27, .getfield 615, 3)]
set_option maxRecDepth 100000 in
theorem xi_ok385_0 : xi_ok cX12_endSequence xi_385_0 = true := by decide +kernel
def xi_385_1 : XIs := [(30, .baload, 1), (31, .ifCond .ne 15, 3), (34, .aload_n 0, 1), (35, .getfield 230, 3), (38, .aload_n 0, 1), (39, .getfield 615, 3), (42, .baload, 1), (43, .ifCond .eq 7, 3), (46, .iconst 1, 1), (47, .goto 4, 3), (50, .iconst 0, 1), (51, .bastore, 1), (52, .aload_n 0, 1), (53, .getfield 224, 3), (56, .aload_n 0, 1), (57, .getfield 615, 3)]
set_option maxRecDepth 100000 in
theorem xi_ok385_1 : xi_ok cX12_endSequence xi_385_1 = true := by decide +kernel
def xi_385_2 : XIs := [(60, .dup2, 1), (61, .laload, 1), (62, .aload_n 0, 1), (63, .getfield 233, 3), (66, .aload_n 0, 1), (67, .getfield 615, 3), (70, .laload, 1), (71, .lor, 1), (72, .lastore, 1), (73, .aload_n 0, 1), (74, .getfield 227, 3), (77, .aload_n 0, 1), (78, .getfield 615, 3), (81, .dup2, 1), (82, .laload, 1), (83, .aload_n 0, 1)]
set_option maxRecDepth 100000 in
theorem xi_ok385_2 : xi_ok cX12_endSequence xi_385_2 = true := by decide +kernel
def xi_385_3 : XIs := [(84, .getfield 236, 3), (87, .aload_n 0, 1), (88, .getfield 615, 3), (91, .laload, 1), (92, .lor, 1), (93, .lastore, 1), (94, .return_, 1)]
set_option maxRecDepth 100000 in
theorem xi_ok385_3 : xi_ok cX12_endSequence xi_385_3 = true := by decide +kernel
def xi_385 (pc : Nat) : XIs := cond (Nat.blt pc 60) (cond (Nat.blt pc 30) (xi_385_0) (xi_385_1)) (cond (Nat.blt pc 84) (xi_385_2) (xi_385_3))
theorem xi_ok385 (pc : Nat) : xi_ok cX12_endSequence (xi_385 pc) = true := xi_c (xi_c (xi_ok385_0) (xi_ok385_1)) (xi_c (xi_ok385_2) (xi_ok385_3))
def xi_386 (pc : Nat) : XIs := []
theorem xi_ok386 (pc : Nat) : xi_ok cX12_pattern (xi_386 pc) = true := rfl
def xi_387_0 : XIs := [(0, .aload_n 0, 1), (1, .iconst 1, 1), (2, .putfield 621, 3), (5, .aload_n 0, 1), (6, .iconst 1, 1), (7, .putfield 624, 3), (10, .aload_n 0, 1), (11, .iload_n 1, 1), (12, .putfield 637, 3), (15, .aload_n 0, 1), (16, .lload_n 2, 1), (17, .putfield 627, 3), (20, .aload_n 0, 1), (21, .lload 4, 2), (23, .putfield 634, 3), (26, .return_, 1)]
set_option maxRecDepth 100000 in
theorem xi_ok387_0 : xi_ok cX12_setAtom xi_387_0 = true := by decide +kernel
def xi_387 (pc : Nat) : XIs := xi_387_0
theorem xi_ok387 (pc : Nat) : xi_ok cX12_setAtom (xi_387 pc) = true := xi_ok387_0
def xi_388 (pc : Nat) : XIs := []
theorem xi_ok388 (pc : Nat) : xi_ok cX12_sign (xi_388 pc) = true := rfl
def xi_389 (pc : Nat) : XIs := []
theorem xi_ok389 (pc : Nat) : xi_ok cX12_fits (xi_389 pc) = true := rfl
def xi_390 (pc : Nat) : XIs := []
theorem xi_ok390 (pc : Nat) : xi_ok cX12_goOn (xi_390 pc) = true := rfl
def xi_391_0 : XIs := [(0, .aload_n 0, 1), (1, .getfield 248, 3), (4, .iconst 1, 1), (5, .iconst 1, 1), (6, .iastore, 1), (7, .aload_n 0, 1), (8, .getfield 248, 3), (11, .iconst 2, 1), (12, .iconst 2, 1), (13, .iastore, 1), (14, .return_, 1)]
set_option maxRecDepth 100000 in
theorem xi_ok391_0 : xi_ok cX12_program0 xi_391_0 = true := by decide +kernel
def xi_391 (pc : Nat) : XIs := xi_391_0
theorem xi_ok391 (pc : Nat) : xi_ok cX12_program0 (xi_391 pc) = true := xi_ok391_0
def xi_392_0 : XIs := [(0, .aload_n 0, 1), (1, .getfield 365, 3), (4, .aload_n 0, 1), (5, .getfield 356, 3), (8, .if_icmp .ge 30, 3), (11, .aload_n 0, 1), (12, .getfield 60, 3), (15, .aload_n 0, 1), (16, .getfield 365, 3), (19, .iaload, 1), (20, .bipush 32, 2), (22, .if_icmp .ne 16, 3), (25, .aload_n 0, 1), (26, .dup, 1), (27, .getfield 365, 3), (30, .iconst 1, 1)]
set_option maxRecDepth 100000 in
theorem xi_ok392_0 : xi_ok cX12_nextOfProgram xi_392_0 = true := by decide +kernel
def xi_392_1 : XIs := [(31, .iadd, 1), (32, .putfield 365, 3), (35, .goto (-35), 3), (38, .aload_n 0, 1), (39, .aload_n 0, 1), (40, .getfield 365, 3), (43, .putfield 368, 3), (46, .aload_n 0, 1), (47, .getfield 365, 3), (50, .aload_n 0, 1), (51, .getfield 356, 3), (54, .if_icmp .ne 9, 3), (57, .aload_n 0, 1), (58, .iconst 0, 1), (59, .putfield 371, 3), (62, .return_, 1)]
set_option maxRecDepth 100000 in
theorem xi_ok392_1 : xi_ok cX12_nextOfProgram xi_392_1 = true := by decide +kernel
def xi_392_2 : XIs := [(63, .aload_n 0, 1), (64, .getfield 60, 3), (67, .aload_n 0, 1), (68, .getfield 365, 3), (71, .iaload, 1), (72, .istore_n 1, 1), (73, .aload_n 0, 1), (74, .iload_n 1, 1), (75, .putfield 374, 3), (78, .iload_n 1, 1), (79, .invokestatic 377, 3), (82, .ifCond .eq 15, 3), (85, .aload_n 0, 1), (86, .iconst 2, 1), (87, .putfield 371, 3), (90, .aload_n 0, 1)]
set_option maxRecDepth 100000 in
theorem xi_ok392_2 : xi_ok cX12_nextOfProgram xi_392_2 = true := by decide +kernel
def xi_392_3 : XIs := [(91, .bipush 6, 2), (93, .invokevirtual 380, 3), (96, .return_, 1), (97, .aload_n 0, 1), (98, .iload_n 1, 1), (99, .invokestatic 388, 3), (102, .ifCond .eq 7, 3), (105, .iconst 1, 1), (106, .goto 4, 3), (109, .iconst 3, 1), (110, .putfield 371, 3), (113, .aload_n 0, 1), (114, .dup, 1), (115, .getfield 365, 3), (118, .iconst 1, 1), (119, .iadd, 1)]
set_option maxRecDepth 100000 in
theorem xi_ok392_3 : xi_ok cX12_nextOfProgram xi_392_3 = true := by decide +kernel
def xi_392_4 : XIs := [(120, .putfield 365, 3), (123, .iload_n 1, 1), (124, .bipush 59, 2), (126, .if_icmp .eq 45, 3), (129, .iload_n 1, 1), (130, .bipush 60, 2), (132, .if_icmp .eq 39, 3), (135, .iload_n 1, 1), (136, .bipush 61, 2), (138, .if_icmp .eq 33, 3), (141, .iload_n 1, 1), (142, .bipush 43, 2), (144, .if_icmp .eq 27, 3), (147, .iload_n 1, 1), (148, .bipush 45, 2), (150, .if_icmp .eq 21, 3)]
set_option maxRecDepth 100000 in
theorem xi_ok392_4 : xi_ok cX12_nextOfProgram xi_392_4 = true := by decide +kernel
def xi_392_5 : XIs := [(153, .iload_n 1, 1), (154, .bipush 42, 2), (156, .if_icmp .eq 15, 3), (159, .iload_n 1, 1), (160, .bipush 40, 2), (162, .if_icmp .eq 9, 3), (165, .iload_n 1, 1), (166, .bipush 41, 2), (168, .if_icmp .ne 7, 3), (171, .iconst 1, 1), (172, .goto 4, 3), (175, .iconst 0, 1), (176, .istore_n 2, 1), (177, .aload_n 0, 1), (178, .getfield 371, 3), (181, .iconst 3, 1)]
set_option maxRecDepth 100000 in
theorem xi_ok392_5 : xi_ok cX12_nextOfProgram xi_392_5 = true := by decide +kernel
def xi_392_6 : XIs := [(182, .if_icmp .ne 16, 3), (185, .iload_n 2, 1), (186, .ifCond .ne 12, 3), (189, .aload_n 0, 1), (190, .iconst 1, 1), (191, .aload_n 0, 1), (192, .getfield 368, 3), (195, .invokevirtual 391, 3), (198, .return_, 1)]
set_option maxRecDepth 100000 in
theorem xi_ok392_6 : xi_ok cX12_nextOfProgram xi_392_6 = true := by decide +kernel
def xi_392 (pc : Nat) : XIs := cond (Nat.blt pc 91) (cond (Nat.blt pc 31) (xi_392_0) (cond (Nat.blt pc 63) (xi_392_1) (xi_392_2))) (cond (Nat.blt pc 153) (cond (Nat.blt pc 120) (xi_392_3) (xi_392_4)) (cond (Nat.blt pc 182) (xi_392_5) (xi_392_6)))
theorem xi_ok392 (pc : Nat) : xi_ok cX12_nextOfProgram (xi_392 pc) = true := xi_c (xi_c (xi_ok392_0) (xi_c (xi_ok392_1) (xi_ok392_2))) (xi_c (xi_c (xi_ok392_3) (xi_ok392_4)) (xi_c (xi_ok392_5) (xi_ok392_6)))
def xi_393_0 : XIs := [(0, .aload_n 0, 1), (1, .getfield 251, 3), (4, .aload_n 0, 1), (5, .getfield 669, 3), (8, .iload_n 1, 1), (9, .iastore, 1), (10, .aload_n 0, 1), (11, .getfield 254, 3), (14, .aload_n 0, 1), (15, .getfield 669, 3), (18, .iload_n 2, 1), (19, .iastore, 1), (20, .aload_n 0, 1), (21, .dup, 1), (22, .getfield 669, 3), (25, .iconst 1, 1)]
set_option maxRecDepth 100000 in
theorem xi_ok393_0 : xi_ok cX12_add xi_393_0 = true := by decide +kernel
def xi_393_1 : XIs := [(26, .iadd, 1), (27, .putfield 669, 3), (30, .return_, 1)]
set_option maxRecDepth 100000 in
theorem xi_ok393_1 : xi_ok cX12_add xi_393_1 = true := by decide +kernel
def xi_393 (pc : Nat) : XIs := cond (Nat.blt pc 26) (xi_393_0) (xi_393_1)
theorem xi_ok393 (pc : Nat) : xi_ok cX12_add (xi_393 pc) = true := xi_c (xi_ok393_0) (xi_ok393_1)
def xi_394_0 : XIs := [(0, .iload_n 0, 1), (1, .tableswitch 120 100 120 #[105, 120, 120, 117, 120, 107, 120, 120, 103, 114, 101, 120, 120, 120, 109, 111, 120, 120, 120, 120, 99], 99), (100, .iconst 0, 1), (101, .ireturn, 1), (102, .iconst 1, 1), (103, .ireturn, 1), (104, .iconst 2, 1), (105, .ireturn, 1), (106, .iconst 3, 1), (107, .ireturn, 1), (108, .iconst 4, 1), (109, .ireturn, 1), (110, .iconst 5, 1), (111, .ireturn, 1), (112, .bipush 6, 2), (114, .ireturn, 1)]
set_option maxRecDepth 100000 in
theorem xi_ok394_0 : xi_ok cX12_nameOf xi_394_0 = true := by decide +kernel
def xi_394_1 : XIs := [(115, .bipush 7, 2), (117, .ireturn, 1), (118, .bipush 8, 2), (120, .ireturn, 1), (121, .iconst (-1), 1), (122, .ireturn, 1)]
set_option maxRecDepth 100000 in
theorem xi_ok394_1 : xi_ok cX12_nameOf xi_394_1 = true := by decide +kernel
def xi_394 (pc : Nat) : XIs := cond (Nat.blt pc 115) (xi_394_0) (xi_394_1)
theorem xi_ok394 (pc : Nat) : xi_ok cX12_nameOf (xi_394 pc) = true := xi_c (xi_ok394_0) (xi_ok394_1)
def xi_395_0 : XIs := [(0, .aload_n 0, 1), (1, .getfield 672, 3), (4, .ifCond .ne 7, 3), (7, .iconst 0, 1), (8, .goto 14, 3), (11, .aload_n 0, 1), (12, .getfield 260, 3), (15, .aload_n 0, 1), (16, .getfield 672, 3), (19, .iconst 1, 1), (20, .isub, 1), (21, .iaload, 1), (22, .ireturn, 1)]
set_option maxRecDepth 100000 in
theorem xi_ok395_0 : xi_ok cX12_top xi_395_0 = true := by decide +kernel
def xi_395 (pc : Nat) : XIs := xi_395_0
theorem xi_ok395 (pc : Nat) : xi_ok cX12_top (xi_395 pc) = true := xi_ok395_0
def xi_396_0 : XIs := [(0, .aload_n 0, 1), (1, .getfield 260, 3), (4, .aload_n 0, 1), (5, .getfield 672, 3), (8, .iload_n 1, 1), (9, .iastore, 1), (10, .aload_n 0, 1), (11, .dup, 1), (12, .getfield 672, 3), (15, .iconst 1, 1), (16, .iadd, 1), (17, .putfield 672, 3), (20, .aload_n 0, 1), (21, .dup, 1), (22, .getfield 675, 3), (25, .iload_n 1, 1)]
set_option maxRecDepth 100000 in
theorem xi_ok396_0 : xi_ok cX12_hold xi_396_0 = true := by decide +kernel
def xi_396_1 : XIs := [(26, .iconst 2, 1), (27, .if_icmp .eq 9, 3), (30, .iload_n 1, 1), (31, .bipush 40, 2), (33, .if_icmp .ne 7, 3), (36, .iconst 1, 1), (37, .goto 4, 3), (40, .iconst 0, 1), (41, .iadd, 1), (42, .putfield 675, 3), (45, .return_, 1)]
set_option maxRecDepth 100000 in
theorem xi_ok396_1 : xi_ok cX12_hold xi_396_1 = true := by decide +kernel
def xi_396 (pc : Nat) : XIs := cond (Nat.blt pc 26) (xi_396_0) (xi_396_1)
theorem xi_ok396 (pc : Nat) : xi_ok cX12_hold (xi_396 pc) = true := xi_c (xi_ok396_0) (xi_ok396_1)
def xi_397_0 : XIs := [(0, .aload_n 0, 1), (1, .dup, 1), (2, .getfield 672, 3), (5, .iconst 1, 1), (6, .isub, 1), (7, .putfield 672, 3), (10, .aload_n 0, 1), (11, .dup, 1), (12, .getfield 675, 3), (15, .aload_n 0, 1), (16, .getfield 260, 3), (19, .aload_n 0, 1), (20, .getfield 672, 3), (23, .iaload, 1), (24, .iconst 2, 1), (25, .if_icmp .eq 17, 3)]
set_option maxRecDepth 100000 in
theorem xi_ok397_0 : xi_ok cX12_drop xi_397_0 = true := by decide +kernel
def xi_397_1 : XIs := [(28, .aload_n 0, 1), (29, .getfield 260, 3), (32, .aload_n 0, 1), (33, .getfield 672, 3), (36, .iaload, 1), (37, .bipush 40, 2), (39, .if_icmp .ne 7, 3), (42, .iconst 1, 1), (43, .goto 4, 3), (46, .iconst 0, 1), (47, .isub, 1), (48, .putfield 675, 3), (51, .return_, 1)]
set_option maxRecDepth 100000 in
theorem xi_ok397_1 : xi_ok cX12_drop xi_397_1 = true := by decide +kernel
def xi_397 (pc : Nat) : XIs := cond (Nat.blt pc 28) (xi_397_0) (xi_397_1)
theorem xi_ok397 (pc : Nat) : xi_ok cX12_drop (xi_397 pc) = true := xi_c (xi_ok397_0) (xi_ok397_1)
def xi_398_0 : XIs := [(0, .iload_n 0, 1), (1, .bipush 42, 2), (3, .if_icmp .ne 7, 3), (6, .iconst 3, 1), (7, .goto 36, 3), (10, .iload_n 0, 1), (11, .bipush 43, 2), (13, .if_icmp .eq 9, 3), (16, .iload_n 0, 1), (17, .bipush 45, 2), (19, .if_icmp .ne 7, 3), (22, .iconst 2, 1), (23, .goto 20, 3), (26, .iload_n 0, 1), (27, .bipush 60, 2), (29, .if_icmp .eq 9, 3)]
set_option maxRecDepth 100000 in
theorem xi_ok398_0 : xi_ok cX12_strength xi_398_0 = true := by decide +kernel
def xi_398_1 : XIs := [(32, .iload_n 0, 1), (33, .bipush 61, 2), (35, .if_icmp .ne 7, 3), (38, .iconst 1, 1), (39, .goto 4, 3), (42, .iconst 0, 1), (43, .ireturn, 1)]
set_option maxRecDepth 100000 in
theorem xi_ok398_1 : xi_ok cX12_strength xi_398_1 = true := by decide +kernel
def xi_398 (pc : Nat) : XIs := cond (Nat.blt pc 32) (xi_398_0) (xi_398_1)
theorem xi_ok398 (pc : Nat) : xi_ok cX12_strength (xi_398 pc) = true := xi_c (xi_ok398_0) (xi_ok398_1)
def xi_399 (pc : Nat) : XIs := []
theorem xi_ok399 (pc : Nat) : xi_ok cX12_settle (xi_399 pc) = true := rfl
def xi_400 (pc : Nat) : XIs := []
theorem xi_ok400 (pc : Nat) : xi_ok cX12_turn (xi_400 pc) = true := rfl
def xi_401 (pc : Nat) : XIs := []
theorem xi_ok401 (pc : Nat) : xi_ok cX12_factor (xi_401 pc) = true := rfl
def xi_402 (pc : Nat) : XIs := []
theorem xi_ok402 (pc : Nat) : xi_ok cX12_behindFactor (xi_402 pc) = true := rfl
def xi_403 (pc : Nat) : XIs := []
theorem xi_ok403 (pc : Nat) : xi_ok cX12_expression (xi_403 pc) = true := rfl
def xi_404_0 : XIs := [(0, .aload_n 0, 1), (1, .iconst 0, 1), (2, .putfield 278, 3), (5, .aload_n 0, 1), (6, .iconst 0, 1), (7, .putfield 359, 3), (10, .aload_n 0, 1), (11, .getfield 356, 3), (14, .bipush 120, 2), (16, .if_icmp .le 13, 3), (19, .aload_n 0, 1), (20, .iconst 2, 1), (21, .bipush 120, 2), (23, .invokevirtual 391, 3), (26, .bipush (-4), 2), (28, .ireturn, 1)]
set_option maxRecDepth 100000 in
theorem xi_ok404_0 : xi_ok cX12_program xi_404_0 = true := by decide +kernel
def xi_404_1 : XIs := [(29, .aload_n 0, 1), (30, .iconst 0, 1), (31, .putfield 365, 3), (34, .aload_n 0, 1), (35, .iconst 0, 1), (36, .putfield 669, 3), (39, .aload_n 0, 1), (40, .iconst 1, 1), (41, .invokevirtual 712, 3), (44, .aload_n 0, 1), (45, .getfield 257, 3), (48, .iconst 1, 1), (49, .aload_n 0, 1), (50, .getfield 669, 3), (53, .iastore, 1), (54, .aload_n 0, 1)]
set_option maxRecDepth 100000 in
theorem xi_ok404_1 : xi_ok cX12_program xi_404_1 = true := by decide +kernel
def xi_404_2 : XIs := [(55, .getfield 359, 3), (58, .ifCond .ne 8, 3), (61, .aload_n 0, 1), (62, .iconst 0, 1), (63, .invokevirtual 712, 3), (66, .aload_n 0, 1), (67, .getfield 257, 3), (70, .iconst 2, 1), (71, .aload_n 0, 1), (72, .getfield 669, 3), (75, .iastore, 1), (76, .aload_n 0, 1), (77, .getfield 359, 3), (80, .ifCond .le 6, 3), (83, .bipush (-4), 2), (85, .ireturn, 1)]
set_option maxRecDepth 100000 in
theorem xi_ok404_2 : xi_ok cX12_program xi_404_2 = true := by decide +kernel
def xi_404_3 : XIs := [(86, .iconst 0, 1), (87, .istore_n 1, 1), (88, .iload_n 1, 1), (89, .aload_n 0, 1), (90, .getfield 669, 3), (93, .if_icmp .ge 33, 3), (96, .aload_n 0, 1), (97, .getfield 242, 3), (100, .iload_n 1, 1), (101, .aload_n 0, 1), (102, .getfield 251, 3), (105, .iload_n 1, 1), (106, .iaload, 1), (107, .iastore, 1), (108, .aload_n 0, 1), (109, .getfield 245, 3)]
set_option maxRecDepth 100000 in
theorem xi_ok404_3 : xi_ok cX12_program xi_404_3 = true := by decide +kernel
def xi_404_4 : XIs := [(112, .iload_n 1, 1), (113, .aload_n 0, 1), (114, .getfield 254, 3), (117, .iload_n 1, 1), (118, .iaload, 1), (119, .iastore, 1), (120, .iinc 1 1, 3), (123, .goto (-35), 3), (126, .aload_n 0, 1), (127, .getfield 248, 3), (130, .iconst 1, 1), (131, .aload_n 0, 1), (132, .getfield 257, 3), (135, .iconst 1, 1), (136, .iaload, 1), (137, .iastore, 1)]
set_option maxRecDepth 100000 in
theorem xi_ok404_4 : xi_ok cX12_program xi_404_4 = true := by decide +kernel
def xi_404_5 : XIs := [(138, .aload_n 0, 1), (139, .getfield 248, 3), (142, .iconst 2, 1), (143, .aload_n 0, 1), (144, .getfield 257, 3), (147, .iconst 2, 1), (148, .iaload, 1), (149, .iastore, 1), (150, .iconst 0, 1), (151, .ireturn, 1)]
set_option maxRecDepth 100000 in
theorem xi_ok404_5 : xi_ok cX12_program xi_404_5 = true := by decide +kernel
def xi_404 (pc : Nat) : XIs := cond (Nat.blt pc 86) (cond (Nat.blt pc 29) (xi_404_0) (cond (Nat.blt pc 55) (xi_404_1) (xi_404_2))) (cond (Nat.blt pc 112) (xi_404_3) (cond (Nat.blt pc 138) (xi_404_4) (xi_404_5)))
theorem xi_ok404 (pc : Nat) : xi_ok cX12_program (xi_404 pc) = true := xi_c (xi_c (xi_ok404_0) (xi_c (xi_ok404_1) (xi_ok404_2))) (xi_c (xi_ok404_3) (xi_c (xi_ok404_4) (xi_ok404_5)))
def xi_405_0 : XIs := [(0, .lload_n 0, 1), (1, .ldc2_w 584, 3), (4, .lcmp, 1), (5, .ifCond .le 9, 3), (8, .ldc2_w 584, 3), (11, .goto 18, 3), (14, .lload_n 0, 1), (15, .ldc2_w 716, 3), (18, .lcmp, 1), (19, .ifCond .ge 9, 3), (22, .ldc2_w 716, 3), (25, .goto 4, 3), (28, .lload_n 0, 1), (29, .lreturn, 1)]
set_option maxRecDepth 100000 in
theorem xi_ok405_0 : xi_ok cX12_fit xi_405_0 = true := by decide +kernel
def xi_405 (pc : Nat) : XIs := xi_405_0
theorem xi_ok405 (pc : Nat) : xi_ok cX12_fit (xi_405 pc) = true := xi_ok405_0
def xi_406 (pc : Nat) : XIs := []
theorem xi_ok406 (pc : Nat) : xi_ok cX12_product (xi_406 pc) = true := rfl
def xi_407_0 : XIs := [(0, .aload_n 0, 1), (1, .getfield 272, 3), (4, .iconst 0, 1), (5, .aload_n 0, 1), (6, .getfield 263, 3), (9, .iload_n 1, 1), (10, .laload, 1), (11, .lastore, 1), (12, .aload_n 0, 1), (13, .getfield 272, 3), (16, .iconst 1, 1), (17, .iload_n 1, 1), (18, .i2l, 1), (19, .lastore, 1), (20, .aload_n 0, 1), (21, .getfield 272, 3)]
set_option maxRecDepth 100000 in
theorem xi_ok407_0 : xi_ok cX12_nameAll xi_407_0 = true := by decide +kernel
def xi_407_1 : XIs := [(24, .iconst 2, 1), (25, .aload_n 0, 1), (26, .getfield 13, 3), (29, .bipush 32, 2), (31, .aload_n 0, 1), (32, .getfield 301, 3), (35, .imul, 1), (36, .iload_n 1, 1), (37, .iadd, 1), (38, .iaload, 1), (39, .i2l, 1), (40, .lastore, 1), (41, .aload_n 0, 1), (42, .getfield 272, 3), (45, .iconst 3, 1), (46, .lconst 0, 1)]
set_option maxRecDepth 100000 in
theorem xi_ok407_1 : xi_ok cX12_nameAll xi_407_1 = true := by decide +kernel
def xi_407_2 : XIs := [(47, .lastore, 1), (48, .aload_n 0, 1), (49, .getfield 272, 3), (52, .iconst 4, 1), (53, .lconst 0, 1), (54, .lastore, 1), (55, .aload_n 0, 1), (56, .getfield 272, 3), (59, .iconst 5, 1), (60, .iload_n 2, 1), (61, .i2l, 1), (62, .lastore, 1), (63, .aload_n 0, 1), (64, .getfield 272, 3), (67, .bipush 6, 2), (69, .lconst 0, 1)]
set_option maxRecDepth 100000 in
theorem xi_ok407_2 : xi_ok cX12_nameAll xi_407_2 = true := by decide +kernel
def xi_407_3 : XIs := [(70, .lastore, 1), (71, .aload_n 0, 1), (72, .getfield 272, 3), (75, .bipush 7, 2), (77, .ldc2_w 584, 3), (80, .lastore, 1), (81, .aload_n 0, 1), (82, .getfield 272, 3), (85, .bipush 8, 2), (87, .ldc2_w 716, 3), (90, .lastore, 1), (91, .aload_n 0, 1), (92, .getfield 288, 3), (95, .istore_n 3, 1), (96, .iload_n 3, 1), (97, .aload_n 0, 1)]
set_option maxRecDepth 100000 in
theorem xi_ok407_3 : xi_ok cX12_nameAll xi_407_3 = true := by decide +kernel
def xi_407_4 : XIs := [(98, .getfield 288, 3), (101, .sipush 160, 3), (104, .iadd, 1), (105, .if_icmp .ge 171, 3), (108, .aload_n 0, 1), (109, .getfield 16, 3), (112, .iload_n 3, 1), (113, .baload, 1), (114, .ifCond .eq 23, 3), (117, .aload_n 0, 1), (118, .getfield 20, 3), (121, .iload_n 3, 1), (122, .iaload, 1), (123, .iload_n 1, 1), (124, .if_icmp .ne 13, 3), (127, .aload_n 0, 1)]
set_option maxRecDepth 100000 in
theorem xi_ok407_4 : xi_ok cX12_nameAll xi_407_4 = true := by decide +kernel
def xi_407_5 : XIs := [(128, .getfield 272, 3), (131, .iconst 3, 1), (132, .dup2, 1), (133, .laload, 1), (134, .lconst 1, 1), (135, .ladd, 1), (136, .lastore, 1), (137, .aload_n 0, 1), (138, .getfield 16, 3), (141, .iload_n 3, 1), (142, .baload, 1), (143, .ifCond .eq 127, 3), (146, .aload_n 0, 1), (147, .getfield 23, 3), (150, .iload_n 3, 1), (151, .iaload, 1)]
set_option maxRecDepth 100000 in
theorem xi_ok407_5 : xi_ok cX12_nameAll xi_407_5 = true := by decide +kernel
def xi_407_6 : XIs := [(152, .iload_n 1, 1), (153, .if_icmp .ne 117, 3), (156, .aload_n 0, 1), (157, .getfield 263, 3), (160, .aload_n 0, 1), (161, .getfield 20, 3), (164, .iload_n 3, 1), (165, .iaload, 1), (166, .laload, 1), (167, .lstore 4, 2), (169, .lload 4, 2), (171, .aload_n 0, 1), (172, .getfield 26, 3), (175, .iload_n 3, 1), (176, .iaload, 1), (177, .i2l, 1)]
set_option maxRecDepth 100000 in
theorem xi_ok407_6 : xi_ok cX12_nameAll xi_407_6 = true := by decide +kernel
def xi_407_7 : XIs := [(178, .ladd, 1), (179, .invokestatic 718, 3), (182, .lstore 6, 2), (184, .aload_n 0, 1), (185, .getfield 272, 3), (188, .iconst 4, 1), (189, .dup2, 1), (190, .laload, 1), (191, .lconst 1, 1), (192, .ladd, 1), (193, .lastore, 1), (194, .aload_n 0, 1), (195, .getfield 272, 3), (198, .bipush 6, 2), (200, .dup2, 1), (201, .laload, 1)]
set_option maxRecDepth 100000 in
theorem xi_ok407_7 : xi_ok cX12_nameAll xi_407_7 = true := by decide +kernel
def xi_407_8 : XIs := [(202, .lload 4, 2), (204, .ladd, 1), (205, .lastore, 1), (206, .aload_n 0, 1), (207, .getfield 272, 3), (210, .bipush 7, 2), (212, .lload 6, 2), (214, .aload_n 0, 1), (215, .getfield 272, 3), (218, .bipush 7, 2), (220, .laload, 1), (221, .lcmp, 1), (222, .ifCond .ge 8, 3), (225, .lload 6, 2), (227, .goto 10, 3), (230, .aload_n 0, 1)]
set_option maxRecDepth 100000 in
theorem xi_ok407_8 : xi_ok cX12_nameAll xi_407_8 = true := by decide +kernel
def xi_407_9 : XIs := [(231, .getfield 272, 3), (234, .bipush 7, 2), (236, .laload, 1), (237, .lastore, 1), (238, .aload_n 0, 1), (239, .getfield 272, 3), (242, .bipush 8, 2), (244, .lload 6, 2), (246, .aload_n 0, 1), (247, .getfield 272, 3), (250, .bipush 8, 2), (252, .laload, 1), (253, .lcmp, 1), (254, .ifCond .le 8, 3), (257, .lload 6, 2), (259, .goto 10, 3)]
set_option maxRecDepth 100000 in
theorem xi_ok407_9 : xi_ok cX12_nameAll xi_407_9 = true := by decide +kernel
def xi_407_10 : XIs := [(262, .aload_n 0, 1), (263, .getfield 272, 3), (266, .bipush 8, 2), (268, .laload, 1), (269, .lastore, 1), (270, .iinc 3 1, 3), (273, .goto (-177), 3), (276, .aload_n 0, 1), (277, .getfield 272, 3), (280, .bipush 6, 2), (282, .aload_n 0, 1), (283, .getfield 272, 3), (286, .bipush 6, 2), (288, .laload, 1), (289, .invokestatic 718, 3), (292, .lastore, 1)]
set_option maxRecDepth 100000 in
theorem xi_ok407_10 : xi_ok cX12_nameAll xi_407_10 = true := by decide +kernel
def xi_407_11 : XIs := [(293, .return_, 1)]
set_option maxRecDepth 100000 in
theorem xi_ok407_11 : xi_ok cX12_nameAll xi_407_11 = true := by decide +kernel
def xi_407 (pc : Nat) : XIs := cond (Nat.blt pc 152) (cond (Nat.blt pc 70) (cond (Nat.blt pc 24) (xi_407_0) (cond (Nat.blt pc 47) (xi_407_1) (xi_407_2))) (cond (Nat.blt pc 98) (xi_407_3) (cond (Nat.blt pc 128) (xi_407_4) (xi_407_5)))) (cond (Nat.blt pc 231) (cond (Nat.blt pc 178) (xi_407_6) (cond (Nat.blt pc 202) (xi_407_7) (xi_407_8))) (cond (Nat.blt pc 262) (xi_407_9) (cond (Nat.blt pc 293) (xi_407_10) (xi_407_11))))
theorem xi_ok407 (pc : Nat) : xi_ok cX12_nameAll (xi_407 pc) = true := xi_c (xi_c (xi_c (xi_ok407_0) (xi_c (xi_ok407_1) (xi_ok407_2))) (xi_c (xi_ok407_3) (xi_c (xi_ok407_4) (xi_ok407_5)))) (xi_c (xi_c (xi_ok407_6) (xi_c (xi_ok407_7) (xi_ok407_8))) (xi_c (xi_ok407_9) (xi_c (xi_ok407_10) (xi_ok407_11))))
def xi_408 (pc : Nat) : XIs := []
theorem xi_ok408 (pc : Nat) : xi_ok cX12_workOut (xi_408 pc) = true := rfl
def xi_409 (pc : Nat) : XIs := []
theorem xi_ok409 (pc : Nat) : xi_ok cX12_run (xi_409 pc) = true := rfl
def xi_410_0 : XIs := [(0, .iconst 0, 1), (1, .istore 4, 2), (3, .aload_n 0, 1), (4, .getfield 288, 3), (7, .istore 5, 2), (9, .iload 5, 2), (11, .aload_n 0, 1), (12, .getfield 288, 3), (15, .sipush 160, 3), (18, .iadd, 1), (19, .if_icmp .ge 55, 3), (22, .iload 4, 2), (24, .ifCond .ne 37, 3), (27, .aload_n 0, 1), (28, .getfield 16, 3), (31, .iload 5, 2)]
set_option maxRecDepth 100000 in
theorem xi_ok410_0 : xi_ok cX12_goesTo xi_410_0 = true := by decide +kernel
def xi_410_1 : XIs := [(33, .baload, 1), (34, .ifCond .eq 31, 3), (37, .aload_n 0, 1), (38, .getfield 20, 3), (41, .iload 5, 2), (43, .iaload, 1), (44, .iload_n 1, 1), (45, .if_icmp .ne 20, 3), (48, .aload_n 0, 1), (49, .getfield 23, 3), (52, .iload 5, 2), (54, .iaload, 1), (55, .iload_n 3, 1), (56, .irem, 1), (57, .iload_n 2, 1), (58, .if_icmp .ne 7, 3)]
set_option maxRecDepth 100000 in
theorem xi_ok410_1 : xi_ok cX12_goesTo xi_410_1 = true := by decide +kernel
def xi_410_2 : XIs := [(61, .iconst 1, 1), (62, .goto 4, 3), (65, .iconst 0, 1), (66, .istore 4, 2), (68, .iinc 5 1, 3), (71, .goto (-62), 3), (74, .iload 4, 2), (76, .ifCond .eq 14, 3), (79, .iload_n 1, 1), (80, .iload_n 3, 1), (81, .irem, 1), (82, .iload_n 2, 1), (83, .if_icmp .eq 7, 3), (86, .iconst 1, 1), (87, .goto 4, 3), (90, .iconst 0, 1)]
set_option maxRecDepth 100000 in
theorem xi_ok410_2 : xi_ok cX12_goesTo xi_410_2 = true := by decide +kernel
def xi_410_3 : XIs := [(91, .ireturn, 1)]
set_option maxRecDepth 100000 in
theorem xi_ok410_3 : xi_ok cX12_goesTo xi_410_3 = true := by decide +kernel
def xi_410 (pc : Nat) : XIs := cond (Nat.blt pc 61) (cond (Nat.blt pc 33) (xi_410_0) (xi_410_1)) (cond (Nat.blt pc 91) (xi_410_2) (xi_410_3))
theorem xi_ok410 (pc : Nat) : xi_ok cX12_goesTo (xi_410 pc) = true := xi_c (xi_c (xi_ok410_0) (xi_ok410_1)) (xi_c (xi_ok410_2) (xi_ok410_3))
def xi_411 (pc : Nat) : XIs := []
theorem xi_ok411 (pc : Nat) : xi_ok cX12_send (xi_411 pc) = true := rfl
def xi_412_0 : XIs := [(0, .aload_n 0, 1), (1, .iload_n 1, 1), (2, .ifCond .lt 15, 3), (5, .iload_n 1, 1), (6, .aload_n 0, 1), (7, .getfield 729, 3), (10, .if_icmp .ge 7, 3), (13, .iconst 1, 1), (14, .goto 4, 3), (17, .iconst 0, 1), (18, .invokevirtual 334, 3), (21, .ifCond .eq 7, 3), (24, .lconst 0, 1), (25, .goto 9, 3), (28, .aload_n 0, 1), (29, .getfield 263, 3)]
set_option maxRecDepth 100000 in
theorem xi_ok412_0 : xi_ok cX12_state xi_412_0 = true := by decide +kernel
def xi_412_1 : XIs := [(32, .iload_n 1, 1), (33, .laload, 1), (34, .lreturn, 1)]
set_option maxRecDepth 100000 in
theorem xi_ok412_1 : xi_ok cX12_state xi_412_1 = true := by decide +kernel
def xi_412 (pc : Nat) : XIs := cond (Nat.blt pc 32) (xi_412_0) (xi_412_1)
theorem xi_ok412 (pc : Nat) : xi_ok cX12_state (xi_412 pc) = true := xi_c (xi_ok412_0) (xi_ok412_1)
def xi_413_0 : XIs := [(0, .aload_n 0, 1), (1, .iload_n 1, 1), (2, .i2l, 1), (3, .lconst 0, 1), (4, .ldc2_w 570, 3), (7, .invokestatic 308, 3), (10, .invokevirtual 334, 3), (13, .ifCond .eq 5, 3), (16, .iconst 0, 1), (17, .ireturn, 1), (18, .iload_n 1, 1), (19, .ifCond .ne 10, 3), (22, .aload_n 0, 1), (23, .getfield 732, 3), (26, .goto 19, 3), (29, .iload_n 1, 1)]
set_option maxRecDepth 100000 in
theorem xi_ok413_0 : xi_ok cX12_letters xi_413_0 = true := by decide +kernel
def xi_413_1 : XIs := [(30, .iconst 1, 1), (31, .if_icmp .ne 10, 3), (34, .aload_n 0, 1), (35, .getfield 735, 3), (38, .goto 7, 3), (41, .aload_n 0, 1), (42, .getfield 738, 3), (45, .ireturn, 1)]
set_option maxRecDepth 100000 in
theorem xi_ok413_1 : xi_ok cX12_letters xi_413_1 = true := by decide +kernel
def xi_413 (pc : Nat) : XIs := cond (Nat.blt pc 30) (xi_413_0) (xi_413_1)
theorem xi_ok413 (pc : Nat) : xi_ok cX12_letters (xi_413 pc) = true := xi_c (xi_ok413_0) (xi_ok413_1)
def xi_414_0 : XIs := [(0, .iload_n 0, 1), (1, .iload_n 0, 1), (2, .iconst 1, 1), (3, .iushr, 1), (4, .ldc_w 265, 3), (7, .iand, 1), (8, .isub, 1), (9, .istore_n 0, 1), (10, .iload_n 0, 1), (11, .ldc_w 266, 3), (14, .iand, 1), (15, .iload_n 0, 1), (16, .iconst 2, 1), (17, .iushr, 1), (18, .ldc_w 266, 3), (21, .iand, 1)]
set_option maxRecDepth 100000 in
theorem xi_ok414_0 : xi_ok cJ6_bitCount_0f7a4 xi_414_0 = true := by decide +kernel
def xi_414_1 : XIs := [(22, .iadd, 1), (23, .istore_n 0, 1), (24, .iload_n 0, 1), (25, .iload_n 0, 1), (26, .iconst 4, 1), (27, .iushr, 1), (28, .iadd, 1), (29, .ldc_w 267, 3), (32, .iand, 1), (33, .istore_n 0, 1), (34, .iload_n 0, 1), (35, .iload_n 0, 1), (36, .bipush 8, 2), (38, .iushr, 1), (39, .iadd, 1), (40, .istore_n 0, 1)]
set_option maxRecDepth 100000 in
theorem xi_ok414_1 : xi_ok cJ6_bitCount_0f7a4 xi_414_1 = true := by decide +kernel
def xi_414_2 : XIs := [(41, .iload_n 0, 1), (42, .iload_n 0, 1), (43, .bipush 16, 2), (45, .iushr, 1), (46, .iadd, 1), (47, .istore_n 0, 1), (48, .iload_n 0, 1), (49, .bipush 63, 2), (51, .iand, 1), (52, .ireturn, 1)]
set_option maxRecDepth 100000 in
theorem xi_ok414_2 : xi_ok cJ6_bitCount_0f7a4 xi_414_2 = true := by decide +kernel
def xi_414 (pc : Nat) : XIs := cond (Nat.blt pc 22) (xi_414_0) (cond (Nat.blt pc 41) (xi_414_1) (xi_414_2))
theorem xi_ok414 (pc : Nat) : xi_ok cJ6_bitCount_0f7a4 (xi_414 pc) = true := xi_c (xi_ok414_0) (xi_c (xi_ok414_1) (xi_ok414_2))
def xi_415_0 : XIs := [(0, .lload_n 0, 1), (1, .lload_n 0, 1), (2, .iconst 1, 1), (3, .lushr, 1), (4, .ldc2_w 314, 3), (7, .land, 1), (8, .lsub, 1), (9, .lstore_n 0, 1), (10, .lload_n 0, 1), (11, .ldc2_w 316, 3), (14, .land, 1), (15, .lload_n 0, 1), (16, .iconst 2, 1), (17, .lushr, 1), (18, .ldc2_w 316, 3), (21, .land, 1)]
set_option maxRecDepth 100000 in
theorem xi_ok415_0 : xi_ok cJ13_bitCount_95d88 xi_415_0 = true := by decide +kernel
def xi_415_1 : XIs := [(22, .ladd, 1), (23, .lstore_n 0, 1), (24, .lload_n 0, 1), (25, .lload_n 0, 1), (26, .iconst 4, 1), (27, .lushr, 1), (28, .ladd, 1), (29, .ldc2_w 318, 3), (32, .land, 1), (33, .lstore_n 0, 1), (34, .lload_n 0, 1), (35, .lload_n 0, 1), (36, .bipush 8, 2), (38, .lushr, 1), (39, .ladd, 1), (40, .lstore_n 0, 1)]
set_option maxRecDepth 100000 in
theorem xi_ok415_1 : xi_ok cJ13_bitCount_95d88 xi_415_1 = true := by decide +kernel
def xi_415_2 : XIs := [(41, .lload_n 0, 1), (42, .lload_n 0, 1), (43, .bipush 16, 2), (45, .lushr, 1), (46, .ladd, 1), (47, .lstore_n 0, 1), (48, .lload_n 0, 1), (49, .lload_n 0, 1), (50, .bipush 32, 2), (52, .lushr, 1), (53, .ladd, 1), (54, .lstore_n 0, 1), (55, .lload_n 0, 1), (56, .l2i, 1), (57, .bipush 127, 2), (59, .iand, 1)]
set_option maxRecDepth 100000 in
theorem xi_ok415_2 : xi_ok cJ13_bitCount_95d88 xi_415_2 = true := by decide +kernel
def xi_415_3 : XIs := [(60, .ireturn, 1)]
set_option maxRecDepth 100000 in
theorem xi_ok415_3 : xi_ok cJ13_bitCount_95d88 xi_415_3 = true := by decide +kernel
def xi_415 (pc : Nat) : XIs := cond (Nat.blt pc 41) (cond (Nat.blt pc 22) (xi_415_0) (xi_415_1)) (cond (Nat.blt pc 60) (xi_415_2) (xi_415_3))
theorem xi_ok415 (pc : Nat) : xi_ok cJ13_bitCount_95d88 (xi_415 pc) = true := xi_c (xi_c (xi_ok415_0) (xi_ok415_1)) (xi_c (xi_ok415_2) (xi_ok415_3))
def xi_416_0 : XIs := [(0, .iconst 0, 1), (1, .istore_n 3, 1), (2, .aload_n 0, 1), (3, .arraylength, 1), (4, .istore 4, 2), (6, .iload_n 3, 1), (7, .iload 4, 2), (9, .if_icmp .ge 13, 3), (12, .aload_n 0, 1), (13, .iload_n 3, 1), (14, .lload_n 1, 1), (15, .lastore, 1), (16, .iinc 3 1, 3), (19, .goto (-13), 3), (22, .return_, 1)]
set_option maxRecDepth 100000 in
theorem xi_ok416_0 : xi_ok cJ7_fill_d0a16 xi_416_0 = true := by decide +kernel
def xi_416 (pc : Nat) : XIs := xi_416_0
theorem xi_ok416 (pc : Nat) : xi_ok cJ7_fill_d0a16 (xi_416 pc) = true := xi_ok416_0
def xi_417_0 : XIs := [(0, .iconst 0, 1), (1, .istore_n 2, 1), (2, .aload_n 0, 1), (3, .arraylength, 1), (4, .istore_n 3, 1), (5, .iload_n 2, 1), (6, .iload_n 3, 1), (7, .if_icmp .ge 13, 3), (10, .aload_n 0, 1), (11, .iload_n 2, 1), (12, .iload_n 1, 1), (13, .iastore, 1), (14, .iinc 2 1, 3), (17, .goto (-12), 3), (20, .return_, 1)]
set_option maxRecDepth 100000 in
theorem xi_ok417_0 : xi_ok cJ7_fill_53178 xi_417_0 = true := by decide +kernel
def xi_417 (pc : Nat) : XIs := xi_417_0
theorem xi_ok417 (pc : Nat) : xi_ok cJ7_fill_53178 (xi_417 pc) = true := xi_ok417_0
