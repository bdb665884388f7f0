noncomputable def xi_285_0 : XIs := [(0, .aload_n 0, 1), (1, .aload_n 0, 1), (2, .iload_n 1, 1), (3, .invokevirtual 318, 3), (6, .ifCond .eq 19, 3), (9, .iload_n 2, 1), (10, .i2l, 1), (11, .lconst 0, 1), (12, .ldc2_w 312, 3), (15, .invokestatic 308, 3), (18, .ifCond .eq 7, 3), (21, .iconst 1, 1), (22, .goto 4, 3), (25, .iconst 0, 1), (26, .aload_n 0, 1), (27, .getfield 291, 3)]
noncomputable def xi_285_1 : XIs := [(30, .sipush 4000, 3), (33, .if_icmp .ge 7, 3), (36, .iconst 1, 1), (37, .goto 4, 3), (40, .iconst 0, 1), (41, .invokevirtual 281, 3), (44, .ifCond .eq 5, 3), (47, .iconst 0, 1), (48, .ireturn, 1), (49, .aload_n 0, 1), (50, .getfield 13, 3), (53, .iload_n 1, 1), (54, .iaload, 1), (55, .istore_n 3, 1), (56, .aload_n 0, 1), (57, .iconst 4, 1)]
noncomputable def xi_285_2 : XIs := [(58, .iload_n 1, 1), (59, .iload_n 2, 1), (60, .iconst 0, 1), (61, .iconst 0, 1), (62, .iconst 0, 1), (63, .iconst 0, 1), (64, .invokevirtual 314, 3), (67, .iload_n 3, 1), (68, .ireturn, 1)]
set_option maxRecDepth 100000 in
theorem xi_w285 : xi_ok cX12_label (xi_285_0 ++ (xi_285_1 ++ (xi_285_2))) = true := dl_all _ _ (by decide +kernel)
theorem xi_ok285_0 : xi_ok cX12_label xi_285_0 = true := (xi_ap xi_w285).1
theorem xi_r285_1 : xi_ok cX12_label (xi_285_1 ++ (xi_285_2)) = true := (xi_ap xi_w285).2
theorem xi_ok285_1 : xi_ok cX12_label xi_285_1 = true := (xi_ap xi_r285_1).1
theorem xi_r285_2 : xi_ok cX12_label (xi_285_2) = true := (xi_ap xi_r285_1).2
theorem xi_ok285_2 : xi_ok cX12_label xi_285_2 = true := xi_r285_2
noncomputable def xi_285 (pc : Nat) : XIs := cond (Nat.blt pc 30) (xi_285_0) (cond (Nat.blt pc 58) (xi_285_1) (xi_285_2))
theorem xi_ok285 (pc : Nat) : xi_ok cX12_label (xi_285 pc) = true := xi_c (xi_ok285_0) (xi_c (xi_ok285_1) (xi_ok285_2))
noncomputable def xi_286_0 : XIs := [(0, .aload_n 0, 1), (1, .iload_n 1, 1), (2, .i2l, 1), (3, .ldc2_w 332, 3), (6, .aload_n 0, 1), (7, .getfield 291, 3), (10, .i2l, 1), (11, .invokestatic 308, 3), (14, .invokevirtual 334, 3), (17, .ifCond .eq 5, 3), (20, .iconst 0, 1), (21, .ireturn, 1), (22, .aload_n 0, 1), (23, .iload_n 1, 1), (24, .putfield 56, 3), (27, .iload_n 1, 1)]
noncomputable def xi_286_1 : XIs := [(28, .ifCond .lt 55, 3), (31, .aload_n 0, 1), (32, .getfield 7, 3), (35, .iconst 1, 1), (36, .iconst 0, 1), (37, .iastore, 1), (38, .iconst 0, 1), (39, .istore_n 2, 1), (40, .iload_n 2, 1), (41, .sipush 160, 3), (44, .if_icmp .ge 20, 3), (47, .aload_n 0, 1), (48, .getfield 16, 3), (51, .sipush 160, 3), (54, .iload_n 2, 1), (55, .iadd, 1)]
noncomputable def xi_286_2 : XIs := [(56, .iconst 0, 1), (57, .bastore, 1), (58, .iinc 2 1, 3), (61, .goto (-21), 3), (64, .iconst 0, 1), (65, .istore_n 2, 1), (66, .iload_n 2, 1), (67, .iload_n 1, 1), (68, .if_icmp .ge 15, 3), (71, .aload_n 0, 1), (72, .iload_n 2, 1), (73, .iconst 1, 1), (74, .invokevirtual 294, 3), (77, .iinc 2 1, 3), (80, .goto (-14), 3), (83, .aload_n 0, 1)]
noncomputable def xi_286_3 : XIs := [(84, .invokevirtual 298, 3), (87, .iload_n 1, 1), (88, .ifCond .ge 10, 3), (91, .aload_n 0, 1), (92, .getfield 291, 3), (95, .goto 4, 3), (98, .iload_n 1, 1), (99, .ireturn, 1)]
set_option maxRecDepth 100000 in
theorem xi_w286 : xi_ok cX12_view (xi_286_0 ++ (xi_286_1 ++ (xi_286_2 ++ (xi_286_3)))) = true := dl_all _ _ (by decide +kernel)
theorem xi_ok286_0 : xi_ok cX12_view xi_286_0 = true := (xi_ap xi_w286).1
theorem xi_r286_1 : xi_ok cX12_view (xi_286_1 ++ (xi_286_2 ++ (xi_286_3))) = true := (xi_ap xi_w286).2
theorem xi_ok286_1 : xi_ok cX12_view xi_286_1 = true := (xi_ap xi_r286_1).1
theorem xi_r286_2 : xi_ok cX12_view (xi_286_2 ++ (xi_286_3)) = true := (xi_ap xi_r286_1).2
theorem xi_ok286_2 : xi_ok cX12_view xi_286_2 = true := (xi_ap xi_r286_2).1
theorem xi_r286_3 : xi_ok cX12_view (xi_286_3) = true := (xi_ap xi_r286_2).2
theorem xi_ok286_3 : xi_ok cX12_view xi_286_3 = true := xi_r286_3
noncomputable def xi_286 (pc : Nat) : XIs := cond (Nat.blt pc 56) (cond (Nat.blt pc 28) (xi_286_0) (xi_286_1)) (cond (Nat.blt pc 84) (xi_286_2) (xi_286_3))
theorem xi_ok286 (pc : Nat) : xi_ok cX12_view (xi_286 pc) = true := xi_c (xi_c (xi_ok286_0) (xi_ok286_1)) (xi_c (xi_ok286_2) (xi_ok286_3))
noncomputable def xi_287_0 : XIs := [(0, .aload_n 0, 1), (1, .iconst 0, 1), (2, .putfield 278, 3), (5, .aload_n 0, 1), (6, .getfield 291, 3), (9, .ireturn, 1)]
set_option maxRecDepth 100000 in
theorem xi_w287 : xi_ok cX12_version (xi_287_0) = true := dl_all _ _ (by decide +kernel)
theorem xi_ok287_0 : xi_ok cX12_version xi_287_0 = true := xi_w287
noncomputable def xi_287 (pc : Nat) : XIs := xi_287_0
theorem xi_ok287 (pc : Nat) : xi_ok cX12_version (xi_287 pc) = true := xi_ok287_0
noncomputable def xi_288_0 : XIs := [(0, .aload_n 0, 1), (1, .getfield 16, 3), (4, .aload_n 0, 1), (5, .getfield 288, 3), (8, .iload_n 1, 1), (9, .iadd, 1), (10, .baload, 1), (11, .ifCond .eq 32, 3), (14, .aload_n 0, 1), (15, .getfield 20, 3), (18, .aload_n 0, 1), (19, .getfield 288, 3), (22, .iload_n 1, 1), (23, .iadd, 1), (24, .iaload, 1), (25, .aload_n 0, 1)]
noncomputable def xi_288_1 : XIs := [(26, .getfield 23, 3), (29, .aload_n 0, 1), (30, .getfield 288, 3), (33, .iload_n 1, 1), (34, .iadd, 1), (35, .iaload, 1), (36, .if_icmp .eq 7, 3), (39, .iconst 1, 1), (40, .goto 4, 3), (43, .iconst 0, 1), (44, .ireturn, 1)]
set_option maxRecDepth 100000 in
theorem xi_w288 : xi_ok cX12_isJoint (xi_288_0 ++ (xi_288_1)) = true := dl_all _ _ (by decide +kernel)
theorem xi_ok288_0 : xi_ok cX12_isJoint xi_288_0 = true := (xi_ap xi_w288).1
theorem xi_r288_1 : xi_ok cX12_isJoint (xi_288_1) = true := (xi_ap xi_w288).2
theorem xi_ok288_1 : xi_ok cX12_isJoint xi_288_1 = true := xi_r288_1
noncomputable def xi_288 (pc : Nat) : XIs := cond (Nat.blt pc 26) (xi_288_0) (xi_288_1)
theorem xi_ok288 (pc : Nat) : xi_ok cX12_isJoint (xi_288 pc) = true := xi_c (xi_ok288_0) (xi_ok288_1)
noncomputable def xi_289_0 : XIs := [(0, .aload_n 0, 1), (1, .iload_n 1, 1), (2, .i2l, 1), (3, .lconst 0, 1), (4, .ldc2_w 338, 3), (7, .invokestatic 308, 3), (10, .invokevirtual 334, 3), (13, .ifCond .eq 5, 3), (16, .iconst 0, 1), (17, .ireturn, 1), (18, .iconst 0, 1), (19, .istore_n 2, 1), (20, .iconst 0, 1), (21, .istore_n 3, 1), (22, .iconst (-1), 1), (23, .istore 4, 2)]
noncomputable def xi_289_1 : XIs := [(25, .iconst 0, 1), (26, .istore 5, 2), (28, .iload 5, 2), (30, .sipush 160, 3), (33, .if_icmp .ge 73, 3), (36, .iload_n 2, 1), (37, .aload_n 0, 1), (38, .getfield 16, 3), (41, .aload_n 0, 1), (42, .getfield 288, 3), (45, .iload 5, 2), (47, .iadd, 1), (48, .baload, 1), (49, .ifCond .eq 7, 3), (52, .iconst 1, 1), (53, .goto 4, 3)]
noncomputable def xi_289_2 : XIs := [(56, .iconst 0, 1), (57, .iadd, 1), (58, .istore_n 2, 1), (59, .iload_n 3, 1), (60, .aload_n 0, 1), (61, .iload 5, 2), (63, .invokevirtual 340, 3), (66, .ifCond .eq 7, 3), (69, .iconst 1, 1), (70, .goto 4, 3), (73, .iconst 0, 1), (74, .iadd, 1), (75, .istore_n 3, 1), (76, .aload_n 0, 1), (77, .getfield 16, 3), (80, .aload_n 0, 1)]
noncomputable def xi_289_3 : XIs := [(81, .getfield 288, 3), (84, .iload 5, 2), (86, .iadd, 1), (87, .baload, 1), (88, .ifCond .eq 8, 3), (91, .iload 5, 2), (93, .goto 5, 3), (96, .iload 4, 2), (98, .istore 4, 2), (100, .iinc 5 1, 3), (103, .goto (-75), 3), (106, .iload_n 1, 1), (107, .ifCond .ne 10, 3), (110, .aload_n 0, 1), (111, .getfield 285, 3), (114, .goto 23, 3)]
noncomputable def xi_289_4 : XIs := [(117, .iload_n 1, 1), (118, .iconst 1, 1), (119, .if_icmp .ne 7, 3), (122, .iload_n 2, 1), (123, .goto 14, 3), (126, .iload_n 1, 1), (127, .iconst 2, 1), (128, .if_icmp .ne 7, 3), (131, .iload_n 3, 1), (132, .goto 5, 3), (135, .iload 4, 2), (137, .ireturn, 1)]
set_option maxRecDepth 100000 in
theorem xi_w289 : xi_ok cX12_size (xi_289_0 ++ (xi_289_1 ++ (xi_289_2 ++ (xi_289_3 ++ (xi_289_4))))) = true := dl_all _ _ (by decide +kernel)
theorem xi_ok289_0 : xi_ok cX12_size xi_289_0 = true := (xi_ap xi_w289).1
theorem xi_r289_1 : xi_ok cX12_size (xi_289_1 ++ (xi_289_2 ++ (xi_289_3 ++ (xi_289_4)))) = true := (xi_ap xi_w289).2
theorem xi_ok289_1 : xi_ok cX12_size xi_289_1 = true := (xi_ap xi_r289_1).1
theorem xi_r289_2 : xi_ok cX12_size (xi_289_2 ++ (xi_289_3 ++ (xi_289_4))) = true := (xi_ap xi_r289_1).2
theorem xi_ok289_2 : xi_ok cX12_size xi_289_2 = true := (xi_ap xi_r289_2).1
theorem xi_r289_3 : xi_ok cX12_size (xi_289_3 ++ (xi_289_4)) = true := (xi_ap xi_r289_2).2
theorem xi_ok289_3 : xi_ok cX12_size xi_289_3 = true := (xi_ap xi_r289_3).1
theorem xi_r289_4 : xi_ok cX12_size (xi_289_4) = true := (xi_ap xi_r289_3).2
theorem xi_ok289_4 : xi_ok cX12_size xi_289_4 = true := xi_r289_4
noncomputable def xi_289 (pc : Nat) : XIs := cond (Nat.blt pc 56) (cond (Nat.blt pc 25) (xi_289_0) (xi_289_1)) (cond (Nat.blt pc 81) (xi_289_2) (cond (Nat.blt pc 117) (xi_289_3) (xi_289_4)))
theorem xi_ok289 (pc : Nat) : xi_ok cX12_size (xi_289 pc) = true := xi_c (xi_c (xi_ok289_0) (xi_ok289_1)) (xi_c (xi_ok289_2) (xi_c (xi_ok289_3) (xi_ok289_4)))
noncomputable def xi_290_0 : XIs := [(0, .aload_n 0, 1), (1, .iload_n 1, 1), (2, .i2l, 1), (3, .lconst 0, 1), (4, .ldc2_w 343, 3), (7, .invokestatic 308, 3), (10, .ifCond .eq 19, 3), (13, .iload_n 2, 1), (14, .i2l, 1), (15, .lconst 0, 1), (16, .ldc2_w 345, 3), (19, .invokestatic 308, 3), (22, .ifCond .eq 7, 3), (25, .iconst 1, 1), (26, .goto 4, 3), (29, .iconst 0, 1)]
noncomputable def xi_290_1 : XIs := [(30, .invokevirtual 334, 3), (33, .ifCond .eq 5, 3), (36, .lconst 0, 1), (37, .lreturn, 1), (38, .aload_n 0, 1), (39, .getfield 288, 3), (42, .iload_n 1, 1), (43, .iadd, 1), (44, .istore_n 3, 1), (45, .aload_n 0, 1), (46, .getfield 16, 3), (49, .iload_n 3, 1), (50, .baload, 1), (51, .ifCond .ne 7, 3), (54, .ldc2_w 347, 3), (57, .lreturn, 1)]
noncomputable def xi_290_2 : XIs := [(58, .iload_n 2, 1), (59, .ifCond .ne 13, 3), (62, .aload_n 0, 1), (63, .getfield 20, 3), (66, .iload_n 3, 1), (67, .iaload, 1), (68, .i2l, 1), (69, .goto 55, 3), (72, .iload_n 2, 1), (73, .iconst 1, 1), (74, .if_icmp .ne 13, 3), (77, .aload_n 0, 1), (78, .getfield 23, 3), (81, .iload_n 3, 1), (82, .iaload, 1), (83, .i2l, 1)]
noncomputable def xi_290_3 : XIs := [(84, .goto 40, 3), (87, .iload_n 2, 1), (88, .iconst 2, 1), (89, .if_icmp .ne 13, 3), (92, .aload_n 0, 1), (93, .getfield 26, 3), (96, .iload_n 3, 1), (97, .iaload, 1), (98, .i2l, 1), (99, .goto 25, 3), (102, .iload_n 2, 1), (103, .iconst 3, 1), (104, .if_icmp .ne 13, 3), (107, .aload_n 0, 1), (108, .getfield 29, 3), (111, .iload_n 3, 1)]
noncomputable def xi_290_4 : XIs := [(112, .iaload, 1), (113, .i2l, 1), (114, .goto 10, 3), (117, .aload_n 0, 1), (118, .getfield 32, 3), (121, .iload_n 3, 1), (122, .iaload, 1), (123, .i2l, 1), (124, .lreturn, 1)]
set_option maxRecDepth 100000 in
theorem xi_w290 : xi_ok cX12_told (xi_290_0 ++ (xi_290_1 ++ (xi_290_2 ++ (xi_290_3 ++ (xi_290_4))))) = true := dl_all _ _ (by decide +kernel)
theorem xi_ok290_0 : xi_ok cX12_told xi_290_0 = true := (xi_ap xi_w290).1
theorem xi_r290_1 : xi_ok cX12_told (xi_290_1 ++ (xi_290_2 ++ (xi_290_3 ++ (xi_290_4)))) = true := (xi_ap xi_w290).2
theorem xi_ok290_1 : xi_ok cX12_told xi_290_1 = true := (xi_ap xi_r290_1).1
theorem xi_r290_2 : xi_ok cX12_told (xi_290_2 ++ (xi_290_3 ++ (xi_290_4))) = true := (xi_ap xi_r290_1).2
theorem xi_ok290_2 : xi_ok cX12_told xi_290_2 = true := (xi_ap xi_r290_2).1
theorem xi_r290_3 : xi_ok cX12_told (xi_290_3 ++ (xi_290_4)) = true := (xi_ap xi_r290_2).2
theorem xi_ok290_3 : xi_ok cX12_told xi_290_3 = true := (xi_ap xi_r290_3).1
theorem xi_r290_4 : xi_ok cX12_told (xi_290_4) = true := (xi_ap xi_r290_3).2
theorem xi_ok290_4 : xi_ok cX12_told xi_290_4 = true := xi_r290_4
noncomputable def xi_290 (pc : Nat) : XIs := cond (Nat.blt pc 58) (cond (Nat.blt pc 30) (xi_290_0) (xi_290_1)) (cond (Nat.blt pc 84) (xi_290_2) (cond (Nat.blt pc 112) (xi_290_3) (xi_290_4)))
theorem xi_ok290 (pc : Nat) : xi_ok cX12_told (xi_290 pc) = true := xi_c (xi_c (xi_ok290_0) (xi_ok290_1)) (xi_c (xi_ok290_2) (xi_c (xi_ok290_3) (xi_ok290_4)))
noncomputable def xi_291_0 : XIs := [(0, .aload_n 0, 1), (1, .aload_n 0, 1), (2, .iload_n 1, 1), (3, .invokevirtual 349, 3), (6, .invokevirtual 334, 3), (9, .ifCond .eq 7, 3), (12, .iconst 0, 1), (13, .goto 17, 3), (16, .aload_n 0, 1), (17, .getfield 13, 3), (20, .bipush 32, 2), (22, .aload_n 0, 1), (23, .getfield 301, 3), (26, .imul, 1), (27, .iload_n 1, 1), (28, .iadd, 1)]
noncomputable def xi_291_1 : XIs := [(29, .iaload, 1), (30, .ireturn, 1)]
set_option maxRecDepth 100000 in
theorem xi_w291 : xi_ok cX12_labelOf (xi_291_0 ++ (xi_291_1)) = true := dl_all _ _ (by decide +kernel)
theorem xi_ok291_0 : xi_ok cX12_labelOf xi_291_0 = true := (xi_ap xi_w291).1
theorem xi_r291_1 : xi_ok cX12_labelOf (xi_291_1) = true := (xi_ap xi_w291).2
theorem xi_ok291_1 : xi_ok cX12_labelOf xi_291_1 = true := xi_r291_1
noncomputable def xi_291 (pc : Nat) : XIs := cond (Nat.blt pc 29) (xi_291_0) (xi_291_1)
theorem xi_ok291 (pc : Nat) : xi_ok cX12_labelOf (xi_291 pc) = true := xi_c (xi_ok291_0) (xi_ok291_1)
noncomputable def xi_292_0 : XIs := [(0, .aload_n 0, 1), (1, .aload_n 0, 1), (2, .iload_n 1, 1), (3, .invokevirtual 349, 3), (6, .ifCond .eq 21, 3), (9, .iload_n 2, 1), (10, .i2l, 1), (11, .lconst 0, 1), (12, .lconst 1, 1), (13, .invokestatic 308, 3), (16, .ifCond .eq 11, 3), (19, .iload_n 3, 1), (20, .ifCond .lt 7, 3), (23, .iconst 1, 1), (24, .goto 4, 3), (27, .iconst 0, 1)]
noncomputable def xi_292_1 : XIs := [(28, .invokevirtual 334, 3), (31, .ifCond .eq 5, 3), (34, .iconst 0, 1), (35, .ireturn, 1), (36, .iconst 0, 1), (37, .istore 4, 2), (39, .iconst 0, 1), (40, .istore 5, 2), (42, .iload 5, 2), (44, .sipush 160, 3), (47, .if_icmp .ge 71, 3), (50, .aload_n 0, 1), (51, .getfield 16, 3), (54, .aload_n 0, 1), (55, .getfield 288, 3), (58, .iload 5, 2)]
noncomputable def xi_292_2 : XIs := [(60, .iadd, 1), (61, .baload, 1), (62, .ifCond .eq 50, 3), (65, .iload_n 2, 1), (66, .ifCond .ne 18, 3), (69, .aload_n 0, 1), (70, .getfield 20, 3), (73, .aload_n 0, 1), (74, .getfield 288, 3), (77, .iload 5, 2), (79, .iadd, 1), (80, .iaload, 1), (81, .goto 15, 3), (84, .aload_n 0, 1), (85, .getfield 23, 3), (88, .aload_n 0, 1)]
noncomputable def xi_292_3 : XIs := [(89, .getfield 288, 3), (92, .iload 5, 2), (94, .iadd, 1), (95, .iaload, 1), (96, .iload_n 1, 1), (97, .if_icmp .ne 15, 3), (100, .iload 4, 2), (102, .iload_n 3, 1), (103, .if_icmp .ne 6, 3), (106, .iload 5, 2), (108, .ireturn, 1), (109, .iinc 4 1, 3), (112, .iinc 5 1, 3), (115, .goto (-73), 3), (118, .iconst (-1), 1), (119, .ireturn, 1)]
set_option maxRecDepth 100000 in
theorem xi_w292 : xi_ok cX12_arcAt (xi_292_0 ++ (xi_292_1 ++ (xi_292_2 ++ (xi_292_3)))) = true := dl_all _ _ (by decide +kernel)
theorem xi_ok292_0 : xi_ok cX12_arcAt xi_292_0 = true := (xi_ap xi_w292).1
theorem xi_r292_1 : xi_ok cX12_arcAt (xi_292_1 ++ (xi_292_2 ++ (xi_292_3))) = true := (xi_ap xi_w292).2
theorem xi_ok292_1 : xi_ok cX12_arcAt xi_292_1 = true := (xi_ap xi_r292_1).1
theorem xi_r292_2 : xi_ok cX12_arcAt (xi_292_2 ++ (xi_292_3)) = true := (xi_ap xi_r292_1).2
theorem xi_ok292_2 : xi_ok cX12_arcAt xi_292_2 = true := (xi_ap xi_r292_2).1
theorem xi_r292_3 : xi_ok cX12_arcAt (xi_292_3) = true := (xi_ap xi_r292_2).2
theorem xi_ok292_3 : xi_ok cX12_arcAt xi_292_3 = true := xi_r292_3
noncomputable def xi_292 (pc : Nat) : XIs := cond (Nat.blt pc 60) (cond (Nat.blt pc 28) (xi_292_0) (xi_292_1)) (cond (Nat.blt pc 89) (xi_292_2) (xi_292_3))
theorem xi_ok292 (pc : Nat) : xi_ok cX12_arcAt (xi_292 pc) = true := xi_c (xi_c (xi_ok292_0) (xi_ok292_1)) (xi_c (xi_ok292_2) (xi_ok292_3))
noncomputable def xi_293_0 : XIs := [(0, .aload_n 0, 1), (1, .iload_n 1, 1), (2, .i2l, 1), (3, .ldc2_w 352, 3), (6, .ldc2_w 354, 3), (9, .invokestatic 308, 3), (12, .aload_n 0, 1), (13, .getfield 356, 3), (16, .sipush 1000, 3), (19, .if_icmp .ge 7, 3), (22, .iconst 1, 1), (23, .goto 4, 3), (26, .iconst 0, 1), (27, .invokevirtual 281, 3), (30, .ifCond .eq 5, 3), (33, .iconst 0, 1)]
noncomputable def xi_293_1 : XIs := [(34, .ireturn, 1), (35, .aload_n 0, 1), (36, .getfield 60, 3), (39, .aload_n 0, 1), (40, .getfield 356, 3), (43, .iload_n 1, 1), (44, .iastore, 1), (45, .aload_n 0, 1), (46, .dup, 1), (47, .getfield 356, 3), (50, .iconst 1, 1), (51, .iadd, 1), (52, .putfield 356, 3), (55, .aload_n 0, 1), (56, .getfield 356, 3), (59, .ireturn, 1)]
set_option maxRecDepth 100000 in
theorem xi_w293 : xi_ok cX12_type (xi_293_0 ++ (xi_293_1)) = true := dl_all _ _ (by decide +kernel)
theorem xi_ok293_0 : xi_ok cX12_type xi_293_0 = true := (xi_ap xi_w293).1
theorem xi_r293_1 : xi_ok cX12_type (xi_293_1) = true := (xi_ap xi_w293).2
theorem xi_ok293_1 : xi_ok cX12_type xi_293_1 = true := xi_r293_1
noncomputable def xi_293 (pc : Nat) : XIs := cond (Nat.blt pc 34) (xi_293_0) (xi_293_1)
theorem xi_ok293 (pc : Nat) : xi_ok cX12_type (xi_293 pc) = true := xi_c (xi_ok293_0) (xi_ok293_1)
noncomputable def xi_294_0 : XIs := [(0, .aload_n 0, 1), (1, .iconst 0, 1), (2, .putfield 278, 3), (5, .aload_n 0, 1), (6, .getfield 356, 3), (9, .istore_n 1, 1), (10, .aload_n 0, 1), (11, .iconst 0, 1), (12, .putfield 356, 3), (15, .iload_n 1, 1), (16, .ireturn, 1)]
set_option maxRecDepth 100000 in
theorem xi_w294 : xi_ok cX12_wipe (xi_294_0) = true := dl_all _ _ (by decide +kernel)
theorem xi_ok294_0 : xi_ok cX12_wipe xi_294_0 = true := xi_w294
noncomputable def xi_294 (pc : Nat) : XIs := xi_294_0
theorem xi_ok294 (pc : Nat) : xi_ok cX12_wipe (xi_294 pc) = true := xi_ok294_0
noncomputable def xi_295_0 : XIs := [(0, .aload_n 0, 1), (1, .iload_n 1, 1), (2, .i2l, 1), (3, .lconst 0, 1), (4, .lconst 1, 1), (5, .invokestatic 308, 3), (8, .invokevirtual 334, 3), (11, .ifCond .eq 5, 3), (14, .iconst 0, 1), (15, .ireturn, 1), (16, .aload_n 0, 1), (17, .getfield 359, 3), (20, .ifCond .ne 7, 3), (23, .iconst (-1), 1), (24, .goto 18, 3), (27, .iload_n 1, 1)]
noncomputable def xi_295_1 : XIs := [(28, .ifCond .ne 10, 3), (31, .aload_n 0, 1), (32, .getfield 359, 3), (35, .goto 7, 3), (38, .aload_n 0, 1), (39, .getfield 362, 3), (42, .ireturn, 1)]
set_option maxRecDepth 100000 in
theorem xi_w295 : xi_ok cX12_fault (xi_295_0 ++ (xi_295_1)) = true := dl_all _ _ (by decide +kernel)
theorem xi_ok295_0 : xi_ok cX12_fault xi_295_0 = true := (xi_ap xi_w295).1
theorem xi_r295_1 : xi_ok cX12_fault (xi_295_1) = true := (xi_ap xi_w295).2
theorem xi_ok295_1 : xi_ok cX12_fault xi_295_1 = true := xi_r295_1
noncomputable def xi_295 (pc : Nat) : XIs := cond (Nat.blt pc 28) (xi_295_0) (xi_295_1)
theorem xi_ok295 (pc : Nat) : xi_ok cX12_fault (xi_295 pc) = true := xi_c (xi_ok295_0) (xi_ok295_1)
noncomputable def xi_296_0 : XIs := [(0, .iload_n 0, 1), (1, .bipush 97, 2), (3, .if_icmp .lt 13, 3), (6, .iload_n 0, 1), (7, .bipush 122, 2), (9, .if_icmp .gt 7, 3), (12, .iconst 1, 1), (13, .goto 4, 3), (16, .iconst 0, 1), (17, .ireturn, 1)]
set_option maxRecDepth 100000 in
theorem xi_w296 : xi_ok cX12_isLetter (xi_296_0) = true := dl_all _ _ (by decide +kernel)
theorem xi_ok296_0 : xi_ok cX12_isLetter xi_296_0 = true := xi_w296
noncomputable def xi_296 (pc : Nat) : XIs := xi_296_0
theorem xi_ok296 (pc : Nat) : xi_ok cX12_isLetter (xi_296 pc) = true := xi_ok296_0
noncomputable def xi_297_0 : XIs := [(0, .iload_n 0, 1), (1, .bipush 48, 2), (3, .if_icmp .lt 13, 3), (6, .iload_n 0, 1), (7, .bipush 57, 2), (9, .if_icmp .gt 7, 3), (12, .iconst 1, 1), (13, .goto 4, 3), (16, .iconst 0, 1), (17, .ireturn, 1)]
set_option maxRecDepth 100000 in
theorem xi_w297 : xi_ok cX12_isDigit (xi_297_0) = true := dl_all _ _ (by decide +kernel)
theorem xi_ok297_0 : xi_ok cX12_isDigit xi_297_0 = true := xi_w297
noncomputable def xi_297 (pc : Nat) : XIs := xi_297_0
theorem xi_ok297 (pc : Nat) : xi_ok cX12_isDigit (xi_297 pc) = true := xi_ok297_0
noncomputable def xi_298_0 : XIs := [(0, .aload_n 0, 1), (1, .getfield 359, 3), (4, .ifCond .ne 13, 3), (7, .aload_n 0, 1), (8, .iload_n 1, 1), (9, .putfield 359, 3), (12, .aload_n 0, 1), (13, .iload_n 2, 1), (14, .putfield 362, 3), (17, .return_, 1)]
set_option maxRecDepth 100000 in
theorem xi_w298 : xi_ok cX12_blame (xi_298_0) = true := dl_all _ _ (by decide +kernel)
theorem xi_ok298_0 : xi_ok cX12_blame xi_298_0 = true := xi_w298
noncomputable def xi_298 (pc : Nat) : XIs := xi_298_0
theorem xi_ok298 (pc : Nat) : xi_ok cX12_blame (xi_298 pc) = true := xi_ok298_0
noncomputable def xi_299_0 : XIs := [(0, .aload_n 0, 1), (1, .getfield 365, 3), (4, .aload_n 0, 1), (5, .getfield 356, 3), (8, .if_icmp .ge 30, 3), (11, .aload_n 0, 1), (12, .getfield 60, 3), (15, .aload_n 0, 1), (16, .getfield 365, 3), (19, .iaload, 1), (20, .bipush 32, 2), (22, .if_icmp .ne 16, 3), (25, .aload_n 0, 1), (26, .dup, 1), (27, .getfield 365, 3), (30, .iconst 1, 1)]
noncomputable def xi_299_1 : XIs := [(31, .iadd, 1), (32, .putfield 365, 3), (35, .goto (-35), 3), (38, .aload_n 0, 1), (39, .aload_n 0, 1), (40, .getfield 365, 3), (43, .putfield 368, 3), (46, .aload_n 0, 1), (47, .getfield 365, 3), (50, .aload_n 0, 1), (51, .getfield 356, 3), (54, .if_icmp .ne 9, 3), (57, .aload_n 0, 1), (58, .iconst 0, 1), (59, .putfield 371, 3), (62, .return_, 1)]
noncomputable def xi_299_2 : XIs := [(63, .aload_n 0, 1), (64, .getfield 60, 3), (67, .aload_n 0, 1), (68, .getfield 365, 3), (71, .iaload, 1), (72, .istore_n 1, 1), (73, .aload_n 0, 1), (74, .iload_n 1, 1), (75, .putfield 374, 3), (78, .iload_n 1, 1), (79, .bipush 45, 2), (81, .if_icmp .ne 37, 3), (84, .aload_n 0, 1), (85, .getfield 365, 3), (88, .iconst 1, 1), (89, .iadd, 1)]
noncomputable def xi_299_3 : XIs := [(90, .aload_n 0, 1), (91, .getfield 356, 3), (94, .if_icmp .ge 24, 3), (97, .aload_n 0, 1), (98, .getfield 60, 3), (101, .aload_n 0, 1), (102, .getfield 365, 3), (105, .iconst 1, 1), (106, .iadd, 1), (107, .iaload, 1), (108, .invokestatic 377, 3), (111, .ifCond .eq 7, 3), (114, .iconst 1, 1), (115, .goto 4, 3), (118, .iconst 0, 1), (119, .istore_n 2, 1)]
noncomputable def xi_299_4 : XIs := [(120, .iload_n 1, 1), (121, .invokestatic 377, 3), (124, .ifCond .ne 7, 3), (127, .iload_n 2, 1), (128, .ifCond .eq 53, 3), (131, .aload_n 0, 1), (132, .iconst 2, 1), (133, .putfield 371, 3), (136, .aload_n 0, 1), (137, .dup, 1), (138, .getfield 365, 3), (141, .iload_n 2, 1), (142, .ifCond .eq 7, 3), (145, .iconst 1, 1), (146, .goto 4, 3), (149, .iconst 0, 1)]
noncomputable def xi_299_5 : XIs := [(150, .iadd, 1), (151, .putfield 365, 3), (154, .aload_n 0, 1), (155, .bipush 7, 2), (157, .invokevirtual 380, 3), (160, .aload_n 0, 1), (161, .iload_n 2, 1), (162, .ifCond .eq 11, 3), (165, .aload_n 0, 1), (166, .getfield 384, 3), (169, .lneg, 1), (170, .goto 7, 3), (173, .aload_n 0, 1), (174, .getfield 384, 3), (177, .putfield 384, 3), (180, .return_, 1)]
noncomputable def xi_299_6 : XIs := [(181, .aload_n 0, 1), (182, .iload_n 1, 1), (183, .invokestatic 388, 3), (186, .ifCond .eq 7, 3), (189, .iconst 1, 1), (190, .goto 4, 3), (193, .iconst 3, 1), (194, .putfield 371, 3), (197, .aload_n 0, 1), (198, .getfield 371, 3), (201, .iconst 3, 1), (202, .if_icmp .ne 18, 3), (205, .iload_n 1, 1), (206, .bipush 59, 2), (208, .if_icmp .eq 12, 3), (211, .aload_n 0, 1)]
noncomputable def xi_299_7 : XIs := [(212, .iconst 1, 1), (213, .aload_n 0, 1), (214, .getfield 368, 3), (217, .invokevirtual 391, 3), (220, .aload_n 0, 1), (221, .dup, 1), (222, .getfield 365, 3), (225, .iconst 1, 1), (226, .iadd, 1), (227, .putfield 365, 3), (230, .return_, 1)]
set_option maxRecDepth 100000 in
theorem xi_w299 : xi_ok cX12_nextToken (xi_299_0 ++ (xi_299_1 ++ (xi_299_2 ++ (xi_299_3 ++ (xi_299_4 ++ (xi_299_5 ++ (xi_299_6 ++ (xi_299_7)))))))) = true := dl_all _ _ (by decide +kernel)
theorem xi_ok299_0 : xi_ok cX12_nextToken xi_299_0 = true := (xi_ap xi_w299).1
theorem xi_r299_1 : xi_ok cX12_nextToken (xi_299_1 ++ (xi_299_2 ++ (xi_299_3 ++ (xi_299_4 ++ (xi_299_5 ++ (xi_299_6 ++ (xi_299_7))))))) = true := (xi_ap xi_w299).2
theorem xi_ok299_1 : xi_ok cX12_nextToken xi_299_1 = true := (xi_ap xi_r299_1).1
theorem xi_r299_2 : xi_ok cX12_nextToken (xi_299_2 ++ (xi_299_3 ++ (xi_299_4 ++ (xi_299_5 ++ (xi_299_6 ++ (xi_299_7)))))) = true := (xi_ap xi_r299_1).2
theorem xi_ok299_2 : xi_ok cX12_nextToken xi_299_2 = true := (xi_ap xi_r299_2).1
theorem xi_r299_3 : xi_ok cX12_nextToken (xi_299_3 ++ (xi_299_4 ++ (xi_299_5 ++ (xi_299_6 ++ (xi_299_7))))) = true := (xi_ap xi_r299_2).2
theorem xi_ok299_3 : xi_ok cX12_nextToken xi_299_3 = true := (xi_ap xi_r299_3).1
theorem xi_r299_4 : xi_ok cX12_nextToken (xi_299_4 ++ (xi_299_5 ++ (xi_299_6 ++ (xi_299_7)))) = true := (xi_ap xi_r299_3).2
theorem xi_ok299_4 : xi_ok cX12_nextToken xi_299_4 = true := (xi_ap xi_r299_4).1
theorem xi_r299_5 : xi_ok cX12_nextToken (xi_299_5 ++ (xi_299_6 ++ (xi_299_7))) = true := (xi_ap xi_r299_4).2
theorem xi_ok299_5 : xi_ok cX12_nextToken xi_299_5 = true := (xi_ap xi_r299_5).1
theorem xi_r299_6 : xi_ok cX12_nextToken (xi_299_6 ++ (xi_299_7)) = true := (xi_ap xi_r299_5).2
theorem xi_ok299_6 : xi_ok cX12_nextToken xi_299_6 = true := (xi_ap xi_r299_6).1
theorem xi_r299_7 : xi_ok cX12_nextToken (xi_299_7) = true := (xi_ap xi_r299_6).2
theorem xi_ok299_7 : xi_ok cX12_nextToken xi_299_7 = true := xi_r299_7
noncomputable def xi_299 (pc : Nat) : XIs := cond (Nat.blt pc 120) (cond (Nat.blt pc 63) (cond (Nat.blt pc 31) (xi_299_0) (xi_299_1)) (cond (Nat.blt pc 90) (xi_299_2) (xi_299_3))) (cond (Nat.blt pc 181) (cond (Nat.blt pc 150) (xi_299_4) (xi_299_5)) (cond (Nat.blt pc 212) (xi_299_6) (xi_299_7)))
theorem xi_ok299 (pc : Nat) : xi_ok cX12_nextToken (xi_299 pc) = true := xi_c (xi_c (xi_c (xi_ok299_0) (xi_ok299_1)) (xi_c (xi_ok299_2) (xi_ok299_3))) (xi_c (xi_c (xi_ok299_4) (xi_ok299_5)) (xi_c (xi_ok299_6) (xi_ok299_7)))
noncomputable def xi_300_0 : XIs := [(0, .aload_n 0, 1), (1, .getfield 365, 3), (4, .istore_n 2, 1), (5, .aload_n 0, 1), (6, .lconst 0, 1), (7, .putfield 384, 3), (10, .aload_n 0, 1), (11, .getfield 365, 3), (14, .aload_n 0, 1), (15, .getfield 356, 3), (18, .if_icmp .ge 75, 3), (21, .aload_n 0, 1), (22, .getfield 60, 3), (25, .aload_n 0, 1), (26, .getfield 365, 3), (29, .iaload, 1)]
noncomputable def xi_300_1 : XIs := [(30, .invokestatic 377, 3), (33, .ifCond .eq 60, 3), (36, .aload_n 0, 1), (37, .aload_n 0, 1), (38, .getfield 365, 3), (41, .iload_n 2, 1), (42, .isub, 1), (43, .iload_n 1, 1), (44, .if_icmp .ge 29, 3), (47, .ldc2_w 394, 3), (50, .aload_n 0, 1), (51, .getfield 384, 3), (54, .lmul, 1), (55, .aload_n 0, 1), (56, .getfield 60, 3), (59, .aload_n 0, 1)]
noncomputable def xi_300_2 : XIs := [(60, .getfield 365, 3), (63, .iaload, 1), (64, .i2l, 1), (65, .ladd, 1), (66, .ldc2_w 396, 3), (69, .lsub, 1), (70, .goto 7, 3), (73, .aload_n 0, 1), (74, .getfield 384, 3), (77, .putfield 384, 3), (80, .aload_n 0, 1), (81, .dup, 1), (82, .getfield 365, 3), (85, .iconst 1, 1), (86, .iadd, 1), (87, .putfield 365, 3)]
noncomputable def xi_300_3 : XIs := [(90, .goto (-80), 3), (93, .aload_n 0, 1), (94, .getfield 365, 3), (97, .iload_n 2, 1), (98, .isub, 1), (99, .iload_n 1, 1), (100, .if_icmp .le 22, 3), (103, .aload_n 0, 1), (104, .iload_n 1, 1), (105, .bipush 7, 2), (107, .if_icmp .ne 7, 3), (110, .iconst 3, 1), (111, .goto 4, 3), (114, .iconst 4, 1), (115, .aload_n 0, 1), (116, .getfield 368, 3)]
noncomputable def xi_300_4 : XIs := [(119, .invokevirtual 391, 3), (122, .return_, 1)]
set_option maxRecDepth 100000 in
theorem xi_w300 : xi_ok cX12_readNumber (xi_300_0 ++ (xi_300_1 ++ (xi_300_2 ++ (xi_300_3 ++ (xi_300_4))))) = true := dl_all _ _ (by decide +kernel)
theorem xi_ok300_0 : xi_ok cX12_readNumber xi_300_0 = true := (xi_ap xi_w300).1
theorem xi_r300_1 : xi_ok cX12_readNumber (xi_300_1 ++ (xi_300_2 ++ (xi_300_3 ++ (xi_300_4)))) = true := (xi_ap xi_w300).2
theorem xi_ok300_1 : xi_ok cX12_readNumber xi_300_1 = true := (xi_ap xi_r300_1).1
theorem xi_r300_2 : xi_ok cX12_readNumber (xi_300_2 ++ (xi_300_3 ++ (xi_300_4))) = true := (xi_ap xi_r300_1).2
theorem xi_ok300_2 : xi_ok cX12_readNumber xi_300_2 = true := (xi_ap xi_r300_2).1
theorem xi_r300_3 : xi_ok cX12_readNumber (xi_300_3 ++ (xi_300_4)) = true := (xi_ap xi_r300_2).2
theorem xi_ok300_3 : xi_ok cX12_readNumber xi_300_3 = true := (xi_ap xi_r300_3).1
theorem xi_r300_4 : xi_ok cX12_readNumber (xi_300_4) = true := (xi_ap xi_r300_3).2
theorem xi_ok300_4 : xi_ok cX12_readNumber xi_300_4 = true := xi_r300_4
noncomputable def xi_300 (pc : Nat) : XIs := cond (Nat.blt pc 60) (cond (Nat.blt pc 30) (xi_300_0) (xi_300_1)) (cond (Nat.blt pc 90) (xi_300_2) (cond (Nat.blt pc 119) (xi_300_3) (xi_300_4)))
theorem xi_ok300 (pc : Nat) : xi_ok cX12_readNumber (xi_300 pc) = true := xi_c (xi_c (xi_ok300_0) (xi_ok300_1)) (xi_c (xi_ok300_2) (xi_c (xi_ok300_3) (xi_ok300_4)))
noncomputable def xi_301_0 : XIs := [(0, .iload_n 1, 1)]
noncomputable def xi_301_1 : XIs := [(1, .lookupswitch 76 #[(97, 45), (110, 35), (116, 65)], 35)]
set_option maxRecDepth 100000 in
theorem xi_ok301_1 : xi_ok cX12_shape xi_301_1 = true := by decide +kernel
noncomputable def xi_301_2 : XIs := [(36, .iload_n 2, 1), (37, .ifCond .ne 7, 3), (40, .iconst 1, 1), (41, .goto 4, 3), (44, .iconst 3, 1), (45, .ireturn, 1), (46, .iload_n 2, 1), (47, .iconst 4, 1), (48, .if_icmp .ge 7, 3), (51, .iconst 2, 1), (52, .goto 13, 3), (55, .iload_n 2, 1), (56, .iconst 4, 1), (57, .if_icmp .ne 7, 3), (60, .iconst 1, 1), (61, .goto 4, 3)]
noncomputable def xi_301_3 : XIs := [(64, .iconst 3, 1), (65, .ireturn, 1), (66, .iload_n 2, 1), (67, .iconst 1, 1), (68, .if_icmp .ge 7, 3), (71, .iconst 2, 1), (72, .goto 4, 3), (75, .iconst 3, 1), (76, .ireturn, 1), (77, .iload_n 2, 1), (78, .iconst 2, 1), (79, .if_icmp .ge 7, 3), (82, .iconst 2, 1), (83, .goto 4, 3), (86, .iconst 3, 1), (87, .ireturn, 1)]
set_option maxRecDepth 100000 in
theorem xi_w301 : xi_ok cX12_shape (xi_301_0 ++ (xi_301_2 ++ (xi_301_3))) = true := dl_all _ _ (by decide +kernel)
theorem xi_ok301_0 : xi_ok cX12_shape xi_301_0 = true := (xi_ap xi_w301).1
theorem xi_r301_1 : xi_ok cX12_shape (xi_301_2 ++ (xi_301_3)) = true := (xi_ap xi_w301).2
theorem xi_ok301_2 : xi_ok cX12_shape xi_301_2 = true := (xi_ap xi_r301_1).1
theorem xi_r301_2 : xi_ok cX12_shape (xi_301_3) = true := (xi_ap xi_r301_1).2
theorem xi_ok301_3 : xi_ok cX12_shape xi_301_3 = true := xi_r301_2
noncomputable def xi_301 (pc : Nat) : XIs := cond (Nat.blt pc 36) (cond (Nat.blt pc 1) (xi_301_0) (xi_301_1)) (cond (Nat.blt pc 64) (xi_301_2) (xi_301_3))
theorem xi_ok301 (pc : Nat) : xi_ok cX12_shape (xi_301 pc) = true := xi_c (xi_c (xi_ok301_0) (xi_ok301_1)) (xi_c (xi_ok301_2) (xi_ok301_3))
noncomputable def xi_302_0 : XIs := [(0, .aload_n 0, 1), (1, .iconst 0, 1), (2, .putfield 278, 3), (5, .aload_n 0, 1), (6, .iconst 0, 1), (7, .putfield 359, 3), (10, .aload_n 0, 1), (11, .iconst 0, 1), (12, .putfield 398, 3), (15, .aload_n 0, 1), (16, .iconst 0, 1), (17, .putfield 365, 3), (20, .aload_n 0, 1), (21, .invokevirtual 401, 3), (24, .aload_n 0, 1), (25, .invokevirtual 404, 3)]
noncomputable def xi_302_1 : XIs := [(28, .aload_n 0, 1), (29, .getfield 371, 3), (32, .ifCond .eq 28, 3), (35, .aload_n 0, 1), (36, .getfield 359, 3), (39, .ifCond .ne 21, 3), (42, .aload_n 0, 1), (43, .invokevirtual 407, 3), (46, .aload_n 0, 1), (47, .getfield 359, 3), (50, .ifCond .ne (-22), 3), (53, .aload_n 0, 1), (54, .invokevirtual 404, 3), (57, .goto (-29), 3), (60, .aload_n 0, 1), (61, .getfield 359, 3)]
noncomputable def xi_302_2 : XIs := [(64, .ifCond .le 6, 3), (67, .bipush (-4), 2), (69, .ireturn, 1), (70, .iconst 0, 1), (71, .istore_n 1, 1), (72, .iload_n 1, 1), (73, .aload_n 0, 1), (74, .getfield 398, 3), (77, .if_icmp .ge 165, 3), (80, .iconst 5, 1), (81, .iload_n 1, 1), (82, .imul, 1), (83, .istore_n 2, 1), (84, .aload_n 0, 1), (85, .getfield 66, 3), (88, .iload_n 1, 1)]
noncomputable def xi_302_3 : XIs := [(89, .iaload, 1)]
noncomputable def xi_302_4 : XIs := [(90, .lookupswitch 123 #[(97, 53), (110, 34), (116, 104)], 34)]
set_option maxRecDepth 100000 in
theorem xi_ok302_4 : xi_ok cX12_load xi_302_4 = true := by decide +kernel
noncomputable def xi_302_5 : XIs := [(124, .aload_n 0, 1), (125, .iconst 0, 1), (126, .aload_n 0, 1), (127, .getfield 69, 3), (130, .iload_n 2, 1), (131, .iaload, 1), (132, .iconst 0, 1), (133, .iconst 0, 1), (134, .iconst 0, 1), (135, .iconst 0, 1), (136, .iconst 0, 1), (137, .invokevirtual 314, 3), (140, .goto 96, 3), (143, .aload_n 0, 1), (144, .iconst 1, 1), (145, .aload_n 0, 1)]
noncomputable def xi_302_6 : XIs := [(146, .iconst 0, 1), (147, .invokevirtual 325, 3), (150, .aload_n 0, 1), (151, .getfield 69, 3), (154, .iload_n 2, 1), (155, .iaload, 1), (156, .aload_n 0, 1), (157, .getfield 69, 3), (160, .iload_n 2, 1), (161, .iconst 1, 1), (162, .iadd, 1), (163, .iaload, 1), (164, .aload_n 0, 1), (165, .getfield 69, 3), (168, .iload_n 2, 1), (169, .iconst 2, 1)]
noncomputable def xi_302_7 : XIs := [(170, .iadd, 1), (171, .iaload, 1), (172, .aload_n 0, 1), (173, .getfield 69, 3), (176, .iload_n 2, 1), (177, .iconst 3, 1), (178, .iadd, 1), (179, .iaload, 1), (180, .aload_n 0, 1), (181, .getfield 69, 3), (184, .iload_n 2, 1), (185, .iconst 4, 1), (186, .iadd, 1), (187, .iaload, 1), (188, .invokevirtual 314, 3), (191, .goto 45, 3)]
noncomputable def xi_302_8 : XIs := [(194, .aload_n 0, 1), (195, .iconst 2, 1), (196, .aload_n 0, 1), (197, .getfield 69, 3), (200, .iload_n 2, 1), (201, .iaload, 1), (202, .iconst 0, 1), (203, .iconst 0, 1), (204, .iconst 0, 1), (205, .iconst 0, 1), (206, .iconst 0, 1), (207, .invokevirtual 314, 3), (210, .goto 26, 3), (213, .aload_n 0, 1), (214, .iconst 3, 1), (215, .aload_n 0, 1)]
noncomputable def xi_302_9 : XIs := [(216, .getfield 69, 3), (219, .iload_n 2, 1), (220, .iaload, 1), (221, .iconst 0, 1), (222, .aload_n 0, 1), (223, .getfield 69, 3), (226, .iload_n 2, 1), (227, .iconst 1, 1), (228, .iadd, 1), (229, .iaload, 1), (230, .iconst 0, 1), (231, .iconst 0, 1), (232, .iconst 0, 1), (233, .invokevirtual 314, 3), (236, .iinc 1 1, 3), (239, .goto (-167), 3)]
noncomputable def xi_302_10 : XIs := [(242, .aload_n 0, 1), (243, .getfield 398, 3), (246, .ireturn, 1)]
set_option maxRecDepth 100000 in
theorem xi_w302 : xi_ok cX12_load (xi_302_0 ++ (xi_302_1 ++ (xi_302_2 ++ (xi_302_3 ++ (xi_302_5 ++ (xi_302_6 ++ (xi_302_7 ++ (xi_302_8 ++ (xi_302_9 ++ (xi_302_10)))))))))) = true := dl_all _ _ (by decide +kernel)
theorem xi_ok302_0 : xi_ok cX12_load xi_302_0 = true := (xi_ap xi_w302).1
theorem xi_r302_1 : xi_ok cX12_load (xi_302_1 ++ (xi_302_2 ++ (xi_302_3 ++ (xi_302_5 ++ (xi_302_6 ++ (xi_302_7 ++ (xi_302_8 ++ (xi_302_9 ++ (xi_302_10))))))))) = true := (xi_ap xi_w302).2
theorem xi_ok302_1 : xi_ok cX12_load xi_302_1 = true := (xi_ap xi_r302_1).1
theorem xi_r302_2 : xi_ok cX12_load (xi_302_2 ++ (xi_302_3 ++ (xi_302_5 ++ (xi_302_6 ++ (xi_302_7 ++ (xi_302_8 ++ (xi_302_9 ++ (xi_302_10)))))))) = true := (xi_ap xi_r302_1).2
theorem xi_ok302_2 : xi_ok cX12_load xi_302_2 = true := (xi_ap xi_r302_2).1
theorem xi_r302_3 : xi_ok cX12_load (xi_302_3 ++ (xi_302_5 ++ (xi_302_6 ++ (xi_302_7 ++ (xi_302_8 ++ (xi_302_9 ++ (xi_302_10))))))) = true := (xi_ap xi_r302_2).2
theorem xi_ok302_3 : xi_ok cX12_load xi_302_3 = true := (xi_ap xi_r302_3).1
theorem xi_r302_4 : xi_ok cX12_load (xi_302_5 ++ (xi_302_6 ++ (xi_302_7 ++ (xi_302_8 ++ (xi_302_9 ++ (xi_302_10)))))) = true := (xi_ap xi_r302_3).2
theorem xi_ok302_5 : xi_ok cX12_load xi_302_5 = true := (xi_ap xi_r302_4).1
theorem xi_r302_5 : xi_ok cX12_load (xi_302_6 ++ (xi_302_7 ++ (xi_302_8 ++ (xi_302_9 ++ (xi_302_10))))) = true := (xi_ap xi_r302_4).2
theorem xi_ok302_6 : xi_ok cX12_load xi_302_6 = true := (xi_ap xi_r302_5).1
theorem xi_r302_6 : xi_ok cX12_load (xi_302_7 ++ (xi_302_8 ++ (xi_302_9 ++ (xi_302_10)))) = true := (xi_ap xi_r302_5).2
theorem xi_ok302_7 : xi_ok cX12_load xi_302_7 = true := (xi_ap xi_r302_6).1
theorem xi_r302_7 : xi_ok cX12_load (xi_302_8 ++ (xi_302_9 ++ (xi_302_10))) = true := (xi_ap xi_r302_6).2
theorem xi_ok302_8 : xi_ok cX12_load xi_302_8 = true := (xi_ap xi_r302_7).1
theorem xi_r302_8 : xi_ok cX12_load (xi_302_9 ++ (xi_302_10)) = true := (xi_ap xi_r302_7).2
theorem xi_ok302_9 : xi_ok cX12_load xi_302_9 = true := (xi_ap xi_r302_8).1
theorem xi_r302_9 : xi_ok cX12_load (xi_302_10) = true := (xi_ap xi_r302_8).2
theorem xi_ok302_10 : xi_ok cX12_load xi_302_10 = true := xi_r302_9
noncomputable def xi_302 (pc : Nat) : XIs := cond (Nat.blt pc 124) (cond (Nat.blt pc 64) (cond (Nat.blt pc 28) (xi_302_0) (xi_302_1)) (cond (Nat.blt pc 89) (xi_302_2) (cond (Nat.blt pc 90) (xi_302_3) (xi_302_4)))) (cond (Nat.blt pc 194) (cond (Nat.blt pc 146) (xi_302_5) (cond (Nat.blt pc 170) (xi_302_6) (xi_302_7))) (cond (Nat.blt pc 216) (xi_302_8) (cond (Nat.blt pc 242) (xi_302_9) (xi_302_10))))
theorem xi_ok302 (pc : Nat) : xi_ok cX12_load (xi_302 pc) = true := xi_c (xi_c (xi_c (xi_ok302_0) (xi_ok302_1)) (xi_c (xi_ok302_2) (xi_c (xi_ok302_3) (xi_ok302_4)))) (xi_c (xi_c (xi_ok302_5) (xi_c (xi_ok302_6) (xi_ok302_7))) (xi_c (xi_ok302_8) (xi_c (xi_ok302_9) (xi_ok302_10))))
noncomputable def xi_303_0 : XIs := [(0, .aload_n 0, 1), (1, .getfield 7, 3), (4, .iconst 2, 1), (5, .aload_n 0, 1), (6, .getfield 7, 3), (9, .iconst 0, 1), (10, .iaload, 1), (11, .iastore, 1), (12, .iconst 0, 1), (13, .istore_n 1, 1), (14, .iload_n 1, 1), (15, .sipush 160, 3), (18, .if_icmp .ge 25, 3), (21, .aload_n 0, 1), (22, .getfield 16, 3), (25, .sipush 320, 3)]
noncomputable def xi_303_1 : XIs := [(28, .iload_n 1, 1), (29, .iadd, 1), (30, .aload_n 0, 1), (31, .getfield 16, 3), (34, .iload_n 1, 1), (35, .baload, 1), (36, .bastore, 1), (37, .iinc 1 1, 3), (40, .goto (-26), 3), (43, .return_, 1)]
set_option maxRecDepth 100000 in
theorem xi_w303 : xi_ok cX12_copyGraph (xi_303_0 ++ (xi_303_1)) = true := dl_all _ _ (by decide +kernel)
theorem xi_ok303_0 : xi_ok cX12_copyGraph xi_303_0 = true := (xi_ap xi_w303).1
theorem xi_r303_1 : xi_ok cX12_copyGraph (xi_303_1) = true := (xi_ap xi_w303).2
theorem xi_ok303_1 : xi_ok cX12_copyGraph xi_303_1 = true := xi_r303_1
noncomputable def xi_303 (pc : Nat) : XIs := cond (Nat.blt pc 28) (xi_303_0) (xi_303_1)
theorem xi_ok303 (pc : Nat) : xi_ok cX12_copyGraph (xi_303 pc) = true := xi_c (xi_ok303_0) (xi_ok303_1)
noncomputable def xi_304_0 : XIs := [(0, .aload_n 0, 1), (1, .getfield 368, 3), (4, .istore_n 1, 1), (5, .aload_n 0, 1), (6, .getfield 374, 3), (9, .istore_n 2, 1), (10, .aload_n 0, 1), (11, .getfield 371, 3), (14, .iconst 1, 1), (15, .if_icmp .ne 27, 3), (18, .iload_n 2, 1), (19, .bipush 110, 2), (21, .if_icmp .eq 31, 3), (24, .iload_n 2, 1), (25, .bipush 97, 2), (27, .if_icmp .eq 25, 3)]
noncomputable def xi_304_1 : XIs := [(30, .iload_n 2, 1), (31, .bipush 116, 2), (33, .if_icmp .eq 19, 3), (36, .iload_n 2, 1), (37, .bipush 119, 2), (39, .if_icmp .eq 13, 3), (42, .aload_n 0, 1), (43, .iconst 2, 1), (44, .aload_n 0, 1), (45, .getfield 368, 3), (48, .invokevirtual 391, 3), (51, .return_, 1), (52, .iconst 0, 1), (53, .istore_n 3, 1), (54, .iconst 1, 1), (55, .istore 4, 2)]
noncomputable def xi_304_2 : XIs := [(57, .iload 4, 2), (59, .ifCond .eq 127, 3), (62, .aload_n 0, 1), (63, .getfield 359, 3), (66, .ifCond .ne 120, 3), (69, .aload_n 0, 1), (70, .invokevirtual 404, 3), (73, .aload_n 0, 1), (74, .iload_n 2, 1), (75, .iload_n 3, 1), (76, .invokevirtual 410, 3), (79, .istore 5, 2), (81, .aload_n 0, 1), (82, .getfield 359, 3), (85, .ifCond .ne 36, 3), (88, .aload_n 0, 1)]
noncomputable def xi_304_3 : XIs := [(89, .getfield 371, 3), (92, .iload 5, 2), (94, .if_icmp .ne 18, 3), (97, .iload 5, 2), (99, .iconst 3, 1), (100, .if_icmp .ne 21, 3), (103, .aload_n 0, 1), (104, .getfield 374, 3), (107, .bipush 59, 2), (109, .if_icmp .eq 12, 3), (112, .aload_n 0, 1), (113, .iconst 2, 1), (114, .aload_n 0, 1), (115, .getfield 368, 3), (118, .invokevirtual 391, 3), (121, .iload 5, 2)]
noncomputable def xi_304_4 : XIs := [(123, .iconst 3, 1), (124, .if_icmp .eq 7, 3), (127, .iconst 1, 1), (128, .goto 4, 3), (131, .iconst 0, 1), (132, .istore 4, 2), (134, .aload_n 0, 1), (135, .getfield 359, 3), (138, .ifCond .ne 45, 3), (141, .iload 4, 2), (143, .ifCond .eq 40, 3), (146, .aload_n 0, 1), (147, .getfield 69, 3), (150, .iconst 5, 1), (151, .aload_n 0, 1), (152, .getfield 398, 3)]
noncomputable def xi_304_5 : XIs := [(155, .imul, 1), (156, .iload_n 3, 1), (157, .iadd, 1), (158, .iload 5, 2), (160, .iconst 1, 1), (161, .if_icmp .ne 13, 3), (164, .aload_n 0, 1), (165, .getfield 374, 3), (168, .bipush 97, 2), (170, .isub, 1), (171, .goto 8, 3), (174, .aload_n 0, 1), (175, .getfield 384, 3), (178, .l2i, 1), (179, .iastore, 1), (180, .iinc 3 1, 3)]
noncomputable def xi_304_6 : XIs := [(183, .goto (-126), 3), (186, .aload_n 0, 1), (187, .getfield 359, 3), (190, .ifCond .ne 58, 3), (193, .aload_n 0, 1), (194, .getfield 66, 3), (197, .aload_n 0, 1), (198, .getfield 398, 3), (201, .iload_n 2, 1), (202, .iastore, 1), (203, .aload_n 0, 1), (204, .iload_n 2, 1), (205, .iconst 5, 1), (206, .aload_n 0, 1), (207, .getfield 398, 3), (210, .imul, 1)]
noncomputable def xi_304_7 : XIs := [(211, .invokevirtual 414, 3), (214, .ifCond .eq 18, 3), (217, .aload_n 0, 1), (218, .getfield 291, 3), (221, .aload_n 0, 1), (222, .getfield 398, 3), (225, .iadd, 1), (226, .sipush 4000, 3), (229, .if_icmp .lt 9, 3), (232, .aload_n 0, 1), (233, .iconst 4, 1), (234, .iload_n 1, 1), (235, .invokevirtual 391, 3), (238, .aload_n 0, 1), (239, .dup, 1), (240, .getfield 398, 3)]
noncomputable def xi_304_8 : XIs := [(243, .iconst 1, 1), (244, .iadd, 1), (245, .putfield 398, 3), (248, .return_, 1)]
set_option maxRecDepth 100000 in
theorem xi_w304 : xi_ok cX12_command (xi_304_0 ++ (xi_304_1 ++ (xi_304_2 ++ (xi_304_3 ++ (xi_304_4 ++ (xi_304_5 ++ (xi_304_6 ++ (xi_304_7 ++ (xi_304_8))))))))) = true := dl_all _ _ (by decide +kernel)
theorem xi_ok304_0 : xi_ok cX12_command xi_304_0 = true := (xi_ap xi_w304).1
theorem xi_r304_1 : xi_ok cX12_command (xi_304_1 ++ (xi_304_2 ++ (xi_304_3 ++ (xi_304_4 ++ (xi_304_5 ++ (xi_304_6 ++ (xi_304_7 ++ (xi_304_8)))))))) = true := (xi_ap xi_w304).2
theorem xi_ok304_1 : xi_ok cX12_command xi_304_1 = true := (xi_ap xi_r304_1).1
theorem xi_r304_2 : xi_ok cX12_command (xi_304_2 ++ (xi_304_3 ++ (xi_304_4 ++ (xi_304_5 ++ (xi_304_6 ++ (xi_304_7 ++ (xi_304_8))))))) = true := (xi_ap xi_r304_1).2
theorem xi_ok304_2 : xi_ok cX12_command xi_304_2 = true := (xi_ap xi_r304_2).1
theorem xi_r304_3 : xi_ok cX12_command (xi_304_3 ++ (xi_304_4 ++ (xi_304_5 ++ (xi_304_6 ++ (xi_304_7 ++ (xi_304_8)))))) = true := (xi_ap xi_r304_2).2
theorem xi_ok304_3 : xi_ok cX12_command xi_304_3 = true := (xi_ap xi_r304_3).1
theorem xi_r304_4 : xi_ok cX12_command (xi_304_4 ++ (xi_304_5 ++ (xi_304_6 ++ (xi_304_7 ++ (xi_304_8))))) = true := (xi_ap xi_r304_3).2
theorem xi_ok304_4 : xi_ok cX12_command xi_304_4 = true := (xi_ap xi_r304_4).1
theorem xi_r304_5 : xi_ok cX12_command (xi_304_5 ++ (xi_304_6 ++ (xi_304_7 ++ (xi_304_8)))) = true := (xi_ap xi_r304_4).2
theorem xi_ok304_5 : xi_ok cX12_command xi_304_5 = true := (xi_ap xi_r304_5).1
theorem xi_r304_6 : xi_ok cX12_command (xi_304_6 ++ (xi_304_7 ++ (xi_304_8))) = true := (xi_ap xi_r304_5).2
theorem xi_ok304_6 : xi_ok cX12_command xi_304_6 = true := (xi_ap xi_r304_6).1
theorem xi_r304_7 : xi_ok cX12_command (xi_304_7 ++ (xi_304_8)) = true := (xi_ap xi_r304_6).2
theorem xi_ok304_7 : xi_ok cX12_command xi_304_7 = true := (xi_ap xi_r304_7).1
theorem xi_r304_8 : xi_ok cX12_command (xi_304_8) = true := (xi_ap xi_r304_7).2
theorem xi_ok304_8 : xi_ok cX12_command xi_304_8 = true := xi_r304_8
noncomputable def xi_304 (pc : Nat) : XIs := cond (Nat.blt pc 123) (cond (Nat.blt pc 57) (cond (Nat.blt pc 30) (xi_304_0) (xi_304_1)) (cond (Nat.blt pc 89) (xi_304_2) (xi_304_3))) (cond (Nat.blt pc 183) (cond (Nat.blt pc 155) (xi_304_4) (xi_304_5)) (cond (Nat.blt pc 211) (xi_304_6) (cond (Nat.blt pc 243) (xi_304_7) (xi_304_8))))
theorem xi_ok304 (pc : Nat) : xi_ok cX12_command (xi_304 pc) = true := xi_c (xi_c (xi_c (xi_ok304_0) (xi_ok304_1)) (xi_c (xi_ok304_2) (xi_ok304_3))) (xi_c (xi_c (xi_ok304_4) (xi_ok304_5)) (xi_c (xi_ok304_6) (xi_c (xi_ok304_7) (xi_ok304_8))))
noncomputable def xi_305_0 : XIs := [(0, .aload_n 0, 1), (1, .getfield 69, 3), (4, .iload_n 2, 1), (5, .iaload, 1), (6, .istore_n 3, 1), (7, .aload_n 0, 1), (8, .getfield 69, 3), (11, .iload_n 2, 1), (12, .iconst 1, 1), (13, .iadd, 1), (14, .iaload, 1), (15, .istore 4, 2), (17, .iload_n 1, 1)]
noncomputable def xi_305_1 : XIs := [(18, .lookupswitch 240 #[(97, 61), (110, 34), (116, 173)], 34)]
set_option maxRecDepth 100000 in
theorem xi_ok305_1 : xi_ok cX12_isDone xi_305_1 = true := by decide +kernel
noncomputable def xi_305_2 : XIs := [(52, .aload_n 0, 1), (53, .getfield 7, 3), (56, .iconst 2, 1), (57, .dup2, 1), (58, .iaload, 1), (59, .iconst 1, 1), (60, .iadd, 1), (61, .iastore, 1), (62, .aload_n 0, 1), (63, .getfield 7, 3), (66, .iconst 2, 1), (67, .iaload, 1), (68, .bipush 32, 2), (70, .if_icmp .gt 7, 3), (73, .iconst 1, 1), (74, .goto 4, 3)]
noncomputable def xi_305_3 : XIs := [(77, .iconst 0, 1), (78, .ireturn, 1), (79, .aload_n 0, 1), (80, .iconst 2, 1), (81, .invokevirtual 325, 3), (84, .istore 5, 2), (86, .iload 5, 2), (88, .sipush 160, 3), (91, .if_icmp .ge 77, 3), (94, .iload_n 3, 1), (95, .i2l, 1), (96, .lconst 0, 1), (97, .aload_n 0, 1), (98, .getfield 7, 3), (101, .iconst 2, 1), (102, .iaload, 1)]
noncomputable def xi_305_4 : XIs := [(103, .iconst 1, 1), (104, .isub, 1), (105, .i2l, 1), (106, .invokestatic 308, 3), (109, .ifCond .eq 59, 3), (112, .iload 4, 2), (114, .i2l, 1), (115, .lconst 0, 1), (116, .aload_n 0, 1), (117, .getfield 7, 3), (120, .iconst 2, 1), (121, .iaload, 1), (122, .iconst 1, 1), (123, .isub, 1), (124, .i2l, 1), (125, .invokestatic 308, 3)]
noncomputable def xi_305_5 : XIs := [(128, .ifCond .eq 40, 3), (131, .aload_n 0, 1), (132, .getfield 69, 3), (135, .iload_n 2, 1), (136, .iconst 2, 1), (137, .iadd, 1), (138, .iaload, 1), (139, .invokestatic 322, 3), (142, .ifCond .eq 26, 3), (145, .aload_n 0, 1), (146, .getfield 69, 3), (149, .iload_n 2, 1), (150, .iconst 3, 1), (151, .iadd, 1), (152, .iaload, 1), (153, .i2l, 1)]
noncomputable def xi_305_6 : XIs := [(154, .lconst 0, 1), (155, .ldc2_w 306, 3), (158, .invokestatic 308, 3), (161, .ifCond .eq 7, 3), (164, .iconst 1, 1), (165, .goto 4, 3), (168, .iconst 0, 1), (169, .istore 6, 2), (171, .iload 6, 2), (173, .ifCond .eq 15, 3), (176, .aload_n 0, 1), (177, .getfield 16, 3), (180, .sipush 320, 3), (183, .iload 5, 2), (185, .iadd, 1), (186, .iconst 1, 1)]
noncomputable def xi_305_7 : XIs := [(187, .bastore, 1), (188, .iload 6, 2), (190, .ireturn, 1), (191, .iload_n 3, 1), (192, .i2l, 1), (193, .lconst 0, 1), (194, .ldc2_w 343, 3), (197, .invokestatic 308, 3), (200, .ifCond .eq 36, 3), (203, .aload_n 0, 1), (204, .getfield 16, 3), (207, .sipush 320, 3), (210, .iload_n 3, 1), (211, .i2l, 1), (212, .lconst 0, 1), (213, .ldc2_w 343, 3)]
noncomputable def xi_305_8 : XIs := [(216, .invokestatic 308, 3), (219, .ifCond .eq 7, 3), (222, .iload_n 3, 1), (223, .goto 4, 3), (226, .iconst 0, 1), (227, .iadd, 1), (228, .baload, 1), (229, .ifCond .eq 7, 3), (232, .iconst 1, 1), (233, .goto 4, 3), (236, .iconst 0, 1), (237, .istore 7, 2), (239, .iload 7, 2), (241, .ifCond .eq 14, 3), (244, .aload_n 0, 1), (245, .getfield 16, 3)]
noncomputable def xi_305_9 : XIs := [(248, .sipush 320, 3), (251, .iload_n 3, 1), (252, .iadd, 1), (253, .iconst 0, 1), (254, .bastore, 1), (255, .iload 7, 2), (257, .ireturn, 1), (258, .iload_n 3, 1), (259, .i2l, 1), (260, .lconst 0, 1), (261, .ldc2_w 343, 3), (264, .invokestatic 308, 3), (267, .ifCond .eq 44, 3), (270, .aload_n 0, 1), (271, .getfield 16, 3), (274, .sipush 320, 3)]
noncomputable def xi_305_10 : XIs := [(277, .iload_n 3, 1), (278, .i2l, 1), (279, .lconst 0, 1), (280, .ldc2_w 343, 3), (283, .invokestatic 308, 3), (286, .ifCond .eq 7, 3), (289, .iload_n 3, 1), (290, .goto 4, 3), (293, .iconst 0, 1), (294, .iadd, 1), (295, .baload, 1), (296, .ifCond .eq 15, 3), (299, .iload 4, 2), (301, .invokestatic 322, 3), (304, .ifCond .eq 7, 3), (307, .iconst 1, 1)]
noncomputable def xi_305_11 : XIs := [(308, .goto 4, 3), (311, .iconst 0, 1), (312, .ireturn, 1)]
set_option maxRecDepth 100000 in
theorem xi_w305 : xi_ok cX12_isDone (xi_305_0 ++ (xi_305_2 ++ (xi_305_3 ++ (xi_305_4 ++ (xi_305_5 ++ (xi_305_6 ++ (xi_305_7 ++ (xi_305_8 ++ (xi_305_9 ++ (xi_305_10 ++ (xi_305_11))))))))))) = true := dl_all _ _ (by decide +kernel)
theorem xi_ok305_0 : xi_ok cX12_isDone xi_305_0 = true := (xi_ap xi_w305).1
theorem xi_r305_1 : xi_ok cX12_isDone (xi_305_2 ++ (xi_305_3 ++ (xi_305_4 ++ (xi_305_5 ++ (xi_305_6 ++ (xi_305_7 ++ (xi_305_8 ++ (xi_305_9 ++ (xi_305_10 ++ (xi_305_11)))))))))) = true := (xi_ap xi_w305).2
theorem xi_ok305_2 : xi_ok cX12_isDone xi_305_2 = true := (xi_ap xi_r305_1).1
theorem xi_r305_2 : xi_ok cX12_isDone (xi_305_3 ++ (xi_305_4 ++ (xi_305_5 ++ (xi_305_6 ++ (xi_305_7 ++ (xi_305_8 ++ (xi_305_9 ++ (xi_305_10 ++ (xi_305_11))))))))) = true := (xi_ap xi_r305_1).2
theorem xi_ok305_3 : xi_ok cX12_isDone xi_305_3 = true := (xi_ap xi_r305_2).1
theorem xi_r305_3 : xi_ok cX12_isDone (xi_305_4 ++ (xi_305_5 ++ (xi_305_6 ++ (xi_305_7 ++ (xi_305_8 ++ (xi_305_9 ++ (xi_305_10 ++ (xi_305_11)))))))) = true := (xi_ap xi_r305_2).2
theorem xi_ok305_4 : xi_ok cX12_isDone xi_305_4 = true := (xi_ap xi_r305_3).1
theorem xi_r305_4 : xi_ok cX12_isDone (xi_305_5 ++ (xi_305_6 ++ (xi_305_7 ++ (xi_305_8 ++ (xi_305_9 ++ (xi_305_10 ++ (xi_305_11))))))) = true := (xi_ap xi_r305_3).2
theorem xi_ok305_5 : xi_ok cX12_isDone xi_305_5 = true := (xi_ap xi_r305_4).1
theorem xi_r305_5 : xi_ok cX12_isDone (xi_305_6 ++ (xi_305_7 ++ (xi_305_8 ++ (xi_305_9 ++ (xi_305_10 ++ (xi_305_11)))))) = true := (xi_ap xi_r305_4).2
theorem xi_ok305_6 : xi_ok cX12_isDone xi_305_6 = true := (xi_ap xi_r305_5).1
theorem xi_r305_6 : xi_ok cX12_isDone (xi_305_7 ++ (xi_305_8 ++ (xi_305_9 ++ (xi_305_10 ++ (xi_305_11))))) = true := (xi_ap xi_r305_5).2
theorem xi_ok305_7 : xi_ok cX12_isDone xi_305_7 = true := (xi_ap xi_r305_6).1
theorem xi_r305_7 : xi_ok cX12_isDone (xi_305_8 ++ (xi_305_9 ++ (xi_305_10 ++ (xi_305_11)))) = true := (xi_ap xi_r305_6).2
theorem xi_ok305_8 : xi_ok cX12_isDone xi_305_8 = true := (xi_ap xi_r305_7).1
theorem xi_r305_8 : xi_ok cX12_isDone (xi_305_9 ++ (xi_305_10 ++ (xi_305_11))) = true := (xi_ap xi_r305_7).2
theorem xi_ok305_9 : xi_ok cX12_isDone xi_305_9 = true := (xi_ap xi_r305_8).1
theorem xi_r305_9 : xi_ok cX12_isDone (xi_305_10 ++ (xi_305_11)) = true := (xi_ap xi_r305_8).2
theorem xi_ok305_10 : xi_ok cX12_isDone xi_305_10 = true := (xi_ap xi_r305_9).1
theorem xi_r305_10 : xi_ok cX12_isDone (xi_305_11) = true := (xi_ap xi_r305_9).2
theorem xi_ok305_11 : xi_ok cX12_isDone xi_305_11 = true := xi_r305_10
noncomputable def xi_305 (pc : Nat) : XIs := cond (Nat.blt pc 154) (cond (Nat.blt pc 77) (cond (Nat.blt pc 18) (xi_305_0) (cond (Nat.blt pc 52) (xi_305_1) (xi_305_2))) (cond (Nat.blt pc 103) (xi_305_3) (cond (Nat.blt pc 128) (xi_305_4) (xi_305_5)))) (cond (Nat.blt pc 248) (cond (Nat.blt pc 187) (xi_305_6) (cond (Nat.blt pc 216) (xi_305_7) (xi_305_8))) (cond (Nat.blt pc 277) (xi_305_9) (cond (Nat.blt pc 308) (xi_305_10) (xi_305_11))))
theorem xi_ok305 (pc : Nat) : xi_ok cX12_isDone (xi_305 pc) = true := xi_c (xi_c (xi_c (xi_ok305_0) (xi_c (xi_ok305_1) (xi_ok305_2))) (xi_c (xi_ok305_3) (xi_c (xi_ok305_4) (xi_ok305_5)))) (xi_c (xi_c (xi_ok305_6) (xi_c (xi_ok305_7) (xi_ok305_8))) (xi_c (xi_ok305_9) (xi_c (xi_ok305_10) (xi_ok305_11))))
noncomputable def xi_306_0 : XIs := [(0, .aload_n 0, 1), (1, .getfield 63, 3), (4, .aload_n 0, 1), (5, .getfield 418, 3), (8, .iload_n 1, 1), (9, .iastore, 1), (10, .aload_n 0, 1), (11, .dup, 1), (12, .getfield 418, 3), (15, .iconst 1, 1), (16, .iadd, 1), (17, .putfield 418, 3), (20, .return_, 1)]
set_option maxRecDepth 100000 in
theorem xi_w306 : xi_ok cX12_put (xi_306_0) = true := dl_all _ _ (by decide +kernel)
theorem xi_ok306_0 : xi_ok cX12_put xi_306_0 = true := xi_w306
noncomputable def xi_306 (pc : Nat) : XIs := xi_306_0
theorem xi_ok306 (pc : Nat) : xi_ok cX12_put (xi_306 pc) = true := xi_ok306_0
noncomputable def xi_307_0 : XIs := [(0, .aload_n 0, 1), (1, .bipush 32, 2), (3, .invokevirtual 421, 3), (6, .iload_n 1, 1), (7, .ifCond .ge 9, 3), (10, .aload_n 0, 1), (11, .bipush 45, 2), (13, .invokevirtual 421, 3), (16, .iload_n 1, 1), (17, .ifCond .ge 8, 3), (20, .iload_n 1, 1), (21, .ineg, 1), (22, .goto 4, 3), (25, .iload_n 1, 1), (26, .istore_n 2, 1), (27, .iconst 1, 1)]
noncomputable def xi_307_1 : XIs := [(28, .istore_n 3, 1), (29, .iload_n 2, 1), (30, .iload_n 3, 1), (31, .idiv, 1), (32, .bipush 10, 2), (34, .if_icmp .lt 11, 3), (37, .iload_n 3, 1), (38, .bipush 10, 2), (40, .imul, 1), (41, .istore_n 3, 1), (42, .goto (-13), 3), (45, .iload_n 3, 1), (46, .ifCond .le 24, 3), (49, .aload_n 0, 1), (50, .bipush 48, 2), (52, .iload_n 2, 1)]
noncomputable def xi_307_2 : XIs := [(53, .iload_n 3, 1), (54, .idiv, 1), (55, .bipush 10, 2), (57, .irem, 1), (58, .iadd, 1), (59, .invokevirtual 421, 3), (62, .iload_n 3, 1), (63, .bipush 10, 2), (65, .idiv, 1), (66, .istore_n 3, 1), (67, .goto (-22), 3), (70, .return_, 1)]
set_option maxRecDepth 100000 in
theorem xi_w307 : xi_ok cX12_putNumber (xi_307_0 ++ (xi_307_1 ++ (xi_307_2))) = true := dl_all _ _ (by decide +kernel)
theorem xi_ok307_0 : xi_ok cX12_putNumber xi_307_0 = true := (xi_ap xi_w307).1
theorem xi_r307_1 : xi_ok cX12_putNumber (xi_307_1 ++ (xi_307_2)) = true := (xi_ap xi_w307).2
theorem xi_ok307_1 : xi_ok cX12_putNumber xi_307_1 = true := (xi_ap xi_r307_1).1
theorem xi_r307_2 : xi_ok cX12_putNumber (xi_307_2) = true := (xi_ap xi_r307_1).2
theorem xi_ok307_2 : xi_ok cX12_putNumber xi_307_2 = true := xi_r307_2
noncomputable def xi_307 (pc : Nat) : XIs := cond (Nat.blt pc 28) (xi_307_0) (cond (Nat.blt pc 53) (xi_307_1) (xi_307_2))
theorem xi_ok307 (pc : Nat) : xi_ok cX12_putNumber (xi_307 pc) = true := xi_c (xi_ok307_0) (xi_c (xi_ok307_1) (xi_ok307_2))
noncomputable def xi_308_0 : XIs := [(0, .aload_n 0, 1), (1, .iconst 0, 1), (2, .putfield 278, 3), (5, .aload_n 0, 1), (6, .iconst 0, 1), (7, .putfield 418, 3), (10, .iconst 0, 1), (11, .istore_n 1, 1), (12, .iload_n 1, 1), (13, .aload_n 0, 1), (14, .getfield 285, 3), (17, .if_icmp .ge 48, 3), (20, .aload_n 0, 1), (21, .bipush 110, 2), (23, .invokevirtual 421, 3), (26, .aload_n 0, 1)]
noncomputable def xi_308_1 : XIs := [(27, .bipush 32, 2), (29, .invokevirtual 421, 3), (32, .aload_n 0, 1), (33, .bipush 97, 2), (35, .aload_n 0, 1), (36, .getfield 13, 3), (39, .bipush 32, 2), (41, .aload_n 0, 1), (42, .getfield 301, 3), (45, .imul, 1), (46, .iload_n 1, 1), (47, .iadd, 1), (48, .iaload, 1), (49, .iadd, 1), (50, .invokevirtual 421, 3), (53, .aload_n 0, 1)]
noncomputable def xi_308_2 : XIs := [(54, .bipush 59, 2), (56, .invokevirtual 421, 3), (59, .iinc 1 1, 3), (62, .goto (-50), 3), (65, .aload_n 0, 1), (66, .getfield 288, 3), (69, .istore_n 1, 1), (70, .iload_n 1, 1), (71, .aload_n 0, 1), (72, .getfield 288, 3), (75, .sipush 160, 3), (78, .iadd, 1), (79, .if_icmp .ge 89, 3), (82, .aload_n 0, 1), (83, .getfield 16, 3), (86, .iload_n 1, 1)]
noncomputable def xi_308_3 : XIs := [(87, .baload, 1), (88, .ifCond .eq 74, 3), (91, .aload_n 0, 1), (92, .bipush 97, 2), (94, .invokevirtual 421, 3), (97, .aload_n 0, 1), (98, .aload_n 0, 1), (99, .getfield 20, 3), (102, .iload_n 1, 1), (103, .iaload, 1), (104, .invokevirtual 424, 3), (107, .aload_n 0, 1), (108, .aload_n 0, 1), (109, .getfield 23, 3), (112, .iload_n 1, 1), (113, .iaload, 1)]
noncomputable def xi_308_4 : XIs := [(114, .invokevirtual 424, 3), (117, .aload_n 0, 1), (118, .aload_n 0, 1), (119, .getfield 26, 3), (122, .iload_n 1, 1), (123, .iaload, 1), (124, .invokevirtual 424, 3), (127, .aload_n 0, 1), (128, .aload_n 0, 1), (129, .getfield 29, 3), (132, .iload_n 1, 1), (133, .iaload, 1), (134, .invokevirtual 424, 3), (137, .aload_n 0, 1), (138, .bipush 32, 2), (140, .invokevirtual 421, 3)]
noncomputable def xi_308_5 : XIs := [(143, .aload_n 0, 1), (144, .bipush 97, 2), (146, .aload_n 0, 1), (147, .getfield 32, 3), (150, .iload_n 1, 1), (151, .iaload, 1), (152, .iadd, 1), (153, .invokevirtual 421, 3), (156, .aload_n 0, 1), (157, .bipush 59, 2), (159, .invokevirtual 421, 3), (162, .iinc 1 1, 3), (165, .goto (-95), 3), (168, .aload_n 0, 1), (169, .getfield 418, 3), (172, .ireturn, 1)]
set_option maxRecDepth 100000 in
theorem xi_w308 : xi_ok cX12_print (xi_308_0 ++ (xi_308_1 ++ (xi_308_2 ++ (xi_308_3 ++ (xi_308_4 ++ (xi_308_5)))))) = true := dl_all _ _ (by decide +kernel)
theorem xi_ok308_0 : xi_ok cX12_print xi_308_0 = true := (xi_ap xi_w308).1
theorem xi_r308_1 : xi_ok cX12_print (xi_308_1 ++ (xi_308_2 ++ (xi_308_3 ++ (xi_308_4 ++ (xi_308_5))))) = true := (xi_ap xi_w308).2
theorem xi_ok308_1 : xi_ok cX12_print xi_308_1 = true := (xi_ap xi_r308_1).1
theorem xi_r308_2 : xi_ok cX12_print (xi_308_2 ++ (xi_308_3 ++ (xi_308_4 ++ (xi_308_5)))) = true := (xi_ap xi_r308_1).2
theorem xi_ok308_2 : xi_ok cX12_print xi_308_2 = true := (xi_ap xi_r308_2).1
theorem xi_r308_3 : xi_ok cX12_print (xi_308_3 ++ (xi_308_4 ++ (xi_308_5))) = true := (xi_ap xi_r308_2).2
theorem xi_ok308_3 : xi_ok cX12_print xi_308_3 = true := (xi_ap xi_r308_3).1
theorem xi_r308_4 : xi_ok cX12_print (xi_308_4 ++ (xi_308_5)) = true := (xi_ap xi_r308_3).2
theorem xi_ok308_4 : xi_ok cX12_print xi_308_4 = true := (xi_ap xi_r308_4).1
theorem xi_r308_5 : xi_ok cX12_print (xi_308_5) = true := (xi_ap xi_r308_4).2
theorem xi_ok308_5 : xi_ok cX12_print xi_308_5 = true := xi_r308_5
noncomputable def xi_308 (pc : Nat) : XIs := cond (Nat.blt pc 87) (cond (Nat.blt pc 27) (xi_308_0) (cond (Nat.blt pc 54) (xi_308_1) (xi_308_2))) (cond (Nat.blt pc 114) (xi_308_3) (cond (Nat.blt pc 143) (xi_308_4) (xi_308_5)))
theorem xi_ok308 (pc : Nat) : xi_ok cX12_print (xi_308 pc) = true := xi_c (xi_c (xi_ok308_0) (xi_c (xi_ok308_1) (xi_ok308_2))) (xi_c (xi_ok308_3) (xi_c (xi_ok308_4) (xi_ok308_5)))
noncomputable def xi_309_0 : XIs := [(0, .aload_n 0, 1), (1, .iload_n 1, 1), (2, .ifCond .lt 15, 3), (5, .iload_n 1, 1), (6, .aload_n 0, 1), (7, .getfield 418, 3), (10, .if_icmp .ge 7, 3), (13, .iconst 1, 1), (14, .goto 4, 3), (17, .iconst 0, 1), (18, .invokevirtual 334, 3), (21, .ifCond .eq 7, 3), (24, .iconst 0, 1), (25, .goto 9, 3), (28, .aload_n 0, 1), (29, .getfield 63, 3)]
noncomputable def xi_309_1 : XIs := [(32, .iload_n 1, 1), (33, .iaload, 1), (34, .ireturn, 1)]
set_option maxRecDepth 100000 in
theorem xi_w309 : xi_ok cX12_printed (xi_309_0 ++ (xi_309_1)) = true := dl_all _ _ (by decide +kernel)
theorem xi_ok309_0 : xi_ok cX12_printed xi_309_0 = true := (xi_ap xi_w309).1
theorem xi_r309_1 : xi_ok cX12_printed (xi_309_1) = true := (xi_ap xi_w309).2
theorem xi_ok309_1 : xi_ok cX12_printed xi_309_1 = true := xi_r309_1
noncomputable def xi_309 (pc : Nat) : XIs := cond (Nat.blt pc 32) (xi_309_0) (xi_309_1)
theorem xi_ok309 (pc : Nat) : xi_ok cX12_printed (xi_309 pc) = true := xi_c (xi_ok309_0) (xi_ok309_1)
noncomputable def xi_310_0 : XIs := [(0, .iconst 0, 1), (1, .istore 4, 2), (3, .iload 4, 2), (5, .aload_n 0, 1), (6, .getfield 285, 3), (9, .if_icmp .ge 30, 3), (12, .aload_n 0, 1), (13, .getfield 72, 3), (16, .iload 4, 2), (18, .iload 4, 2), (20, .iload_n 3, 1), (21, .if_icmp .ne 7, 3), (24, .iconst 0, 1), (25, .goto 7, 3), (28, .iconst 1, 1), (29, .iload 4, 2)]
noncomputable def xi_310_1 : XIs := [(31, .ishl, 1), (32, .iastore, 1), (33, .iinc 4 1, 3), (36, .goto (-33), 3), (39, .iconst 0, 1), (40, .istore 4, 2), (42, .iload 4, 2), (44, .sipush 160, 3), (47, .if_icmp .ge 106, 3), (50, .aload_n 0, 1), (51, .getfield 20, 3), (54, .aload_n 0, 1), (55, .getfield 288, 3), (58, .iload 4, 2), (60, .iadd, 1), (61, .iaload, 1)]
noncomputable def xi_310_2 : XIs := [(62, .istore 5, 2), (64, .aload_n 0, 1), (65, .getfield 23, 3), (68, .aload_n 0, 1), (69, .getfield 288, 3), (72, .iload 4, 2), (74, .iadd, 1), (75, .iaload, 1), (76, .istore 6, 2), (78, .aload_n 0, 1), (79, .getfield 16, 3), (82, .aload_n 0, 1), (83, .getfield 288, 3), (86, .iload 4, 2), (88, .iadd, 1), (89, .baload, 1)]
noncomputable def xi_310_3 : XIs := [(90, .ifCond .eq 57, 3), (93, .iload 4, 2), (95, .iload_n 2, 1), (96, .if_icmp .eq 51, 3), (99, .iload 5, 2), (101, .iload_n 3, 1), (102, .if_icmp .eq 45, 3), (105, .iload 6, 2), (107, .iload_n 3, 1), (108, .if_icmp .eq 39, 3), (111, .aload_n 0, 1), (112, .getfield 72, 3), (115, .iload 5, 2), (117, .dup2, 1), (118, .iaload, 1), (119, .iconst 1, 1)]
noncomputable def xi_310_4 : XIs := [(120, .iload 6, 2), (122, .ishl, 1), (123, .ior, 1), (124, .iastore, 1), (125, .aload_n 0, 1), (126, .getfield 72, 3), (129, .iload 6, 2), (131, .dup2, 1), (132, .iaload, 1), (133, .iload_n 1, 1), (134, .ifCond .eq 10, 3), (137, .iconst 1, 1), (138, .iload 5, 2), (140, .ishl, 1), (141, .goto 4, 3), (144, .iconst 0, 1)]
noncomputable def xi_310_5 : XIs := [(145, .ior, 1), (146, .iastore, 1), (147, .iinc 4 1, 3), (150, .goto (-108), 3), (153, .iconst 0, 1), (154, .istore 4, 2), (156, .iload 4, 2), (158, .aload_n 0, 1), (159, .getfield 285, 3), (162, .if_icmp .ge 64, 3), (165, .iconst 0, 1), (166, .istore 5, 2), (168, .iload 5, 2), (170, .aload_n 0, 1), (171, .getfield 285, 3), (174, .if_icmp .ge 46, 3)]
noncomputable def xi_310_6 : XIs := [(177, .aload_n 0, 1), (178, .getfield 72, 3), (181, .iload 5, 2), (183, .dup2, 1), (184, .iaload, 1), (185, .aload_n 0, 1), (186, .getfield 72, 3), (189, .iload 5, 2), (191, .iaload, 1), (192, .iload 4, 2), (194, .ishr, 1), (195, .iconst 1, 1), (196, .iand, 1), (197, .iconst 1, 1), (198, .if_icmp .ne 13, 3), (201, .aload_n 0, 1)]
noncomputable def xi_310_7 : XIs := [(202, .getfield 72, 3), (205, .iload 4, 2), (207, .iaload, 1), (208, .goto 4, 3), (211, .iconst 0, 1), (212, .ior, 1), (213, .iastore, 1), (214, .iinc 5 1, 3), (217, .goto (-49), 3), (220, .iinc 4 1, 3), (223, .goto (-67), 3), (226, .return_, 1)]
set_option maxRecDepth 100000 in
theorem xi_w310 : xi_ok cX12_close (xi_310_0 ++ (xi_310_1 ++ (xi_310_2 ++ (xi_310_3 ++ (xi_310_4 ++ (xi_310_5 ++ (xi_310_6 ++ (xi_310_7)))))))) = true := dl_all _ _ (by decide +kernel)
theorem xi_ok310_0 : xi_ok cX12_close xi_310_0 = true := (xi_ap xi_w310).1
theorem xi_r310_1 : xi_ok cX12_close (xi_310_1 ++ (xi_310_2 ++ (xi_310_3 ++ (xi_310_4 ++ (xi_310_5 ++ (xi_310_6 ++ (xi_310_7))))))) = true := (xi_ap xi_w310).2
theorem xi_ok310_1 : xi_ok cX12_close xi_310_1 = true := (xi_ap xi_r310_1).1
theorem xi_r310_2 : xi_ok cX12_close (xi_310_2 ++ (xi_310_3 ++ (xi_310_4 ++ (xi_310_5 ++ (xi_310_6 ++ (xi_310_7)))))) = true := (xi_ap xi_r310_1).2
theorem xi_ok310_2 : xi_ok cX12_close xi_310_2 = true := (xi_ap xi_r310_2).1
theorem xi_r310_3 : xi_ok cX12_close (xi_310_3 ++ (xi_310_4 ++ (xi_310_5 ++ (xi_310_6 ++ (xi_310_7))))) = true := (xi_ap xi_r310_2).2
theorem xi_ok310_3 : xi_ok cX12_close xi_310_3 = true := (xi_ap xi_r310_3).1
theorem xi_r310_4 : xi_ok cX12_close (xi_310_4 ++ (xi_310_5 ++ (xi_310_6 ++ (xi_310_7)))) = true := (xi_ap xi_r310_3).2
theorem xi_ok310_4 : xi_ok cX12_close xi_310_4 = true := (xi_ap xi_r310_4).1
theorem xi_r310_5 : xi_ok cX12_close (xi_310_5 ++ (xi_310_6 ++ (xi_310_7))) = true := (xi_ap xi_r310_4).2
theorem xi_ok310_5 : xi_ok cX12_close xi_310_5 = true := (xi_ap xi_r310_5).1
theorem xi_r310_6 : xi_ok cX12_close (xi_310_6 ++ (xi_310_7)) = true := (xi_ap xi_r310_5).2
theorem xi_ok310_6 : xi_ok cX12_close xi_310_6 = true := (xi_ap xi_r310_6).1
theorem xi_r310_7 : xi_ok cX12_close (xi_310_7) = true := (xi_ap xi_r310_6).2
theorem xi_ok310_7 : xi_ok cX12_close xi_310_7 = true := xi_r310_7
noncomputable def xi_310 (pc : Nat) : XIs := cond (Nat.blt pc 120) (cond (Nat.blt pc 62) (cond (Nat.blt pc 31) (xi_310_0) (xi_310_1)) (cond (Nat.blt pc 90) (xi_310_2) (xi_310_3))) (cond (Nat.blt pc 177) (cond (Nat.blt pc 145) (xi_310_4) (xi_310_5)) (cond (Nat.blt pc 202) (xi_310_6) (xi_310_7)))
theorem xi_ok310 (pc : Nat) : xi_ok cX12_close (xi_310 pc) = true := xi_c (xi_c (xi_c (xi_ok310_0) (xi_ok310_1)) (xi_c (xi_ok310_2) (xi_ok310_3))) (xi_c (xi_c (xi_ok310_4) (xi_ok310_5)) (xi_c (xi_ok310_6) (xi_ok310_7)))
noncomputable def xi_311_0 : XIs := [(0, .iload_n 0, 1), (1, .iload_n 1, 1), (2, .ishr, 1), (3, .iconst 1, 1), (4, .iand, 1), (5, .iconst 1, 1), (6, .if_icmp .ne 7, 3), (9, .iconst 1, 1), (10, .goto 4, 3), (13, .iconst 0, 1), (14, .ireturn, 1)]
set_option maxRecDepth 100000 in
theorem xi_w311 : xi_ok cX12_has (xi_311_0) = true := dl_all _ _ (by decide +kernel)
theorem xi_ok311_0 : xi_ok cX12_has xi_311_0 = true := xi_w311
noncomputable def xi_311 (pc : Nat) : XIs := xi_311_0
theorem xi_ok311 (pc : Nat) : xi_ok cX12_has (xi_311 pc) = true := xi_ok311_0
noncomputable def xi_312_0 : XIs := [(0, .iconst 0, 1), (1, .istore_n 3, 1), (2, .iload_n 3, 1), (3, .aload_n 0, 1), (4, .getfield 285, 3), (7, .if_icmp .ge 25, 3), (10, .aload_n 0, 1), (11, .getfield 75, 3), (14, .iload_n 3, 1), (15, .ldc2_w 347, 3), (18, .lastore, 1), (19, .aload_n 0, 1), (20, .getfield 79, 3), (23, .iload_n 3, 1), (24, .iconst 0, 1), (25, .iastore, 1)]
noncomputable def xi_312_1 : XIs := [(26, .iinc 3 1, 3), (29, .goto (-27), 3), (32, .aload_n 0, 1), (33, .getfield 75, 3), (36, .iload_n 1, 1), (37, .lconst 0, 1), (38, .lastore, 1), (39, .iconst 1, 1), (40, .istore_n 3, 1), (41, .iconst 0, 1), (42, .istore 4, 2), (44, .iload 4, 2), (46, .aload_n 0, 1), (47, .getfield 285, 3), (50, .if_icmp .gt 184, 3), (53, .iload_n 3, 1)]
noncomputable def xi_312_2 : XIs := [(54, .ifCond .eq 180, 3), (57, .iconst 0, 1), (58, .istore_n 3, 1), (59, .aload_n 0, 1), (60, .getfield 288, 3), (63, .istore 5, 2), (65, .iload 5, 2), (67, .aload_n 0, 1), (68, .getfield 288, 3), (71, .sipush 160, 3), (74, .iadd, 1), (75, .if_icmp .ge 153, 3), (78, .aload_n 0, 1), (79, .getfield 16, 3), (82, .iload 5, 2), (84, .baload, 1)]
noncomputable def xi_312_3 : XIs := [(85, .ifCond .eq 137, 3), (88, .iload_n 2, 1), (89, .aload_n 0, 1), (90, .getfield 20, 3), (93, .iload 5, 2), (95, .iaload, 1), (96, .invokestatic 427, 3), (99, .ifCond .eq 123, 3), (102, .iload_n 2, 1), (103, .aload_n 0, 1), (104, .getfield 23, 3), (107, .iload 5, 2), (109, .iaload, 1), (110, .invokestatic 427, 3), (113, .ifCond .eq 109, 3), (116, .aload_n 0, 1)]
noncomputable def xi_312_4 : XIs := [(117, .getfield 75, 3), (120, .aload_n 0, 1), (121, .getfield 23, 3), (124, .iload 5, 2), (126, .iaload, 1), (127, .laload, 1), (128, .ldc2_w 347, 3), (131, .lcmp, 1), (132, .ifCond .ge 90, 3), (135, .aload_n 0, 1), (136, .getfield 75, 3), (139, .aload_n 0, 1), (140, .getfield 23, 3), (143, .iload 5, 2), (145, .iaload, 1), (146, .laload, 1)]
noncomputable def xi_312_5 : XIs := [(147, .aload_n 0, 1), (148, .getfield 26, 3), (151, .iload 5, 2), (153, .iaload, 1), (154, .i2l, 1), (155, .ladd, 1), (156, .lstore 6, 2), (158, .aload_n 0, 1), (159, .getfield 79, 3), (162, .aload_n 0, 1), (163, .getfield 23, 3), (166, .iload 5, 2), (168, .iaload, 1), (169, .iaload, 1), (170, .iconst 1, 1), (171, .iadd, 1)]
noncomputable def xi_312_6 : XIs := [(172, .istore 8, 2), (174, .lload 6, 2), (176, .aload_n 0, 1), (177, .getfield 75, 3), (180, .aload_n 0, 1), (181, .getfield 20, 3), (184, .iload 5, 2), (186, .iaload, 1), (187, .laload, 1), (188, .lcmp, 1), (189, .ifCond .ge 33, 3), (192, .aload_n 0, 1), (193, .getfield 75, 3), (196, .aload_n 0, 1), (197, .getfield 20, 3), (200, .iload 5, 2)]
noncomputable def xi_312_7 : XIs := [(202, .iaload, 1), (203, .lload 6, 2), (205, .lastore, 1), (206, .aload_n 0, 1), (207, .getfield 79, 3), (210, .aload_n 0, 1), (211, .getfield 20, 3), (214, .iload 5, 2), (216, .iaload, 1), (217, .iload 8, 2), (219, .iastore, 1), (220, .iconst 1, 1), (221, .istore_n 3, 1), (222, .iinc 5 1, 3), (225, .goto (-160), 3), (228, .iinc 4 1, 3)]
noncomputable def xi_312_8 : XIs := [(231, .goto (-187), 3), (234, .iload_n 3, 1), (235, .ifCond .eq 5, 3), (238, .iconst 0, 1), (239, .ireturn, 1), (240, .aload_n 0, 1), (241, .iload_n 1, 1), (242, .iload_n 2, 1), (243, .invokevirtual 430, 3), (246, .iconst 1, 1), (247, .ireturn, 1)]
set_option maxRecDepth 100000 in
theorem xi_w312 : xi_ok cX12_toGoal (xi_312_0 ++ (xi_312_1 ++ (xi_312_2 ++ (xi_312_3 ++ (xi_312_4 ++ (xi_312_5 ++ (xi_312_6 ++ (xi_312_7 ++ (xi_312_8))))))))) = true := dl_all _ _ (by decide +kernel)
theorem xi_ok312_0 : xi_ok cX12_toGoal xi_312_0 = true := (xi_ap xi_w312).1
theorem xi_r312_1 : xi_ok cX12_toGoal (xi_312_1 ++ (xi_312_2 ++ (xi_312_3 ++ (xi_312_4 ++ (xi_312_5 ++ (xi_312_6 ++ (xi_312_7 ++ (xi_312_8)))))))) = true := (xi_ap xi_w312).2
theorem xi_ok312_1 : xi_ok cX12_toGoal xi_312_1 = true := (xi_ap xi_r312_1).1
theorem xi_r312_2 : xi_ok cX12_toGoal (xi_312_2 ++ (xi_312_3 ++ (xi_312_4 ++ (xi_312_5 ++ (xi_312_6 ++ (xi_312_7 ++ (xi_312_8))))))) = true := (xi_ap xi_r312_1).2
theorem xi_ok312_2 : xi_ok cX12_toGoal xi_312_2 = true := (xi_ap xi_r312_2).1
theorem xi_r312_3 : xi_ok cX12_toGoal (xi_312_3 ++ (xi_312_4 ++ (xi_312_5 ++ (xi_312_6 ++ (xi_312_7 ++ (xi_312_8)))))) = true := (xi_ap xi_r312_2).2
theorem xi_ok312_3 : xi_ok cX12_toGoal xi_312_3 = true := (xi_ap xi_r312_3).1
theorem xi_r312_4 : xi_ok cX12_toGoal (xi_312_4 ++ (xi_312_5 ++ (xi_312_6 ++ (xi_312_7 ++ (xi_312_8))))) = true := (xi_ap xi_r312_3).2
theorem xi_ok312_4 : xi_ok cX12_toGoal xi_312_4 = true := (xi_ap xi_r312_4).1
theorem xi_r312_5 : xi_ok cX12_toGoal (xi_312_5 ++ (xi_312_6 ++ (xi_312_7 ++ (xi_312_8)))) = true := (xi_ap xi_r312_4).2
theorem xi_ok312_5 : xi_ok cX12_toGoal xi_312_5 = true := (xi_ap xi_r312_5).1
theorem xi_r312_6 : xi_ok cX12_toGoal (xi_312_6 ++ (xi_312_7 ++ (xi_312_8))) = true := (xi_ap xi_r312_5).2
theorem xi_ok312_6 : xi_ok cX12_toGoal xi_312_6 = true := (xi_ap xi_r312_6).1
theorem xi_r312_7 : xi_ok cX12_toGoal (xi_312_7 ++ (xi_312_8)) = true := (xi_ap xi_r312_6).2
theorem xi_ok312_7 : xi_ok cX12_toGoal xi_312_7 = true := (xi_ap xi_r312_7).1
theorem xi_r312_8 : xi_ok cX12_toGoal (xi_312_8) = true := (xi_ap xi_r312_7).2
theorem xi_ok312_8 : xi_ok cX12_toGoal xi_312_8 = true := xi_r312_8
noncomputable def xi_312 (pc : Nat) : XIs := cond (Nat.blt pc 117) (cond (Nat.blt pc 54) (cond (Nat.blt pc 26) (xi_312_0) (xi_312_1)) (cond (Nat.blt pc 85) (xi_312_2) (xi_312_3))) (cond (Nat.blt pc 172) (cond (Nat.blt pc 147) (xi_312_4) (xi_312_5)) (cond (Nat.blt pc 202) (xi_312_6) (cond (Nat.blt pc 231) (xi_312_7) (xi_312_8))))
theorem xi_ok312 (pc : Nat) : xi_ok cX12_toGoal (xi_312 pc) = true := xi_c (xi_c (xi_c (xi_ok312_0) (xi_ok312_1)) (xi_c (xi_ok312_2) (xi_ok312_3))) (xi_c (xi_c (xi_ok312_4) (xi_ok312_5)) (xi_c (xi_ok312_6) (xi_c (xi_ok312_7) (xi_ok312_8))))
noncomputable def xi_313_0 : XIs := [(0, .iconst 0, 1), (1, .istore_n 3, 1), (2, .iload_n 3, 1), (3, .aload_n 0, 1), (4, .getfield 285, 3), (7, .if_icmp .ge 27, 3), (10, .aload_n 0, 1), (11, .getfield 79, 3), (14, .iload_n 3, 1), (15, .iload_n 3, 1), (16, .iload_n 1, 1), (17, .if_icmp .ne 7, 3), (20, .iconst 0, 1), (21, .goto 6, 3), (24, .sipush 1000, 3), (27, .iastore, 1)]
noncomputable def xi_313_1 : XIs := [(28, .iinc 3 1, 3), (31, .goto (-29), 3), (34, .iconst 0, 1), (35, .istore_n 3, 1), (36, .iload_n 3, 1), (37, .aload_n 0, 1), (38, .getfield 285, 3), (41, .if_icmp .ge 190, 3), (44, .aload_n 0, 1), (45, .getfield 288, 3), (48, .istore 4, 2), (50, .iload 4, 2), (52, .aload_n 0, 1), (53, .getfield 288, 3), (56, .sipush 160, 3), (59, .iadd, 1)]
noncomputable def xi_313_2 : XIs := [(60, .if_icmp .ge 165, 3), (63, .aload_n 0, 1), (64, .getfield 16, 3), (67, .iload 4, 2), (69, .baload, 1), (70, .ifCond .eq 149, 3), (73, .iload_n 2, 1), (74, .aload_n 0, 1), (75, .getfield 20, 3), (78, .iload 4, 2), (80, .iaload, 1), (81, .invokestatic 427, 3), (84, .ifCond .eq 135, 3), (87, .iload_n 2, 1), (88, .aload_n 0, 1), (89, .getfield 23, 3)]
noncomputable def xi_313_3 : XIs := [(92, .iload 4, 2), (94, .iaload, 1), (95, .invokestatic 427, 3), (98, .ifCond .eq 121, 3), (101, .aload_n 0, 1), (102, .getfield 75, 3), (105, .aload_n 0, 1), (106, .getfield 23, 3), (109, .iload 4, 2), (111, .iaload, 1), (112, .laload, 1), (113, .ldc2_w 347, 3), (116, .lcmp, 1), (117, .ifCond .ge 102, 3), (120, .aload_n 0, 1), (121, .getfield 75, 3)]
noncomputable def xi_313_4 : XIs := [(124, .aload_n 0, 1), (125, .getfield 20, 3), (128, .iload 4, 2), (130, .iaload, 1), (131, .laload, 1), (132, .aload_n 0, 1), (133, .getfield 75, 3), (136, .aload_n 0, 1), (137, .getfield 23, 3), (140, .iload 4, 2), (142, .iaload, 1), (143, .laload, 1), (144, .aload_n 0, 1), (145, .getfield 26, 3), (148, .iload 4, 2), (150, .iaload, 1)]
noncomputable def xi_313_5 : XIs := [(151, .i2l, 1), (152, .ladd, 1), (153, .lcmp, 1), (154, .ifCond .ne 65, 3), (157, .aload_n 0, 1), (158, .getfield 79, 3), (161, .aload_n 0, 1), (162, .getfield 23, 3), (165, .iload 4, 2), (167, .iaload, 1), (168, .iaload, 1), (169, .iconst 1, 1), (170, .iadd, 1), (171, .istore 5, 2), (173, .aload_n 0, 1), (174, .getfield 79, 3)]
noncomputable def xi_313_6 : XIs := [(177, .aload_n 0, 1), (178, .getfield 20, 3), (181, .iload 4, 2), (183, .iaload, 1), (184, .iload 5, 2), (186, .aload_n 0, 1), (187, .getfield 79, 3), (190, .aload_n 0, 1), (191, .getfield 20, 3), (194, .iload 4, 2), (196, .iaload, 1), (197, .iaload, 1), (198, .if_icmp .ge 8, 3), (201, .iload 5, 2), (203, .goto 15, 3), (206, .aload_n 0, 1)]
noncomputable def xi_313_7 : XIs := [(207, .getfield 79, 3), (210, .aload_n 0, 1), (211, .getfield 20, 3), (214, .iload 4, 2), (216, .iaload, 1), (217, .iaload, 1), (218, .iastore, 1), (219, .iinc 4 1, 3), (222, .goto (-172), 3), (225, .iinc 3 1, 3), (228, .goto (-192), 3), (231, .return_, 1)]
set_option maxRecDepth 100000 in
theorem xi_w313 : xi_ok cX12_fewest (xi_313_0 ++ (xi_313_1 ++ (xi_313_2 ++ (xi_313_3 ++ (xi_313_4 ++ (xi_313_5 ++ (xi_313_6 ++ (xi_313_7)))))))) = true := dl_all _ _ (by decide +kernel)
theorem xi_ok313_0 : xi_ok cX12_fewest xi_313_0 = true := (xi_ap xi_w313).1
theorem xi_r313_1 : xi_ok cX12_fewest (xi_313_1 ++ (xi_313_2 ++ (xi_313_3 ++ (xi_313_4 ++ (xi_313_5 ++ (xi_313_6 ++ (xi_313_7))))))) = true := (xi_ap xi_w313).2
theorem xi_ok313_1 : xi_ok cX12_fewest xi_313_1 = true := (xi_ap xi_r313_1).1
theorem xi_r313_2 : xi_ok cX12_fewest (xi_313_2 ++ (xi_313_3 ++ (xi_313_4 ++ (xi_313_5 ++ (xi_313_6 ++ (xi_313_7)))))) = true := (xi_ap xi_r313_1).2
theorem xi_ok313_2 : xi_ok cX12_fewest xi_313_2 = true := (xi_ap xi_r313_2).1
theorem xi_r313_3 : xi_ok cX12_fewest (xi_313_3 ++ (xi_313_4 ++ (xi_313_5 ++ (xi_313_6 ++ (xi_313_7))))) = true := (xi_ap xi_r313_2).2
theorem xi_ok313_3 : xi_ok cX12_fewest xi_313_3 = true := (xi_ap xi_r313_3).1
theorem xi_r313_4 : xi_ok cX12_fewest (xi_313_4 ++ (xi_313_5 ++ (xi_313_6 ++ (xi_313_7)))) = true := (xi_ap xi_r313_3).2
theorem xi_ok313_4 : xi_ok cX12_fewest xi_313_4 = true := (xi_ap xi_r313_4).1
theorem xi_r313_5 : xi_ok cX12_fewest (xi_313_5 ++ (xi_313_6 ++ (xi_313_7))) = true := (xi_ap xi_r313_4).2
theorem xi_ok313_5 : xi_ok cX12_fewest xi_313_5 = true := (xi_ap xi_r313_5).1
theorem xi_r313_6 : xi_ok cX12_fewest (xi_313_6 ++ (xi_313_7)) = true := (xi_ap xi_r313_5).2
theorem xi_ok313_6 : xi_ok cX12_fewest xi_313_6 = true := (xi_ap xi_r313_6).1
theorem xi_r313_7 : xi_ok cX12_fewest (xi_313_7) = true := (xi_ap xi_r313_6).2
theorem xi_ok313_7 : xi_ok cX12_fewest xi_313_7 = true := xi_r313_7
noncomputable def xi_313 (pc : Nat) : XIs := cond (Nat.blt pc 124) (cond (Nat.blt pc 60) (cond (Nat.blt pc 28) (xi_313_0) (xi_313_1)) (cond (Nat.blt pc 92) (xi_313_2) (xi_313_3))) (cond (Nat.blt pc 177) (cond (Nat.blt pc 151) (xi_313_4) (xi_313_5)) (cond (Nat.blt pc 207) (xi_313_6) (xi_313_7)))
theorem xi_ok313 (pc : Nat) : xi_ok cX12_fewest (xi_313 pc) = true := xi_c (xi_c (xi_c (xi_ok313_0) (xi_ok313_1)) (xi_c (xi_ok313_2) (xi_ok313_3))) (xi_c (xi_c (xi_ok313_4) (xi_ok313_5)) (xi_c (xi_ok313_6) (xi_ok313_7)))
noncomputable def xi_314_0 : XIs := [(0, .aload_n 0, 1), (1, .iconst 0, 1), (2, .iconst (-1), 1), (3, .iconst (-1), 1), (4, .invokevirtual 433, 3), (7, .iconst 0, 1), (8, .istore_n 3, 1), (9, .iconst 0, 1), (10, .istore 4, 2), (12, .iload 4, 2), (14, .aload_n 0, 1), (15, .getfield 285, 3), (18, .if_icmp .ge 48, 3), (21, .iload_n 3, 1), (22, .aload_n 0, 1), (23, .getfield 72, 3)]
noncomputable def xi_314_1 : XIs := [(26, .iload_n 1, 1), (27, .iaload, 1), (28, .iload 4, 2), (30, .invokestatic 427, 3), (33, .ifCond .eq 24, 3), (36, .aload_n 0, 1), (37, .getfield 72, 3), (40, .iload 4, 2), (42, .iaload, 1), (43, .iload_n 2, 1), (44, .invokestatic 427, 3), (47, .ifCond .eq 10, 3), (50, .iconst 1, 1), (51, .iload 4, 2), (53, .ishl, 1), (54, .goto 4, 3)]
noncomputable def xi_314_2 : XIs := [(57, .iconst 0, 1), (58, .ior, 1), (59, .istore_n 3, 1), (60, .iinc 4 1, 3), (63, .goto (-51), 3), (66, .iload_n 3, 1), (67, .ireturn, 1)]
set_option maxRecDepth 100000 in
theorem xi_w314 : xi_ok cX12_between (xi_314_0 ++ (xi_314_1 ++ (xi_314_2))) = true := dl_all _ _ (by decide +kernel)
theorem xi_ok314_0 : xi_ok cX12_between xi_314_0 = true := (xi_ap xi_w314).1
theorem xi_r314_1 : xi_ok cX12_between (xi_314_1 ++ (xi_314_2)) = true := (xi_ap xi_w314).2
theorem xi_ok314_1 : xi_ok cX12_between xi_314_1 = true := (xi_ap xi_r314_1).1
theorem xi_r314_2 : xi_ok cX12_between (xi_314_2) = true := (xi_ap xi_r314_1).2
theorem xi_ok314_2 : xi_ok cX12_between xi_314_2 = true := xi_r314_2
noncomputable def xi_314 (pc : Nat) : XIs := cond (Nat.blt pc 26) (xi_314_0) (cond (Nat.blt pc 57) (xi_314_1) (xi_314_2))
theorem xi_ok314 (pc : Nat) : xi_ok cX12_between (xi_314 pc) = true := xi_c (xi_ok314_0) (xi_c (xi_ok314_1) (xi_ok314_2))
noncomputable def xi_315_0 : XIs := [(0, .aload_n 0, 1), (1, .aload_n 0, 1), (2, .iload_n 1, 1), (3, .invokevirtual 349, 3), (6, .ifCond .eq 15, 3), (9, .aload_n 0, 1), (10, .iload_n 2, 1), (11, .invokevirtual 349, 3), (14, .ifCond .eq 7, 3), (17, .iconst 1, 1), (18, .goto 4, 3), (21, .iconst 0, 1), (22, .invokevirtual 334, 3), (25, .ifCond .eq 5, 3), (28, .lconst 0, 1), (29, .lreturn, 1)]
noncomputable def xi_315_1 : XIs := [(30, .aload_n 0, 1), (31, .iload_n 1, 1), (32, .iload_n 2, 1), (33, .invokevirtual 437, 3), (36, .istore_n 3, 1), (37, .iload_n 3, 1), (38, .ifCond .ne 9, 3), (41, .ldc2_w 347, 3), (44, .goto 24, 3), (47, .aload_n 0, 1), (48, .iload_n 2, 1), (49, .iload_n 3, 1), (50, .invokevirtual 440, 3), (53, .ifCond .eq 12, 3), (56, .aload_n 0, 1), (57, .getfield 75, 3)]
noncomputable def xi_315_2 : XIs := [(60, .iload_n 1, 1), (61, .laload, 1), (62, .goto 6, 3), (65, .ldc2_w 443, 3), (68, .lreturn, 1)]
set_option maxRecDepth 100000 in
theorem xi_w315 : xi_ok cX12_distance (xi_315_0 ++ (xi_315_1 ++ (xi_315_2))) = true := dl_all _ _ (by decide +kernel)
theorem xi_ok315_0 : xi_ok cX12_distance xi_315_0 = true := (xi_ap xi_w315).1
theorem xi_r315_1 : xi_ok cX12_distance (xi_315_1 ++ (xi_315_2)) = true := (xi_ap xi_w315).2
theorem xi_ok315_1 : xi_ok cX12_distance xi_315_1 = true := (xi_ap xi_r315_1).1
theorem xi_r315_2 : xi_ok cX12_distance (xi_315_2) = true := (xi_ap xi_r315_1).2
theorem xi_ok315_2 : xi_ok cX12_distance xi_315_2 = true := xi_r315_2
noncomputable def xi_315 (pc : Nat) : XIs := cond (Nat.blt pc 30) (xi_315_0) (cond (Nat.blt pc 60) (xi_315_1) (xi_315_2))
theorem xi_ok315 (pc : Nat) : xi_ok cX12_distance (xi_315 pc) = true := xi_c (xi_ok315_0) (xi_c (xi_ok315_1) (xi_ok315_2))
noncomputable def xi_316_0 : XIs := [(0, .aload_n 0, 1), (1, .aload_n 0, 1), (2, .iload_n 1, 1), (3, .invokevirtual 349, 3), (6, .ifCond .eq 19, 3), (9, .aload_n 0, 1), (10, .iload_n 2, 1), (11, .invokevirtual 349, 3), (14, .ifCond .eq 11, 3), (17, .iload_n 3, 1), (18, .ifCond .lt 7, 3), (21, .iconst 1, 1), (22, .goto 4, 3), (25, .iconst 0, 1), (26, .invokevirtual 334, 3), (29, .ifCond .eq 5, 3)]
noncomputable def xi_316_1 : XIs := [(32, .iconst 0, 1), (33, .ireturn, 1), (34, .aload_n 0, 1), (35, .iload_n 1, 1), (36, .iload_n 2, 1), (37, .invokevirtual 437, 3), (40, .istore 4, 2), (42, .iload 4, 2), (44, .ifCond .eq 23, 3), (47, .aload_n 0, 1), (48, .iload_n 2, 1), (49, .iload 4, 2), (51, .invokevirtual 440, 3), (54, .ifCond .eq 13, 3), (57, .iload_n 3, 1), (58, .aload_n 0, 1)]
noncomputable def xi_316_2 : XIs := [(59, .getfield 79, 3), (62, .iload_n 1, 1), (63, .iaload, 1), (64, .if_icmp .lt 5, 3), (67, .iconst (-1), 1), (68, .ireturn, 1), (69, .iload_n 1, 1), (70, .istore 5, 2), (72, .iconst (-1), 1), (73, .istore 6, 2), (75, .iconst 0, 1), (76, .istore 7, 2), (78, .iload 7, 2), (80, .iload_n 3, 1), (81, .if_icmp .gt 184, 3), (84, .iconst (-1), 1)]
noncomputable def xi_316_3 : XIs := [(85, .istore 6, 2), (87, .sipush 159, 3), (90, .istore 8, 2), (92, .iload 8, 2), (94, .ifCond .lt 151, 3), (97, .aload_n 0, 1), (98, .getfield 288, 3), (101, .iload 8, 2), (103, .iadd, 1), (104, .istore 9, 2), (106, .aload_n 0, 1), (107, .getfield 16, 3), (110, .iload 9, 2), (112, .baload, 1), (113, .ifCond .eq 53, 3), (116, .aload_n 0, 1)]
noncomputable def xi_316_4 : XIs := [(117, .getfield 20, 3), (120, .iload 9, 2), (122, .iaload, 1), (123, .iload 5, 2), (125, .if_icmp .ne 41, 3), (128, .iload 4, 2), (130, .aload_n 0, 1), (131, .getfield 23, 3), (134, .iload 9, 2), (136, .iaload, 1), (137, .invokestatic 427, 3), (140, .ifCond .eq 26, 3), (143, .aload_n 0, 1), (144, .getfield 75, 3), (147, .aload_n 0, 1), (148, .getfield 23, 3)]
noncomputable def xi_316_5 : XIs := [(151, .iload 9, 2), (153, .iaload, 1), (154, .laload, 1), (155, .ldc2_w 347, 3), (158, .lcmp, 1), (159, .ifCond .ge 7, 3), (162, .iconst 1, 1), (163, .goto 4, 3), (166, .iconst 0, 1), (167, .istore 10, 2), (169, .iload 10, 2), (171, .ifCond .eq 64, 3), (174, .aload_n 0, 1), (175, .getfield 75, 3), (178, .iload 5, 2), (180, .laload, 1)]
noncomputable def xi_316_6 : XIs := [(181, .aload_n 0, 1), (182, .getfield 75, 3), (185, .aload_n 0, 1), (186, .getfield 23, 3), (189, .iload 9, 2), (191, .iaload, 1), (192, .laload, 1), (193, .aload_n 0, 1), (194, .getfield 26, 3), (197, .iload 9, 2), (199, .iaload, 1), (200, .i2l, 1), (201, .ladd, 1), (202, .lcmp, 1), (203, .ifCond .ne 32, 3), (206, .aload_n 0, 1)]
noncomputable def xi_316_7 : XIs := [(207, .getfield 79, 3), (210, .iload 5, 2), (212, .iaload, 1), (213, .aload_n 0, 1), (214, .getfield 79, 3), (217, .aload_n 0, 1), (218, .getfield 23, 3), (221, .iload 9, 2), (223, .iaload, 1), (224, .iaload, 1), (225, .iconst 1, 1), (226, .iadd, 1), (227, .if_icmp .ne 8, 3), (230, .iload 8, 2), (232, .goto 5, 3), (235, .iload 6, 2)]
noncomputable def xi_316_8 : XIs := [(237, .istore 6, 2), (239, .iinc 8 (-1), 3), (242, .goto (-150), 3), (245, .aload_n 0, 1), (246, .getfield 23, 3), (249, .aload_n 0, 1), (250, .getfield 288, 3), (253, .iload 6, 2), (255, .iadd, 1), (256, .iaload, 1), (257, .istore 5, 2), (259, .iinc 7 1, 3), (262, .goto (-184), 3), (265, .iload 6, 2), (267, .ireturn, 1)]
set_option maxRecDepth 100000 in
theorem xi_w316 : xi_ok cX12_way (xi_316_0 ++ (xi_316_1 ++ (xi_316_2 ++ (xi_316_3 ++ (xi_316_4 ++ (xi_316_5 ++ (xi_316_6 ++ (xi_316_7 ++ (xi_316_8))))))))) = true := dl_all _ _ (by decide +kernel)
theorem xi_ok316_0 : xi_ok cX12_way xi_316_0 = true := (xi_ap xi_w316).1
theorem xi_r316_1 : xi_ok cX12_way (xi_316_1 ++ (xi_316_2 ++ (xi_316_3 ++ (xi_316_4 ++ (xi_316_5 ++ (xi_316_6 ++ (xi_316_7 ++ (xi_316_8)))))))) = true := (xi_ap xi_w316).2
theorem xi_ok316_1 : xi_ok cX12_way xi_316_1 = true := (xi_ap xi_r316_1).1
theorem xi_r316_2 : xi_ok cX12_way (xi_316_2 ++ (xi_316_3 ++ (xi_316_4 ++ (xi_316_5 ++ (xi_316_6 ++ (xi_316_7 ++ (xi_316_8))))))) = true := (xi_ap xi_r316_1).2
theorem xi_ok316_2 : xi_ok cX12_way xi_316_2 = true := (xi_ap xi_r316_2).1
theorem xi_r316_3 : xi_ok cX12_way (xi_316_3 ++ (xi_316_4 ++ (xi_316_5 ++ (xi_316_6 ++ (xi_316_7 ++ (xi_316_8)))))) = true := (xi_ap xi_r316_2).2
theorem xi_ok316_3 : xi_ok cX12_way xi_316_3 = true := (xi_ap xi_r316_3).1
theorem xi_r316_4 : xi_ok cX12_way (xi_316_4 ++ (xi_316_5 ++ (xi_316_6 ++ (xi_316_7 ++ (xi_316_8))))) = true := (xi_ap xi_r316_3).2
theorem xi_ok316_4 : xi_ok cX12_way xi_316_4 = true := (xi_ap xi_r316_4).1
theorem xi_r316_5 : xi_ok cX12_way (xi_316_5 ++ (xi_316_6 ++ (xi_316_7 ++ (xi_316_8)))) = true := (xi_ap xi_r316_4).2
theorem xi_ok316_5 : xi_ok cX12_way xi_316_5 = true := (xi_ap xi_r316_5).1
theorem xi_r316_6 : xi_ok cX12_way (xi_316_6 ++ (xi_316_7 ++ (xi_316_8))) = true := (xi_ap xi_r316_5).2
theorem xi_ok316_6 : xi_ok cX12_way xi_316_6 = true := (xi_ap xi_r316_6).1
theorem xi_r316_7 : xi_ok cX12_way (xi_316_7 ++ (xi_316_8)) = true := (xi_ap xi_r316_6).2
theorem xi_ok316_7 : xi_ok cX12_way xi_316_7 = true := (xi_ap xi_r316_7).1
theorem xi_r316_8 : xi_ok cX12_way (xi_316_8) = true := (xi_ap xi_r316_7).2
theorem xi_ok316_8 : xi_ok cX12_way xi_316_8 = true := xi_r316_8
noncomputable def xi_316 (pc : Nat) : XIs := cond (Nat.blt pc 117) (cond (Nat.blt pc 59) (cond (Nat.blt pc 32) (xi_316_0) (xi_316_1)) (cond (Nat.blt pc 85) (xi_316_2) (xi_316_3))) (cond (Nat.blt pc 181) (cond (Nat.blt pc 151) (xi_316_4) (xi_316_5)) (cond (Nat.blt pc 207) (xi_316_6) (cond (Nat.blt pc 237) (xi_316_7) (xi_316_8))))
theorem xi_ok316 (pc : Nat) : xi_ok cX12_way (xi_316 pc) = true := xi_c (xi_c (xi_c (xi_ok316_0) (xi_ok316_1)) (xi_c (xi_ok316_2) (xi_ok316_3))) (xi_c (xi_c (xi_ok316_4) (xi_ok316_5)) (xi_c (xi_ok316_6) (xi_c (xi_ok316_7) (xi_ok316_8))))
noncomputable def xi_317_0 : XIs := [(0, .aload_n 0, 1), (1, .aload_n 0, 1), (2, .iload_n 1, 1), (3, .invokevirtual 349, 3), (6, .ifCond .eq 15, 3), (9, .aload_n 0, 1), (10, .iload_n 2, 1), (11, .invokevirtual 349, 3), (14, .ifCond .eq 7, 3), (17, .iconst 1, 1), (18, .goto 4, 3), (21, .iconst 0, 1), (22, .invokevirtual 334, 3), (25, .ifCond .eq 5, 3), (28, .iconst 0, 1), (29, .ireturn, 1)]
noncomputable def xi_317_1 : XIs := [(30, .iconst 0, 1), (31, .istore_n 3, 1), (32, .iload_n 3, 1), (33, .aload_n 0, 1), (34, .getfield 285, 3), (37, .if_icmp .ge 27, 3), (40, .aload_n 0, 1), (41, .getfield 85, 3), (44, .iload_n 3, 1), (45, .iload_n 3, 1), (46, .iload_n 1, 1), (47, .if_icmp .ne 9, 3), (50, .ldc_w 445, 3), (53, .goto 4, 3), (56, .iconst (-1), 1), (57, .iastore, 1)]
noncomputable def xi_317_2 : XIs := [(58, .iinc 3 1, 3), (61, .goto (-29), 3), (64, .iconst 0, 1), (65, .istore_n 3, 1), (66, .iload_n 3, 1), (67, .aload_n 0, 1), (68, .getfield 285, 3), (71, .if_icmp .ge 151, 3), (74, .aload_n 0, 1), (75, .getfield 288, 3), (78, .istore 4, 2), (80, .iload 4, 2), (82, .aload_n 0, 1), (83, .getfield 288, 3), (86, .sipush 160, 3), (89, .iadd, 1)]
noncomputable def xi_317_3 : XIs := [(90, .if_icmp .ge 126, 3), (93, .aload_n 0, 1), (94, .getfield 16, 3), (97, .iload 4, 2), (99, .baload, 1), (100, .ifCond .eq 110, 3), (103, .aload_n 0, 1), (104, .getfield 85, 3), (107, .aload_n 0, 1), (108, .getfield 20, 3), (111, .iload 4, 2), (113, .iaload, 1), (114, .iaload, 1), (115, .ifCond .lt 95, 3), (118, .aload_n 0, 1), (119, .getfield 29, 3)]
noncomputable def xi_317_4 : XIs := [(122, .iload 4, 2), (124, .iaload, 1), (125, .aload_n 0, 1), (126, .getfield 85, 3), (129, .aload_n 0, 1), (130, .getfield 20, 3), (133, .iload 4, 2), (135, .iaload, 1), (136, .iaload, 1), (137, .if_icmp .ge 13, 3), (140, .aload_n 0, 1), (141, .getfield 29, 3), (144, .iload 4, 2), (146, .iaload, 1), (147, .goto 15, 3), (150, .aload_n 0, 1)]
noncomputable def xi_317_5 : XIs := [(151, .getfield 85, 3), (154, .aload_n 0, 1), (155, .getfield 20, 3), (158, .iload 4, 2), (160, .iaload, 1), (161, .iaload, 1), (162, .istore 5, 2), (164, .aload_n 0, 1), (165, .getfield 85, 3), (168, .aload_n 0, 1), (169, .getfield 23, 3), (172, .iload 4, 2), (174, .iaload, 1), (175, .iload 5, 2), (177, .aload_n 0, 1), (178, .getfield 85, 3)]
noncomputable def xi_317_6 : XIs := [(181, .aload_n 0, 1), (182, .getfield 23, 3), (185, .iload 4, 2), (187, .iaload, 1), (188, .iaload, 1), (189, .if_icmp .le 8, 3), (192, .iload 5, 2), (194, .goto 15, 3), (197, .aload_n 0, 1), (198, .getfield 85, 3), (201, .aload_n 0, 1), (202, .getfield 23, 3), (205, .iload 4, 2), (207, .iaload, 1), (208, .iaload, 1), (209, .iastore, 1)]
noncomputable def xi_317_7 : XIs := [(210, .iinc 4 1, 3), (213, .goto (-133), 3), (216, .iinc 3 1, 3), (219, .goto (-153), 3), (222, .aload_n 0, 1), (223, .getfield 85, 3), (226, .iload_n 2, 1), (227, .iaload, 1), (228, .ireturn, 1)]
set_option maxRecDepth 100000 in
theorem xi_w317 : xi_ok cX12_width (xi_317_0 ++ (xi_317_1 ++ (xi_317_2 ++ (xi_317_3 ++ (xi_317_4 ++ (xi_317_5 ++ (xi_317_6 ++ (xi_317_7)))))))) = true := dl_all _ _ (by decide +kernel)
theorem xi_ok317_0 : xi_ok cX12_width xi_317_0 = true := (xi_ap xi_w317).1
theorem xi_r317_1 : xi_ok cX12_width (xi_317_1 ++ (xi_317_2 ++ (xi_317_3 ++ (xi_317_4 ++ (xi_317_5 ++ (xi_317_6 ++ (xi_317_7))))))) = true := (xi_ap xi_w317).2
theorem xi_ok317_1 : xi_ok cX12_width xi_317_1 = true := (xi_ap xi_r317_1).1
theorem xi_r317_2 : xi_ok cX12_width (xi_317_2 ++ (xi_317_3 ++ (xi_317_4 ++ (xi_317_5 ++ (xi_317_6 ++ (xi_317_7)))))) = true := (xi_ap xi_r317_1).2
theorem xi_ok317_2 : xi_ok cX12_width xi_317_2 = true := (xi_ap xi_r317_2).1
theorem xi_r317_3 : xi_ok cX12_width (xi_317_3 ++ (xi_317_4 ++ (xi_317_5 ++ (xi_317_6 ++ (xi_317_7))))) = true := (xi_ap xi_r317_2).2
theorem xi_ok317_3 : xi_ok cX12_width xi_317_3 = true := (xi_ap xi_r317_3).1
theorem xi_r317_4 : xi_ok cX12_width (xi_317_4 ++ (xi_317_5 ++ (xi_317_6 ++ (xi_317_7)))) = true := (xi_ap xi_r317_3).2
theorem xi_ok317_4 : xi_ok cX12_width xi_317_4 = true := (xi_ap xi_r317_4).1
theorem xi_r317_5 : xi_ok cX12_width (xi_317_5 ++ (xi_317_6 ++ (xi_317_7))) = true := (xi_ap xi_r317_4).2
theorem xi_ok317_5 : xi_ok cX12_width xi_317_5 = true := (xi_ap xi_r317_5).1
theorem xi_r317_6 : xi_ok cX12_width (xi_317_6 ++ (xi_317_7)) = true := (xi_ap xi_r317_5).2
theorem xi_ok317_6 : xi_ok cX12_width xi_317_6 = true := (xi_ap xi_r317_6).1
theorem xi_r317_7 : xi_ok cX12_width (xi_317_7) = true := (xi_ap xi_r317_6).2
theorem xi_ok317_7 : xi_ok cX12_width xi_317_7 = true := xi_r317_7
noncomputable def xi_317 (pc : Nat) : XIs := cond (Nat.blt pc 122) (cond (Nat.blt pc 58) (cond (Nat.blt pc 30) (xi_317_0) (xi_317_1)) (cond (Nat.blt pc 90) (xi_317_2) (xi_317_3))) (cond (Nat.blt pc 181) (cond (Nat.blt pc 151) (xi_317_4) (xi_317_5)) (cond (Nat.blt pc 210) (xi_317_6) (xi_317_7)))
theorem xi_ok317 (pc : Nat) : xi_ok cX12_width (xi_317 pc) = true := xi_c (xi_c (xi_c (xi_ok317_0) (xi_ok317_1)) (xi_c (xi_ok317_2) (xi_ok317_3))) (xi_c (xi_c (xi_ok317_4) (xi_ok317_5)) (xi_c (xi_ok317_6) (xi_ok317_7)))
noncomputable def xi_318_0 : XIs := [(0, .aload_n 0, 1), (1, .getfield 446, 3), (4, .sipush 2000, 3), (7, .if_icmp .gt 126, 3), (10, .iconst 5, 1), (11, .aload_n 0, 1), (12, .getfield 446, 3), (15, .imul, 1), (16, .istore 6, 2), (18, .aload_n 0, 1), (19, .getfield 88, 3), (22, .iload 6, 2), (24, .iload_n 1, 1), (25, .iastore, 1), (26, .aload_n 0, 1), (27, .getfield 88, 3)]
noncomputable def xi_318_1 : XIs := [(30, .iload 6, 2), (32, .iconst 1, 1), (33, .iadd, 1), (34, .iload_n 2, 1), (35, .iastore, 1), (36, .aload_n 0, 1), (37, .getfield 88, 3), (40, .iload 6, 2), (42, .iconst 2, 1), (43, .iadd, 1), (44, .iload_n 3, 1), (45, .iastore, 1), (46, .aload_n 0, 1), (47, .getfield 88, 3), (50, .iload 6, 2), (52, .iconst 3, 1)]
noncomputable def xi_318_2 : XIs := [(53, .iadd, 1), (54, .iload 4, 2), (56, .iastore, 1), (57, .aload_n 0, 1), (58, .getfield 88, 3), (61, .iload 6, 2), (63, .iconst 4, 1), (64, .iadd, 1), (65, .iload 5, 2), (67, .iastore, 1), (68, .lconst 0, 1), (69, .lstore 7, 2), (71, .iconst 1, 1), (72, .istore 9, 2), (74, .iload 9, 2), (76, .iload_n 1, 1)]
noncomputable def xi_318_3 : XIs := [(77, .if_icmp .gt 35, 3), (80, .lload 7, 2), (82, .aload_n 0, 1), (83, .getfield 26, 3), (86, .aload_n 0, 1), (87, .getfield 288, 3), (90, .aload_n 0, 1), (91, .getfield 88, 3), (94, .iload 6, 2), (96, .iload 9, 2), (98, .iadd, 1), (99, .iaload, 1), (100, .iadd, 1), (101, .iaload, 1), (102, .i2l, 1), (103, .ladd, 1)]
noncomputable def xi_318_4 : XIs := [(104, .lstore 7, 2), (106, .iinc 9 1, 3), (109, .goto (-35), 3), (112, .aload_n 0, 1), (113, .getfield 91, 3), (116, .aload_n 0, 1), (117, .getfield 446, 3), (120, .lload 7, 2), (122, .lastore, 1), (123, .aload_n 0, 1), (124, .dup, 1), (125, .getfield 446, 3), (128, .iconst 1, 1), (129, .iadd, 1), (130, .putfield 446, 3), (133, .return_, 1)]
set_option maxRecDepth 100000 in
theorem xi_w318 : xi_ok cX12_addShort (xi_318_0 ++ (xi_318_1 ++ (xi_318_2 ++ (xi_318_3 ++ (xi_318_4))))) = true := dl_all _ _ (by decide +kernel)
theorem xi_ok318_0 : xi_ok cX12_addShort xi_318_0 = true := (xi_ap xi_w318).1
theorem xi_r318_1 : xi_ok cX12_addShort (xi_318_1 ++ (xi_318_2 ++ (xi_318_3 ++ (xi_318_4)))) = true := (xi_ap xi_w318).2
theorem xi_ok318_1 : xi_ok cX12_addShort xi_318_1 = true := (xi_ap xi_r318_1).1
theorem xi_r318_2 : xi_ok cX12_addShort (xi_318_2 ++ (xi_318_3 ++ (xi_318_4))) = true := (xi_ap xi_r318_1).2
theorem xi_ok318_2 : xi_ok cX12_addShort xi_318_2 = true := (xi_ap xi_r318_2).1
theorem xi_r318_3 : xi_ok cX12_addShort (xi_318_3 ++ (xi_318_4)) = true := (xi_ap xi_r318_2).2
theorem xi_ok318_3 : xi_ok cX12_addShort xi_318_3 = true := (xi_ap xi_r318_3).1
theorem xi_r318_4 : xi_ok cX12_addShort (xi_318_4) = true := (xi_ap xi_r318_3).2
theorem xi_ok318_4 : xi_ok cX12_addShort xi_318_4 = true := xi_r318_4
noncomputable def xi_318 (pc : Nat) : XIs := cond (Nat.blt pc 53) (cond (Nat.blt pc 30) (xi_318_0) (xi_318_1)) (cond (Nat.blt pc 77) (xi_318_2) (cond (Nat.blt pc 104) (xi_318_3) (xi_318_4)))
theorem xi_ok318 (pc : Nat) : xi_ok cX12_addShort (xi_318 pc) = true := xi_c (xi_c (xi_ok318_0) (xi_ok318_1)) (xi_c (xi_ok318_2) (xi_c (xi_ok318_3) (xi_ok318_4)))
noncomputable def xi_319_0 : XIs := [(0, .aload_n 0, 1), (1, .getfield 16, 3), (4, .aload_n 0, 1), (5, .getfield 288, 3), (8, .iload_n 1, 1), (9, .iadd, 1), (10, .baload, 1), (11, .ifCond .eq 40, 3), (14, .aload_n 0, 1), (15, .getfield 20, 3), (18, .aload_n 0, 1), (19, .getfield 288, 3), (22, .iload_n 1, 1), (23, .iadd, 1), (24, .iaload, 1), (25, .iload_n 2, 1)]
noncomputable def xi_319_1 : XIs := [(26, .if_icmp .ne 25, 3), (29, .iload_n 3, 1), (30, .aload_n 0, 1), (31, .getfield 23, 3), (34, .aload_n 0, 1), (35, .getfield 288, 3), (38, .iload_n 1, 1), (39, .iadd, 1), (40, .iaload, 1), (41, .invokestatic 427, 3), (44, .ifCond .ne 7, 3), (47, .iconst 1, 1), (48, .goto 4, 3), (51, .iconst 0, 1), (52, .ireturn, 1)]
set_option maxRecDepth 100000 in
theorem xi_w319 : xi_ok cX12_goesOn (xi_319_0 ++ (xi_319_1)) = true := dl_all _ _ (by decide +kernel)
theorem xi_ok319_0 : xi_ok cX12_goesOn xi_319_0 = true := (xi_ap xi_w319).1
theorem xi_r319_1 : xi_ok cX12_goesOn (xi_319_1) = true := (xi_ap xi_w319).2
theorem xi_ok319_1 : xi_ok cX12_goesOn xi_319_1 = true := xi_r319_1
noncomputable def xi_319 (pc : Nat) : XIs := cond (Nat.blt pc 26) (xi_319_0) (xi_319_1)
theorem xi_ok319 (pc : Nat) : xi_ok cX12_goesOn (xi_319 pc) = true := xi_c (xi_ok319_0) (xi_ok319_1)
noncomputable def xi_320_0 : XIs := [(0, .aload_n 0, 1), (1, .iconst 0, 1), (2, .putfield 446, 3), (5, .iconst 0, 1), (6, .istore_n 3, 1), (7, .iload_n 3, 1), (8, .sipush 160, 3), (11, .if_icmp .ge 78, 3), (14, .aload_n 0, 1), (15, .getfield 446, 3), (18, .sipush 2000, 3), (21, .if_icmp .gt 68, 3), (24, .aload_n 0, 1), (25, .iload_n 3, 1), (26, .iload_n 1, 1), (27, .iconst 1, 1)]
noncomputable def xi_320_1 : XIs := [(28, .iload_n 1, 1), (29, .ishl, 1), (30, .invokevirtual 449, 3), (33, .ifCond .eq 50, 3), (36, .aload_n 0, 1), (37, .getfield 23, 3), (40, .aload_n 0, 1), (41, .getfield 288, 3), (44, .iload_n 3, 1), (45, .iadd, 1), (46, .iaload, 1), (47, .istore 4, 2), (49, .iload 4, 2), (51, .iload_n 2, 1), (52, .if_icmp .ne 15, 3), (55, .aload_n 0, 1)]
noncomputable def xi_320_2 : XIs := [(56, .iconst 1, 1), (57, .iload_n 3, 1), (58, .iconst 0, 1), (59, .iconst 0, 1), (60, .iconst 0, 1), (61, .invokevirtual 453, 3), (64, .goto 19, 3), (67, .aload_n 0, 1), (68, .iload_n 3, 1), (69, .iload 4, 2), (71, .iconst 1, 1), (72, .iload_n 1, 1), (73, .ishl, 1), (74, .iconst 1, 1), (75, .iload 4, 2), (77, .ishl, 1)]
noncomputable def xi_320_3 : XIs := [(78, .ior, 1), (79, .iload_n 2, 1), (80, .invokevirtual 457, 3), (83, .iinc 3 1, 3), (86, .goto (-79), 3), (89, .return_, 1)]
set_option maxRecDepth 100000 in
theorem xi_w320 : xi_ok cX12_findShorts (xi_320_0 ++ (xi_320_1 ++ (xi_320_2 ++ (xi_320_3)))) = true := dl_all _ _ (by decide +kernel)
theorem xi_ok320_0 : xi_ok cX12_findShorts xi_320_0 = true := (xi_ap xi_w320).1
theorem xi_r320_1 : xi_ok cX12_findShorts (xi_320_1 ++ (xi_320_2 ++ (xi_320_3))) = true := (xi_ap xi_w320).2
theorem xi_ok320_1 : xi_ok cX12_findShorts xi_320_1 = true := (xi_ap xi_r320_1).1
theorem xi_r320_2 : xi_ok cX12_findShorts (xi_320_2 ++ (xi_320_3)) = true := (xi_ap xi_r320_1).2
theorem xi_ok320_2 : xi_ok cX12_findShorts xi_320_2 = true := (xi_ap xi_r320_2).1
theorem xi_r320_3 : xi_ok cX12_findShorts (xi_320_3) = true := (xi_ap xi_r320_2).2
theorem xi_ok320_3 : xi_ok cX12_findShorts xi_320_3 = true := xi_r320_3
noncomputable def xi_320 (pc : Nat) : XIs := cond (Nat.blt pc 56) (cond (Nat.blt pc 28) (xi_320_0) (xi_320_1)) (cond (Nat.blt pc 78) (xi_320_2) (xi_320_3))
theorem xi_ok320 (pc : Nat) : xi_ok cX12_findShorts (xi_320 pc) = true := xi_c (xi_c (xi_ok320_0) (xi_ok320_1)) (xi_c (xi_ok320_2) (xi_ok320_3))
noncomputable def xi_321_0 : XIs := [(0, .iconst 0, 1), (1, .istore 5, 2), (3, .iload 5, 2), (5, .sipush 160, 3), (8, .if_icmp .ge 81, 3), (11, .aload_n 0, 1), (12, .getfield 446, 3), (15, .sipush 2000, 3), (18, .if_icmp .gt 71, 3), (21, .aload_n 0, 1), (22, .iload 5, 2), (24, .iload_n 2, 1), (25, .iload_n 3, 1), (26, .invokevirtual 449, 3), (29, .ifCond .eq 54, 3), (32, .aload_n 0, 1)]
noncomputable def xi_321_1 : XIs := [(33, .getfield 23, 3), (36, .aload_n 0, 1), (37, .getfield 288, 3), (40, .iload 5, 2), (42, .iadd, 1), (43, .iaload, 1), (44, .istore 6, 2), (46, .iload 6, 2), (48, .iload 4, 2), (50, .if_icmp .ne 16, 3), (53, .aload_n 0, 1), (54, .iconst 2, 1), (55, .iload_n 1, 1), (56, .iload 5, 2), (58, .iconst 0, 1), (59, .iconst 0, 1)]
noncomputable def xi_321_2 : XIs := [(60, .invokevirtual 453, 3), (63, .goto 20, 3), (66, .aload_n 0, 1), (67, .iload_n 1, 1), (68, .iload 5, 2), (70, .iload 6, 2), (72, .iload_n 3, 1), (73, .iconst 1, 1), (74, .iload 6, 2), (76, .ishl, 1), (77, .ior, 1), (78, .iload 4, 2), (80, .invokevirtual 461, 3), (83, .iinc 5 1, 3), (86, .goto (-83), 3), (89, .return_, 1)]
set_option maxRecDepth 100000 in
theorem xi_w321 : xi_ok cX12_second (xi_321_0 ++ (xi_321_1 ++ (xi_321_2))) = true := dl_all _ _ (by decide +kernel)
theorem xi_ok321_0 : xi_ok cX12_second xi_321_0 = true := (xi_ap xi_w321).1
theorem xi_r321_1 : xi_ok cX12_second (xi_321_1 ++ (xi_321_2)) = true := (xi_ap xi_w321).2
theorem xi_ok321_1 : xi_ok cX12_second xi_321_1 = true := (xi_ap xi_r321_1).1
theorem xi_r321_2 : xi_ok cX12_second (xi_321_2) = true := (xi_ap xi_r321_1).2
theorem xi_ok321_2 : xi_ok cX12_second xi_321_2 = true := xi_r321_2
noncomputable def xi_321 (pc : Nat) : XIs := cond (Nat.blt pc 33) (xi_321_0) (cond (Nat.blt pc 60) (xi_321_1) (xi_321_2))
theorem xi_ok321 (pc : Nat) : xi_ok cX12_second (xi_321 pc) = true := xi_c (xi_ok321_0) (xi_c (xi_ok321_1) (xi_ok321_2))
noncomputable def xi_322_0 : XIs := [(0, .iconst 0, 1), (1, .istore 6, 2), (3, .iload 6, 2), (5, .sipush 160, 3), (8, .if_icmp .ge 142, 3), (11, .aload_n 0, 1), (12, .getfield 446, 3), (15, .sipush 2000, 3), (18, .if_icmp .gt 132, 3), (21, .aload_n 0, 1), (22, .iload 6, 2), (24, .iload_n 3, 1), (25, .iload 4, 2), (27, .invokevirtual 449, 3), (30, .ifCond .eq 114, 3), (33, .aload_n 0, 1)]
noncomputable def xi_322_1 : XIs := [(34, .getfield 23, 3), (37, .aload_n 0, 1), (38, .getfield 288, 3), (41, .iload 6, 2), (43, .iadd, 1), (44, .iaload, 1), (45, .istore 7, 2), (47, .iload 7, 2), (49, .iload 5, 2), (51, .if_icmp .ne 16, 3), (54, .aload_n 0, 1), (55, .iconst 3, 1), (56, .iload_n 1, 1), (57, .iload_n 2, 1), (58, .iload 6, 2), (60, .iconst 0, 1)]
noncomputable def xi_322_2 : XIs := [(61, .invokevirtual 453, 3), (64, .goto 80, 3), (67, .iconst 0, 1), (68, .istore 8, 2), (70, .iload 8, 2), (72, .sipush 160, 3), (75, .if_icmp .ge 69, 3), (78, .aload_n 0, 1), (79, .getfield 16, 3), (82, .aload_n 0, 1), (83, .getfield 288, 3), (86, .iload 8, 2), (88, .iadd, 1), (89, .baload, 1), (90, .ifCond .eq 48, 3), (93, .aload_n 0, 1)]
noncomputable def xi_322_3 : XIs := [(94, .getfield 20, 3), (97, .aload_n 0, 1), (98, .getfield 288, 3), (101, .iload 8, 2), (103, .iadd, 1), (104, .iaload, 1), (105, .iload 7, 2), (107, .if_icmp .ne 31, 3), (110, .aload_n 0, 1), (111, .getfield 23, 3), (114, .aload_n 0, 1), (115, .getfield 288, 3), (118, .iload 8, 2), (120, .iadd, 1), (121, .iaload, 1), (122, .iload 5, 2)]
noncomputable def xi_322_4 : XIs := [(124, .if_icmp .ne 14, 3), (127, .aload_n 0, 1), (128, .iconst 4, 1), (129, .iload_n 1, 1), (130, .iload_n 2, 1), (131, .iload 6, 2), (133, .iload 8, 2), (135, .invokevirtual 453, 3), (138, .iinc 8 1, 3), (141, .goto (-71), 3), (144, .iinc 6 1, 3), (147, .goto (-144), 3), (150, .return_, 1)]
set_option maxRecDepth 100000 in
theorem xi_w322 : xi_ok cX12_third (xi_322_0 ++ (xi_322_1 ++ (xi_322_2 ++ (xi_322_3 ++ (xi_322_4))))) = true := dl_all _ _ (by decide +kernel)
theorem xi_ok322_0 : xi_ok cX12_third xi_322_0 = true := (xi_ap xi_w322).1
theorem xi_r322_1 : xi_ok cX12_third (xi_322_1 ++ (xi_322_2 ++ (xi_322_3 ++ (xi_322_4)))) = true := (xi_ap xi_w322).2
theorem xi_ok322_1 : xi_ok cX12_third xi_322_1 = true := (xi_ap xi_r322_1).1
theorem xi_r322_2 : xi_ok cX12_third (xi_322_2 ++ (xi_322_3 ++ (xi_322_4))) = true := (xi_ap xi_r322_1).2
theorem xi_ok322_2 : xi_ok cX12_third xi_322_2 = true := (xi_ap xi_r322_2).1
theorem xi_r322_3 : xi_ok cX12_third (xi_322_3 ++ (xi_322_4)) = true := (xi_ap xi_r322_2).2
theorem xi_ok322_3 : xi_ok cX12_third xi_322_3 = true := (xi_ap xi_r322_3).1
theorem xi_r322_4 : xi_ok cX12_third (xi_322_4) = true := (xi_ap xi_r322_3).2
theorem xi_ok322_4 : xi_ok cX12_third xi_322_4 = true := xi_r322_4
noncomputable def xi_322 (pc : Nat) : XIs := cond (Nat.blt pc 61) (cond (Nat.blt pc 34) (xi_322_0) (xi_322_1)) (cond (Nat.blt pc 94) (xi_322_2) (cond (Nat.blt pc 124) (xi_322_3) (xi_322_4)))
theorem xi_ok322 (pc : Nat) : xi_ok cX12_third (xi_322 pc) = true := xi_c (xi_c (xi_ok322_0) (xi_ok322_1)) (xi_c (xi_ok322_2) (xi_c (xi_ok322_3) (xi_ok322_4)))
noncomputable def xi_323_0 : XIs := [(0, .aload_n 0, 1), (1, .getfield 91, 3), (4, .iload_n 1, 1), (5, .laload, 1), (6, .aload_n 0, 1), (7, .getfield 91, 3), (10, .iload_n 2, 1), (11, .laload, 1), (12, .lcmp, 1), (13, .ifCond .eq 25, 3), (16, .aload_n 0, 1), (17, .getfield 91, 3), (20, .iload_n 1, 1), (21, .laload, 1), (22, .aload_n 0, 1), (23, .getfield 91, 3)]
noncomputable def xi_323_1 : XIs := [(26, .iload_n 2, 1), (27, .laload, 1), (28, .lcmp, 1), (29, .ifCond .ge 7, 3), (32, .iconst 1, 1), (33, .goto 4, 3), (36, .iconst 0, 1), (37, .ireturn, 1), (38, .aload_n 0, 1), (39, .getfield 88, 3), (42, .iconst 5, 1), (43, .iload_n 1, 1), (44, .imul, 1), (45, .iaload, 1), (46, .aload_n 0, 1), (47, .getfield 88, 3)]
noncomputable def xi_323_2 : XIs := [(50, .iconst 5, 1), (51, .iload_n 2, 1), (52, .imul, 1), (53, .iaload, 1), (54, .if_icmp .eq 28, 3), (57, .aload_n 0, 1), (58, .getfield 88, 3), (61, .iconst 5, 1), (62, .iload_n 1, 1), (63, .imul, 1), (64, .iaload, 1), (65, .aload_n 0, 1), (66, .getfield 88, 3), (69, .iconst 5, 1), (70, .iload_n 2, 1), (71, .imul, 1)]
noncomputable def xi_323_3 : XIs := [(72, .iaload, 1), (73, .if_icmp .ge 7, 3), (76, .iconst 1, 1), (77, .goto 4, 3), (80, .iconst 0, 1), (81, .ireturn, 1), (82, .iconst 1, 1), (83, .istore_n 3, 1), (84, .iload_n 3, 1), (85, .aload_n 0, 1), (86, .getfield 88, 3), (89, .iconst 5, 1), (90, .iload_n 1, 1), (91, .imul, 1), (92, .iaload, 1), (93, .if_icmp .gt 61, 3)]
noncomputable def xi_323_4 : XIs := [(96, .aload_n 0, 1), (97, .getfield 88, 3), (100, .iconst 5, 1), (101, .iload_n 1, 1), (102, .imul, 1), (103, .iload_n 3, 1), (104, .iadd, 1), (105, .iaload, 1), (106, .aload_n 0, 1), (107, .getfield 88, 3), (110, .iconst 5, 1), (111, .iload_n 2, 1), (112, .imul, 1), (113, .iload_n 3, 1), (114, .iadd, 1), (115, .iaload, 1)]
noncomputable def xi_323_5 : XIs := [(116, .if_icmp .eq 32, 3), (119, .aload_n 0, 1), (120, .getfield 88, 3), (123, .iconst 5, 1), (124, .iload_n 1, 1), (125, .imul, 1), (126, .iload_n 3, 1), (127, .iadd, 1), (128, .iaload, 1), (129, .aload_n 0, 1), (130, .getfield 88, 3), (133, .iconst 5, 1), (134, .iload_n 2, 1), (135, .imul, 1), (136, .iload_n 3, 1), (137, .iadd, 1)]
noncomputable def xi_323_6 : XIs := [(138, .iaload, 1), (139, .if_icmp .ge 7, 3), (142, .iconst 1, 1), (143, .goto 4, 3), (146, .iconst 0, 1), (147, .ireturn, 1), (148, .iinc 3 1, 3), (151, .goto (-67), 3), (154, .iconst 0, 1), (155, .ireturn, 1)]
set_option maxRecDepth 100000 in
theorem xi_w323 : xi_ok cX12_isBefore (xi_323_0 ++ (xi_323_1 ++ (xi_323_2 ++ (xi_323_3 ++ (xi_323_4 ++ (xi_323_5 ++ (xi_323_6))))))) = true := dl_all _ _ (by decide +kernel)
theorem xi_ok323_0 : xi_ok cX12_isBefore xi_323_0 = true := (xi_ap xi_w323).1
theorem xi_r323_1 : xi_ok cX12_isBefore (xi_323_1 ++ (xi_323_2 ++ (xi_323_3 ++ (xi_323_4 ++ (xi_323_5 ++ (xi_323_6)))))) = true := (xi_ap xi_w323).2
theorem xi_ok323_1 : xi_ok cX12_isBefore xi_323_1 = true := (xi_ap xi_r323_1).1
theorem xi_r323_2 : xi_ok cX12_isBefore (xi_323_2 ++ (xi_323_3 ++ (xi_323_4 ++ (xi_323_5 ++ (xi_323_6))))) = true := (xi_ap xi_r323_1).2
theorem xi_ok323_2 : xi_ok cX12_isBefore xi_323_2 = true := (xi_ap xi_r323_2).1
theorem xi_r323_3 : xi_ok cX12_isBefore (xi_323_3 ++ (xi_323_4 ++ (xi_323_5 ++ (xi_323_6)))) = true := (xi_ap xi_r323_2).2
theorem xi_ok323_3 : xi_ok cX12_isBefore xi_323_3 = true := (xi_ap xi_r323_3).1
theorem xi_r323_4 : xi_ok cX12_isBefore (xi_323_4 ++ (xi_323_5 ++ (xi_323_6))) = true := (xi_ap xi_r323_3).2
theorem xi_ok323_4 : xi_ok cX12_isBefore xi_323_4 = true := (xi_ap xi_r323_4).1
theorem xi_r323_5 : xi_ok cX12_isBefore (xi_323_5 ++ (xi_323_6)) = true := (xi_ap xi_r323_4).2
theorem xi_ok323_5 : xi_ok cX12_isBefore xi_323_5 = true := (xi_ap xi_r323_5).1
theorem xi_r323_6 : xi_ok cX12_isBefore (xi_323_6) = true := (xi_ap xi_r323_5).2
theorem xi_ok323_6 : xi_ok cX12_isBefore xi_323_6 = true := xi_r323_6
noncomputable def xi_323 (pc : Nat) : XIs := cond (Nat.blt pc 72) (cond (Nat.blt pc 26) (xi_323_0) (cond (Nat.blt pc 50) (xi_323_1) (xi_323_2))) (cond (Nat.blt pc 116) (cond (Nat.blt pc 96) (xi_323_3) (xi_323_4)) (cond (Nat.blt pc 138) (xi_323_5) (xi_323_6)))
theorem xi_ok323 (pc : Nat) : xi_ok cX12_isBefore (xi_323 pc) = true := xi_c (xi_c (xi_ok323_0) (xi_c (xi_ok323_1) (xi_ok323_2))) (xi_c (xi_c (xi_ok323_3) (xi_ok323_4)) (xi_c (xi_ok323_5) (xi_ok323_6)))
noncomputable def xi_324_0 : XIs := [(0, .iconst 0, 1), (1, .istore_n 1, 1), (2, .iload_n 1, 1), (3, .aload_n 0, 1), (4, .getfield 446, 3), (7, .if_icmp .ge 16, 3), (10, .aload_n 0, 1), (11, .getfield 94, 3), (14, .iload_n 1, 1), (15, .iload_n 1, 1), (16, .iastore, 1), (17, .iinc 1 1, 3), (20, .goto (-18), 3), (23, .iconst 1, 1), (24, .istore_n 1, 1), (25, .iload_n 1, 1)]
noncomputable def xi_324_1 : XIs := [(26, .aload_n 0, 1), (27, .getfield 446, 3), (30, .if_icmp .ge 226, 3), (33, .iconst 0, 1), (34, .istore_n 2, 1), (35, .iload_n 2, 1), (36, .aload_n 0, 1), (37, .getfield 446, 3), (40, .if_icmp .ge 181, 3), (43, .iload_n 2, 1), (44, .iload_n 1, 1), (45, .iadd, 1), (46, .aload_n 0, 1), (47, .getfield 446, 3), (50, .if_icmp .ge 9, 3), (53, .iload_n 2, 1)]
noncomputable def xi_324_2 : XIs := [(54, .iload_n 1, 1), (55, .iadd, 1), (56, .goto 7, 3), (59, .aload_n 0, 1), (60, .getfield 446, 3), (63, .istore_n 3, 1), (64, .iload_n 2, 1), (65, .iconst 2, 1), (66, .iload_n 1, 1), (67, .imul, 1), (68, .iadd, 1), (69, .aload_n 0, 1), (70, .getfield 446, 3), (73, .if_icmp .ge 11, 3), (76, .iload_n 2, 1), (77, .iconst 2, 1)]
noncomputable def xi_324_3 : XIs := [(78, .iload_n 1, 1), (79, .imul, 1), (80, .iadd, 1), (81, .goto 7, 3), (84, .aload_n 0, 1), (85, .getfield 446, 3), (88, .istore 4, 2), (90, .iload_n 2, 1), (91, .istore 5, 2), (93, .iload_n 3, 1), (94, .istore 6, 2), (96, .iload_n 2, 1), (97, .istore 7, 2), (99, .iload 7, 2), (101, .iload 4, 2), (103, .if_icmp .ge 109, 3)]
noncomputable def xi_324_4 : XIs := [(106, .iload 5, 2), (108, .iload_n 3, 1), (109, .if_icmp .ge 35, 3), (112, .iload 6, 2), (114, .iload 4, 2), (116, .if_icmp .eq 24, 3), (119, .aload_n 0, 1), (120, .aload_n 0, 1), (121, .getfield 94, 3), (124, .iload 6, 2), (126, .iaload, 1), (127, .aload_n 0, 1), (128, .getfield 94, 3), (131, .iload 5, 2), (133, .iaload, 1), (134, .invokevirtual 464, 3)]
noncomputable def xi_324_5 : XIs := [(137, .ifCond .ne 7, 3), (140, .iconst 1, 1), (141, .goto 4, 3), (144, .iconst 0, 1), (145, .istore 8, 2), (147, .aload_n 0, 1), (148, .getfield 97, 3), (151, .iload 7, 2), (153, .iload 8, 2), (155, .ifCond .eq 13, 3), (158, .aload_n 0, 1), (159, .getfield 94, 3), (162, .iload 5, 2), (164, .iaload, 1), (165, .goto 10, 3), (168, .aload_n 0, 1)]
noncomputable def xi_324_6 : XIs := [(169, .getfield 94, 3), (172, .iload 6, 2), (174, .iaload, 1), (175, .iastore, 1), (176, .iload 5, 2), (178, .iload 8, 2), (180, .ifCond .eq 7, 3), (183, .iconst 1, 1), (184, .goto 4, 3), (187, .iconst 0, 1), (188, .iadd, 1), (189, .istore 5, 2), (191, .iload 6, 2), (193, .iload 8, 2), (195, .ifCond .eq 7, 3), (198, .iconst 0, 1)]
noncomputable def xi_324_7 : XIs := [(199, .goto 4, 3), (202, .iconst 1, 1), (203, .iadd, 1), (204, .istore 6, 2), (206, .iinc 7 1, 3), (209, .goto (-110), 3), (212, .iload_n 2, 1), (213, .iconst 2, 1), (214, .iload_n 1, 1), (215, .imul, 1), (216, .iadd, 1), (217, .istore_n 2, 1), (218, .goto (-183), 3), (221, .iconst 0, 1), (222, .istore_n 2, 1), (223, .iload_n 2, 1)]
noncomputable def xi_324_8 : XIs := [(224, .aload_n 0, 1), (225, .getfield 446, 3), (228, .if_icmp .ge 21, 3), (231, .aload_n 0, 1), (232, .getfield 94, 3), (235, .iload_n 2, 1), (236, .aload_n 0, 1), (237, .getfield 97, 3), (240, .iload_n 2, 1), (241, .iaload, 1), (242, .iastore, 1), (243, .iinc 2 1, 3), (246, .goto (-23), 3), (249, .iload_n 1, 1), (250, .iconst 2, 1), (251, .imul, 1)]
noncomputable def xi_324_9 : XIs := [(252, .istore_n 1, 1), (253, .goto (-228), 3), (256, .return_, 1)]
set_option maxRecDepth 100000 in
theorem xi_w324 : xi_ok cX12_sortShorts (xi_324_0 ++ (xi_324_1 ++ (xi_324_2 ++ (xi_324_3 ++ (xi_324_4 ++ (xi_324_5 ++ (xi_324_6 ++ (xi_324_7 ++ (xi_324_8 ++ (xi_324_9)))))))))) = true := dl_all _ _ (by decide +kernel)
theorem xi_ok324_0 : xi_ok cX12_sortShorts xi_324_0 = true := (xi_ap xi_w324).1
theorem xi_r324_1 : xi_ok cX12_sortShorts (xi_324_1 ++ (xi_324_2 ++ (xi_324_3 ++ (xi_324_4 ++ (xi_324_5 ++ (xi_324_6 ++ (xi_324_7 ++ (xi_324_8 ++ (xi_324_9))))))))) = true := (xi_ap xi_w324).2
theorem xi_ok324_1 : xi_ok cX12_sortShorts xi_324_1 = true := (xi_ap xi_r324_1).1
theorem xi_r324_2 : xi_ok cX12_sortShorts (xi_324_2 ++ (xi_324_3 ++ (xi_324_4 ++ (xi_324_5 ++ (xi_324_6 ++ (xi_324_7 ++ (xi_324_8 ++ (xi_324_9)))))))) = true := (xi_ap xi_r324_1).2
theorem xi_ok324_2 : xi_ok cX12_sortShorts xi_324_2 = true := (xi_ap xi_r324_2).1
theorem xi_r324_3 : xi_ok cX12_sortShorts (xi_324_3 ++ (xi_324_4 ++ (xi_324_5 ++ (xi_324_6 ++ (xi_324_7 ++ (xi_324_8 ++ (xi_324_9))))))) = true := (xi_ap xi_r324_2).2
theorem xi_ok324_3 : xi_ok cX12_sortShorts xi_324_3 = true := (xi_ap xi_r324_3).1
theorem xi_r324_4 : xi_ok cX12_sortShorts (xi_324_4 ++ (xi_324_5 ++ (xi_324_6 ++ (xi_324_7 ++ (xi_324_8 ++ (xi_324_9)))))) = true := (xi_ap xi_r324_3).2
theorem xi_ok324_4 : xi_ok cX12_sortShorts xi_324_4 = true := (xi_ap xi_r324_4).1
theorem xi_r324_5 : xi_ok cX12_sortShorts (xi_324_5 ++ (xi_324_6 ++ (xi_324_7 ++ (xi_324_8 ++ (xi_324_9))))) = true := (xi_ap xi_r324_4).2
theorem xi_ok324_5 : xi_ok cX12_sortShorts xi_324_5 = true := (xi_ap xi_r324_5).1
theorem xi_r324_6 : xi_ok cX12_sortShorts (xi_324_6 ++ (xi_324_7 ++ (xi_324_8 ++ (xi_324_9)))) = true := (xi_ap xi_r324_5).2
theorem xi_ok324_6 : xi_ok cX12_sortShorts xi_324_6 = true := (xi_ap xi_r324_6).1
theorem xi_r324_7 : xi_ok cX12_sortShorts (xi_324_7 ++ (xi_324_8 ++ (xi_324_9))) = true := (xi_ap xi_r324_6).2
theorem xi_ok324_7 : xi_ok cX12_sortShorts xi_324_7 = true := (xi_ap xi_r324_7).1
theorem xi_r324_8 : xi_ok cX12_sortShorts (xi_324_8 ++ (xi_324_9)) = true := (xi_ap xi_r324_7).2
theorem xi_ok324_8 : xi_ok cX12_sortShorts xi_324_8 = true := (xi_ap xi_r324_8).1
theorem xi_r324_9 : xi_ok cX12_sortShorts (xi_324_9) = true := (xi_ap xi_r324_8).2
theorem xi_ok324_9 : xi_ok cX12_sortShorts xi_324_9 = true := xi_r324_9
noncomputable def xi_324 (pc : Nat) : XIs := cond (Nat.blt pc 137) (cond (Nat.blt pc 54) (cond (Nat.blt pc 26) (xi_324_0) (xi_324_1)) (cond (Nat.blt pc 78) (xi_324_2) (cond (Nat.blt pc 106) (xi_324_3) (xi_324_4)))) (cond (Nat.blt pc 199) (cond (Nat.blt pc 169) (xi_324_5) (xi_324_6)) (cond (Nat.blt pc 224) (xi_324_7) (cond (Nat.blt pc 252) (xi_324_8) (xi_324_9))))
theorem xi_ok324 (pc : Nat) : xi_ok cX12_sortShorts (xi_324 pc) = true := xi_c (xi_c (xi_c (xi_ok324_0) (xi_ok324_1)) (xi_c (xi_ok324_2) (xi_c (xi_ok324_3) (xi_ok324_4)))) (xi_c (xi_c (xi_ok324_5) (xi_ok324_6)) (xi_c (xi_ok324_7) (xi_c (xi_ok324_8) (xi_ok324_9))))
noncomputable def xi_325_0 : XIs := [(0, .aload_n 0, 1), (1, .aload_n 0, 1), (2, .iload_n 1, 1), (3, .invokevirtual 349, 3), (6, .ifCond .eq 20, 3), (9, .aload_n 0, 1), (10, .iload_n 2, 1), (11, .invokevirtual 349, 3), (14, .ifCond .eq 12, 3), (17, .iload_n 1, 1), (18, .iload_n 2, 1), (19, .if_icmp .eq 7, 3), (22, .iconst 1, 1), (23, .goto 4, 3), (26, .iconst 0, 1), (27, .invokevirtual 334, 3)]
noncomputable def xi_325_1 : XIs := [(30, .ifCond .eq 5, 3), (33, .iconst 0, 1), (34, .ireturn, 1), (35, .aload_n 0, 1), (36, .iload_n 1, 1), (37, .iload_n 2, 1), (38, .invokevirtual 467, 3), (41, .aload_n 0, 1), (42, .getfield 446, 3), (45, .sipush 2000, 3), (48, .if_icmp .le 8, 3), (51, .bipush (-2), 2), (53, .goto 7, 3), (56, .aload_n 0, 1), (57, .getfield 446, 3), (60, .ireturn, 1)]
set_option maxRecDepth 100000 in
theorem xi_w325 : xi_ok cX12_shorts (xi_325_0 ++ (xi_325_1)) = true := dl_all _ _ (by decide +kernel)
theorem xi_ok325_0 : xi_ok cX12_shorts xi_325_0 = true := (xi_ap xi_w325).1
theorem xi_r325_1 : xi_ok cX12_shorts (xi_325_1) = true := (xi_ap xi_w325).2
theorem xi_ok325_1 : xi_ok cX12_shorts xi_325_1 = true := xi_r325_1
noncomputable def xi_325 (pc : Nat) : XIs := cond (Nat.blt pc 30) (xi_325_0) (xi_325_1)
theorem xi_ok325 (pc : Nat) : xi_ok cX12_shorts (xi_325 pc) = true := xi_c (xi_ok325_0) (xi_ok325_1)
noncomputable def xi_326_0 : XIs := [(0, .aload_n 0, 1), (1, .aload_n 0, 1), (2, .iload_n 1, 1), (3, .invokevirtual 349, 3), (6, .ifCond .eq 29, 3), (9, .aload_n 0, 1), (10, .iload_n 2, 1), (11, .invokevirtual 349, 3), (14, .ifCond .eq 21, 3), (17, .iload_n 1, 1), (18, .iload_n 2, 1), (19, .if_icmp .eq 16, 3), (22, .iload_n 3, 1), (23, .ifCond .lt 12, 3), (26, .iload 4, 2), (28, .ifCond .lt 7, 3)]
noncomputable def xi_326_1 : XIs := [(31, .iconst 1, 1), (32, .goto 4, 3), (35, .iconst 0, 1), (36, .invokevirtual 334, 3), (39, .ifCond .eq 5, 3), (42, .iconst 0, 1), (43, .ireturn, 1), (44, .aload_n 0, 1), (45, .iload_n 1, 1), (46, .iload_n 2, 1), (47, .invokevirtual 467, 3), (50, .aload_n 0, 1), (51, .getfield 446, 3), (54, .sipush 2000, 3), (57, .if_icmp .gt 11, 3), (60, .iload_n 3, 1)]
noncomputable def xi_326_2 : XIs := [(61, .aload_n 0, 1), (62, .getfield 446, 3), (65, .if_icmp .lt 5, 3), (68, .iconst (-1), 1), (69, .ireturn, 1), (70, .aload_n 0, 1), (71, .invokevirtual 470, 3), (74, .iconst 5, 1), (75, .aload_n 0, 1), (76, .getfield 94, 3), (79, .iload_n 3, 1), (80, .iaload, 1), (81, .imul, 1), (82, .istore 5, 2), (84, .iload 4, 2), (86, .aload_n 0, 1)]
noncomputable def xi_326_3 : XIs := [(87, .getfield 88, 3), (90, .iload 5, 2), (92, .iaload, 1), (93, .if_icmp .ge 18, 3), (96, .aload_n 0, 1), (97, .getfield 88, 3), (100, .iload 5, 2), (102, .iconst 1, 1), (103, .iadd, 1), (104, .iload 4, 2), (106, .iadd, 1), (107, .iaload, 1), (108, .goto 4, 3), (111, .iconst (-1), 1), (112, .ireturn, 1)]
set_option maxRecDepth 100000 in
theorem xi_w326 : xi_ok cX12_shortArc (xi_326_0 ++ (xi_326_1 ++ (xi_326_2 ++ (xi_326_3)))) = true := dl_all _ _ (by decide +kernel)
theorem xi_ok326_0 : xi_ok cX12_shortArc xi_326_0 = true := (xi_ap xi_w326).1
theorem xi_r326_1 : xi_ok cX12_shortArc (xi_326_1 ++ (xi_326_2 ++ (xi_326_3))) = true := (xi_ap xi_w326).2
theorem xi_ok326_1 : xi_ok cX12_shortArc xi_326_1 = true := (xi_ap xi_r326_1).1
theorem xi_r326_2 : xi_ok cX12_shortArc (xi_326_2 ++ (xi_326_3)) = true := (xi_ap xi_r326_1).2
theorem xi_ok326_2 : xi_ok cX12_shortArc xi_326_2 = true := (xi_ap xi_r326_2).1
theorem xi_r326_3 : xi_ok cX12_shortArc (xi_326_3) = true := (xi_ap xi_r326_2).2
theorem xi_ok326_3 : xi_ok cX12_shortArc xi_326_3 = true := xi_r326_3
noncomputable def xi_326 (pc : Nat) : XIs := cond (Nat.blt pc 61) (cond (Nat.blt pc 31) (xi_326_0) (xi_326_1)) (cond (Nat.blt pc 87) (xi_326_2) (xi_326_3))
theorem xi_ok326 (pc : Nat) : xi_ok cX12_shortArc (xi_326 pc) = true := xi_c (xi_c (xi_ok326_0) (xi_ok326_1)) (xi_c (xi_ok326_2) (xi_ok326_3))
noncomputable def xi_327_0 : XIs := [(0, .iconst 0, 1), (1, .istore_n 1, 1), (2, .iload_n 0, 1), (3, .iload_n 1, 1), (4, .invokestatic 427, 3), (7, .ifCond .ne 9, 3), (10, .iinc 1 1, 3), (13, .goto (-11), 3), (16, .iload_n 1, 1), (17, .ireturn, 1)]
set_option maxRecDepth 100000 in
theorem xi_w327 : xi_ok cX12_least (xi_327_0) = true := dl_all _ _ (by decide +kernel)
theorem xi_ok327_0 : xi_ok cX12_least xi_327_0 = true := xi_w327
noncomputable def xi_327 (pc : Nat) : XIs := xi_327_0
theorem xi_ok327 (pc : Nat) : xi_ok cX12_least (xi_327 pc) = true := xi_ok327_0
noncomputable def xi_328_0 : XIs := [(0, .aload_n 0, 1), (1, .iload_n 1, 1), (2, .i2l, 1), (3, .lconst 0, 1), (4, .lconst 1, 1), (5, .invokestatic 308, 3), (8, .ifCond .eq 15, 3), (11, .aload_n 0, 1), (12, .iload_n 2, 1), (13, .invokevirtual 349, 3), (16, .ifCond .eq 7, 3), (19, .iconst 1, 1), (20, .goto 4, 3), (23, .iconst 0, 1), (24, .invokevirtual 334, 3), (27, .ifCond .eq 5, 3)]
noncomputable def xi_328_1 : XIs := [(30, .iconst 0, 1), (31, .ireturn, 1), (32, .aload_n 0, 1), (33, .iload_n 1, 1), (34, .iconst 1, 1), (35, .if_icmp .ne 7, 3), (38, .iconst 1, 1), (39, .goto 4, 3), (42, .iconst 0, 1), (43, .iconst (-1), 1), (44, .iconst (-1), 1), (45, .invokevirtual 433, 3), (48, .iconst 0, 1), (49, .istore_n 3, 1), (50, .aload_n 0, 1), (51, .getfield 72, 3)]
noncomputable def xi_328_2 : XIs := [(54, .iload_n 2, 1), (55, .iaload, 1), (56, .iload_n 3, 1), (57, .invokestatic 427, 3), (60, .ifCond .eq 16, 3), (63, .aload_n 0, 1), (64, .getfield 72, 3), (67, .iload_n 3, 1), (68, .iaload, 1), (69, .iload_n 2, 1), (70, .invokestatic 427, 3), (73, .ifCond .ne 9, 3), (76, .iinc 3 1, 3), (79, .goto (-29), 3), (82, .iload_n 3, 1), (83, .ireturn, 1)]
set_option maxRecDepth 100000 in
theorem xi_w328 : xi_ok cX12_part (xi_328_0 ++ (xi_328_1 ++ (xi_328_2))) = true := dl_all _ _ (by decide +kernel)
theorem xi_ok328_0 : xi_ok cX12_part xi_328_0 = true := (xi_ap xi_w328).1
theorem xi_r328_1 : xi_ok cX12_part (xi_328_1 ++ (xi_328_2)) = true := (xi_ap xi_w328).2
theorem xi_ok328_1 : xi_ok cX12_part xi_328_1 = true := (xi_ap xi_r328_1).1
theorem xi_r328_2 : xi_ok cX12_part (xi_328_2) = true := (xi_ap xi_r328_1).2
theorem xi_ok328_2 : xi_ok cX12_part xi_328_2 = true := xi_r328_2
noncomputable def xi_328 (pc : Nat) : XIs := cond (Nat.blt pc 30) (xi_328_0) (cond (Nat.blt pc 54) (xi_328_1) (xi_328_2))
theorem xi_ok328 (pc : Nat) : xi_ok cX12_part (xi_328 pc) = true := xi_c (xi_ok328_0) (xi_c (xi_ok328_1) (xi_ok328_2))
noncomputable def xi_329_0 : XIs := [(0, .aload_n 0, 1), (1, .iconst 1, 1), (2, .iload_n 1, 1), (3, .iload_n 2, 1), (4, .invokevirtual 433, 3), (7, .iconst 0, 1), (8, .istore_n 3, 1), (9, .iconst 0, 1), (10, .istore 4, 2), (12, .iload 4, 2), (14, .aload_n 0, 1), (15, .getfield 285, 3), (18, .if_icmp .ge 38, 3), (21, .iload_n 3, 1), (22, .iload 4, 2), (24, .iload_n 2, 1)]
noncomputable def xi_329_1 : XIs := [(25, .if_icmp .eq 22, 3), (28, .aload_n 0, 1), (29, .getfield 72, 3), (32, .iload 4, 2), (34, .iaload, 1), (35, .invokestatic 473, 3), (38, .iload 4, 2), (40, .if_icmp .ne 7, 3), (43, .iconst 1, 1), (44, .goto 4, 3), (47, .iconst 0, 1), (48, .iadd, 1), (49, .istore_n 3, 1), (50, .iinc 4 1, 3), (53, .goto (-41), 3), (56, .iload_n 3, 1)]
noncomputable def xi_329_2 : XIs := [(57, .ireturn, 1)]
set_option maxRecDepth 100000 in
theorem xi_w329 : xi_ok cX12_weakParts (xi_329_0 ++ (xi_329_1 ++ (xi_329_2))) = true := dl_all _ _ (by decide +kernel)
theorem xi_ok329_0 : xi_ok cX12_weakParts xi_329_0 = true := (xi_ap xi_w329).1
theorem xi_r329_1 : xi_ok cX12_weakParts (xi_329_1 ++ (xi_329_2)) = true := (xi_ap xi_w329).2
theorem xi_ok329_1 : xi_ok cX12_weakParts xi_329_1 = true := (xi_ap xi_r329_1).1
theorem xi_r329_2 : xi_ok cX12_weakParts (xi_329_2) = true := (xi_ap xi_r329_1).2
theorem xi_ok329_2 : xi_ok cX12_weakParts xi_329_2 = true := xi_r329_2
noncomputable def xi_329 (pc : Nat) : XIs := cond (Nat.blt pc 25) (xi_329_0) (cond (Nat.blt pc 57) (xi_329_1) (xi_329_2))
theorem xi_ok329 (pc : Nat) : xi_ok cX12_weakParts (xi_329 pc) = true := xi_c (xi_ok329_0) (xi_c (xi_ok329_1) (xi_ok329_2))
noncomputable def xi_330_0 : XIs := [(0, .aload_n 0, 1), (1, .aload_n 0, 1), (2, .iload_n 1, 1), (3, .invokevirtual 476, 3), (6, .invokevirtual 334, 3), (9, .ifCond .eq 5, 3), (12, .iconst 0, 1), (13, .ireturn, 1), (14, .aload_n 0, 1), (15, .iload_n 1, 1), (16, .iconst (-1), 1), (17, .invokevirtual 479, 3), (20, .aload_n 0, 1), (21, .iconst (-1), 1), (22, .iconst (-1), 1), (23, .invokevirtual 479, 3)]
noncomputable def xi_330_1 : XIs := [(26, .if_icmp .le 7, 3), (29, .iconst 1, 1), (30, .goto 4, 3), (33, .iconst 0, 1), (34, .ireturn, 1)]
set_option maxRecDepth 100000 in
theorem xi_w330 : xi_ok cX12_bridge (xi_330_0 ++ (xi_330_1)) = true := dl_all _ _ (by decide +kernel)
theorem xi_ok330_0 : xi_ok cX12_bridge xi_330_0 = true := (xi_ap xi_w330).1
theorem xi_r330_1 : xi_ok cX12_bridge (xi_330_1) = true := (xi_ap xi_w330).2
theorem xi_ok330_1 : xi_ok cX12_bridge xi_330_1 = true := xi_r330_1
noncomputable def xi_330 (pc : Nat) : XIs := cond (Nat.blt pc 26) (xi_330_0) (xi_330_1)
theorem xi_ok330 (pc : Nat) : xi_ok cX12_bridge (xi_330 pc) = true := xi_c (xi_ok330_0) (xi_ok330_1)
noncomputable def xi_331_0 : XIs := [(0, .aload_n 0, 1), (1, .aload_n 0, 1), (2, .iload_n 1, 1), (3, .invokevirtual 349, 3), (6, .invokevirtual 334, 3), (9, .ifCond .eq 5, 3), (12, .iconst 0, 1), (13, .ireturn, 1), (14, .aload_n 0, 1), (15, .iconst (-1), 1), (16, .iload_n 1, 1), (17, .invokevirtual 479, 3), (20, .aload_n 0, 1), (21, .iconst (-1), 1), (22, .iconst (-1), 1), (23, .invokevirtual 479, 3)]
noncomputable def xi_331_1 : XIs := [(26, .if_icmp .le 7, 3), (29, .iconst 1, 1), (30, .goto 4, 3), (33, .iconst 0, 1), (34, .ireturn, 1)]
set_option maxRecDepth 100000 in
theorem xi_w331 : xi_ok cX12_cut (xi_331_0 ++ (xi_331_1)) = true := dl_all _ _ (by decide +kernel)
theorem xi_ok331_0 : xi_ok cX12_cut xi_331_0 = true := (xi_ap xi_w331).1
theorem xi_r331_1 : xi_ok cX12_cut (xi_331_1) = true := (xi_ap xi_w331).2
theorem xi_ok331_1 : xi_ok cX12_cut xi_331_1 = true := xi_r331_1
noncomputable def xi_331 (pc : Nat) : XIs := cond (Nat.blt pc 26) (xi_331_0) (xi_331_1)
theorem xi_ok331 (pc : Nat) : xi_ok cX12_cut (xi_331 pc) = true := xi_c (xi_ok331_0) (xi_ok331_1)
noncomputable def xi_332_0 : XIs := [(0, .aload_n 0, 1), (1, .iload_n 1, 1), (2, .ifCond .lt 7, 3), (5, .iconst 1, 1), (6, .goto 4, 3), (9, .iconst 0, 1), (10, .invokevirtual 334, 3), (13, .ifCond .eq 5, 3), (16, .iconst 0, 1), (17, .ireturn, 1), (18, .iconst 0, 1), (19, .istore_n 2, 1), (20, .iconst (-1), 1), (21, .istore_n 3, 1), (22, .iconst (-1), 1), (23, .istore 4, 2)]
noncomputable def xi_332_1 : XIs := [(25, .iconst 0, 1), (26, .istore 5, 2), (28, .iload 5, 2), (30, .aload_n 0, 1), (31, .getfield 285, 3), (34, .if_icmp .ge 158, 3), (37, .iconst (-1), 1), (38, .istore_n 3, 1), (39, .aload_n 0, 1), (40, .getfield 285, 3), (43, .iconst 1, 1), (44, .isub, 1), (45, .istore 6, 2), (47, .iload 6, 2), (49, .ifCond .lt 110, 3), (52, .iload_n 2, 1)]
noncomputable def xi_332_2 : XIs := [(53, .iload 6, 2), (55, .invokestatic 427, 3), (58, .ifCond .ne 7, 3), (61, .iconst 1, 1), (62, .goto 4, 3), (65, .iconst 0, 1), (66, .istore 7, 2), (68, .aload_n 0, 1), (69, .getfield 288, 3), (72, .istore 8, 2), (74, .iload 8, 2), (76, .aload_n 0, 1), (77, .getfield 288, 3), (80, .sipush 160, 3), (83, .iadd, 1), (84, .if_icmp .ge 57, 3)]
noncomputable def xi_332_3 : XIs := [(87, .iload 7, 2), (89, .ifCond .eq 52, 3), (92, .aload_n 0, 1), (93, .getfield 16, 3), (96, .iload 8, 2), (98, .baload, 1), (99, .ifCond .eq 29, 3), (102, .aload_n 0, 1), (103, .getfield 23, 3), (106, .iload 8, 2), (108, .iaload, 1), (109, .iload 6, 2), (111, .if_icmp .ne 17, 3), (114, .iload_n 2, 1), (115, .aload_n 0, 1), (116, .getfield 20, 3)]
noncomputable def xi_332_4 : XIs := [(119, .iload 8, 2), (121, .iaload, 1), (122, .invokestatic 427, 3), (125, .ifCond .eq 7, 3), (128, .iconst 1, 1), (129, .goto 4, 3), (132, .iconst 0, 1), (133, .istore 7, 2), (135, .iinc 8 1, 3), (138, .goto (-64), 3), (141, .iload 7, 2), (143, .ifCond .eq 8, 3), (146, .iload 6, 2), (148, .goto 4, 3), (151, .iload_n 3, 1), (152, .istore_n 3, 1)]
noncomputable def xi_332_5 : XIs := [(153, .iinc 6 (-1), 3), (156, .goto (-109), 3), (159, .iload_n 3, 1), (160, .iconst (-1), 1), (161, .if_icmp .ne 5, 3), (164, .iconst (-1), 1), (165, .ireturn, 1), (166, .iload_n 2, 1), (167, .iconst 1, 1), (168, .iload_n 3, 1), (169, .ishl, 1), (170, .ior, 1), (171, .istore_n 2, 1), (172, .iload 5, 2), (174, .iload_n 1, 1), (175, .if_icmp .ne 7, 3)]
noncomputable def xi_332_6 : XIs := [(178, .iload_n 3, 1), (179, .goto 5, 3), (182, .iload 4, 2), (184, .istore 4, 2), (186, .iinc 5 1, 3), (189, .goto (-161), 3), (192, .iload 4, 2), (194, .ireturn, 1)]
set_option maxRecDepth 100000 in
theorem xi_w332 : xi_ok cX12_order (xi_332_0 ++ (xi_332_1 ++ (xi_332_2 ++ (xi_332_3 ++ (xi_332_4 ++ (xi_332_5 ++ (xi_332_6))))))) = true := dl_all _ _ (by decide +kernel)
theorem xi_ok332_0 : xi_ok cX12_order xi_332_0 = true := (xi_ap xi_w332).1
theorem xi_r332_1 : xi_ok cX12_order (xi_332_1 ++ (xi_332_2 ++ (xi_332_3 ++ (xi_332_4 ++ (xi_332_5 ++ (xi_332_6)))))) = true := (xi_ap xi_w332).2
theorem xi_ok332_1 : xi_ok cX12_order xi_332_1 = true := (xi_ap xi_r332_1).1
theorem xi_r332_2 : xi_ok cX12_order (xi_332_2 ++ (xi_332_3 ++ (xi_332_4 ++ (xi_332_5 ++ (xi_332_6))))) = true := (xi_ap xi_r332_1).2
theorem xi_ok332_2 : xi_ok cX12_order xi_332_2 = true := (xi_ap xi_r332_2).1
theorem xi_r332_3 : xi_ok cX12_order (xi_332_3 ++ (xi_332_4 ++ (xi_332_5 ++ (xi_332_6)))) = true := (xi_ap xi_r332_2).2
theorem xi_ok332_3 : xi_ok cX12_order xi_332_3 = true := (xi_ap xi_r332_3).1
theorem xi_r332_4 : xi_ok cX12_order (xi_332_4 ++ (xi_332_5 ++ (xi_332_6))) = true := (xi_ap xi_r332_3).2
theorem xi_ok332_4 : xi_ok cX12_order xi_332_4 = true := (xi_ap xi_r332_4).1
theorem xi_r332_5 : xi_ok cX12_order (xi_332_5 ++ (xi_332_6)) = true := (xi_ap xi_r332_4).2
theorem xi_ok332_5 : xi_ok cX12_order xi_332_5 = true := (xi_ap xi_r332_5).1
theorem xi_r332_6 : xi_ok cX12_order (xi_332_6) = true := (xi_ap xi_r332_5).2
theorem xi_ok332_6 : xi_ok cX12_order xi_332_6 = true := xi_r332_6
noncomputable def xi_332 (pc : Nat) : XIs := cond (Nat.blt pc 87) (cond (Nat.blt pc 25) (xi_332_0) (cond (Nat.blt pc 53) (xi_332_1) (xi_332_2))) (cond (Nat.blt pc 153) (cond (Nat.blt pc 119) (xi_332_3) (xi_332_4)) (cond (Nat.blt pc 178) (xi_332_5) (xi_332_6)))
theorem xi_ok332 (pc : Nat) : xi_ok cX12_order (xi_332 pc) = true := xi_c (xi_c (xi_ok332_0) (xi_c (xi_ok332_1) (xi_ok332_2))) (xi_c (xi_c (xi_ok332_3) (xi_ok332_4)) (xi_c (xi_ok332_5) (xi_ok332_6)))
noncomputable def xi_333_0 : XIs := [(0, .iconst 0, 1), (1, .istore_n 3, 1), (2, .iconst 0, 1), (3, .istore 4, 2), (5, .iload 4, 2), (7, .sipush 160, 3), (10, .if_icmp .ge 84, 3), (13, .aload_n 0, 1), (14, .iload 4, 2), (16, .invokevirtual 340, 3), (19, .ifCond .eq 69, 3), (22, .aload_n 0, 1), (23, .getfield 20, 3), (26, .aload_n 0, 1), (27, .getfield 288, 3), (30, .iload 4, 2)]
noncomputable def xi_333_1 : XIs := [(32, .iadd, 1), (33, .iaload, 1), (34, .istore 5, 2), (36, .aload_n 0, 1), (37, .getfield 23, 3), (40, .aload_n 0, 1), (41, .getfield 288, 3), (44, .iload 4, 2), (46, .iadd, 1), (47, .iaload, 1), (48, .istore 6, 2), (50, .iload_n 3, 1), (51, .iload 5, 2), (53, .iload_n 1, 1), (54, .if_icmp .ne 12, 3), (57, .iload_n 2, 1)]
noncomputable def xi_333_2 : XIs := [(58, .iload 6, 2), (60, .invokestatic 427, 3), (63, .ifCond .ne 18, 3), (66, .iload 6, 2), (68, .iload_n 1, 1), (69, .if_icmp .ne 16, 3), (72, .iload_n 2, 1), (73, .iload 5, 2), (75, .invokestatic 427, 3), (78, .ifCond .eq 7, 3), (81, .iconst 1, 1), (82, .goto 4, 3), (85, .iconst 0, 1), (86, .iadd, 1), (87, .istore_n 3, 1), (88, .iinc 4 1, 3)]
noncomputable def xi_333_3 : XIs := [(91, .goto (-86), 3), (94, .iload_n 3, 1), (95, .ireturn, 1)]
set_option maxRecDepth 100000 in
theorem xi_w333 : xi_ok cX12_jointsWith (xi_333_0 ++ (xi_333_1 ++ (xi_333_2 ++ (xi_333_3)))) = true := dl_all _ _ (by decide +kernel)
theorem xi_ok333_0 : xi_ok cX12_jointsWith xi_333_0 = true := (xi_ap xi_w333).1
theorem xi_r333_1 : xi_ok cX12_jointsWith (xi_333_1 ++ (xi_333_2 ++ (xi_333_3))) = true := (xi_ap xi_w333).2
theorem xi_ok333_1 : xi_ok cX12_jointsWith xi_333_1 = true := (xi_ap xi_r333_1).1
theorem xi_r333_2 : xi_ok cX12_jointsWith (xi_333_2 ++ (xi_333_3)) = true := (xi_ap xi_r333_1).2
theorem xi_ok333_2 : xi_ok cX12_jointsWith xi_333_2 = true := (xi_ap xi_r333_2).1
theorem xi_r333_3 : xi_ok cX12_jointsWith (xi_333_3) = true := (xi_ap xi_r333_2).2
theorem xi_ok333_3 : xi_ok cX12_jointsWith xi_333_3 = true := xi_r333_3
noncomputable def xi_333 (pc : Nat) : XIs := cond (Nat.blt pc 58) (cond (Nat.blt pc 32) (xi_333_0) (xi_333_1)) (cond (Nat.blt pc 91) (xi_333_2) (xi_333_3))
theorem xi_ok333 (pc : Nat) : xi_ok cX12_jointsWith (xi_333 pc) = true := xi_c (xi_c (xi_ok333_0) (xi_ok333_1)) (xi_c (xi_ok333_2) (xi_ok333_3))
noncomputable def xi_334_0 : XIs := [(0, .aload_n 0, 1), (1, .aload_n 0, 1), (2, .iload_n 1, 1), (3, .invokevirtual 349, 3), (6, .invokevirtual 334, 3), (9, .ifCond .eq 5, 3), (12, .iconst 0, 1), (13, .ireturn, 1), (14, .aload_n 0, 1), (15, .getfield 285, 3), (18, .bipush 32, 2), (20, .if_icmp .ne 7, 3), (23, .iconst (-1), 1), (24, .goto 11, 3), (27, .iconst 1, 1), (28, .aload_n 0, 1)]
noncomputable def xi_334_1 : XIs := [(29, .getfield 285, 3), (32, .ishl, 1), (33, .iconst 1, 1), (34, .isub, 1), (35, .istore_n 2, 1), (36, .iconst 0, 1), (37, .istore_n 3, 1), (38, .iconst 0, 1), (39, .istore 4, 2), (41, .iload_n 2, 1), (42, .iload_n 1, 1), (43, .invokestatic 427, 3), (46, .ifCond .eq 76, 3), (49, .iload_n 3, 1), (50, .istore 4, 2), (52, .iinc 3 1, 3)]
noncomputable def xi_334_2 : XIs := [(55, .iconst 1, 1), (56, .istore 5, 2), (58, .iload 5, 2), (60, .ifCond .eq 59, 3), (63, .iconst 0, 1), (64, .istore 5, 2), (66, .iconst 0, 1), (67, .istore 6, 2), (69, .iload 6, 2), (71, .aload_n 0, 1), (72, .getfield 285, 3), (75, .if_icmp .ge 41, 3), (78, .iload_n 2, 1), (79, .iload 6, 2), (81, .invokestatic 427, 3), (84, .ifCond .eq 26, 3)]
noncomputable def xi_334_3 : XIs := [(87, .aload_n 0, 1), (88, .iload 6, 2), (90, .iload_n 2, 1), (91, .invokevirtual 482, 3), (94, .iload_n 3, 1), (95, .if_icmp .ge 15, 3), (98, .iload_n 2, 1), (99, .iconst 1, 1), (100, .iload 6, 2), (102, .ishl, 1), (103, .iconst (-1), 1), (104, .ixor, 1), (105, .iand, 1), (106, .istore_n 2, 1), (107, .iconst 1, 1), (108, .istore 5, 2)]
noncomputable def xi_334_4 : XIs := [(110, .iinc 6 1, 3), (113, .goto (-44), 3), (116, .goto (-58), 3), (119, .goto (-78), 3), (122, .iload 4, 2), (124, .ireturn, 1)]
set_option maxRecDepth 100000 in
theorem xi_w334 : xi_ok cX12_core (xi_334_0 ++ (xi_334_1 ++ (xi_334_2 ++ (xi_334_3 ++ (xi_334_4))))) = true := dl_all _ _ (by decide +kernel)
theorem xi_ok334_0 : xi_ok cX12_core xi_334_0 = true := (xi_ap xi_w334).1
theorem xi_r334_1 : xi_ok cX12_core (xi_334_1 ++ (xi_334_2 ++ (xi_334_3 ++ (xi_334_4)))) = true := (xi_ap xi_w334).2
theorem xi_ok334_1 : xi_ok cX12_core xi_334_1 = true := (xi_ap xi_r334_1).1
theorem xi_r334_2 : xi_ok cX12_core (xi_334_2 ++ (xi_334_3 ++ (xi_334_4))) = true := (xi_ap xi_r334_1).2
theorem xi_ok334_2 : xi_ok cX12_core xi_334_2 = true := (xi_ap xi_r334_2).1
theorem xi_r334_3 : xi_ok cX12_core (xi_334_3 ++ (xi_334_4)) = true := (xi_ap xi_r334_2).2
theorem xi_ok334_3 : xi_ok cX12_core xi_334_3 = true := (xi_ap xi_r334_3).1
theorem xi_r334_4 : xi_ok cX12_core (xi_334_4) = true := (xi_ap xi_r334_3).2
theorem xi_ok334_4 : xi_ok cX12_core xi_334_4 = true := xi_r334_4
noncomputable def xi_334 (pc : Nat) : XIs := cond (Nat.blt pc 55) (cond (Nat.blt pc 29) (xi_334_0) (xi_334_1)) (cond (Nat.blt pc 87) (xi_334_2) (cond (Nat.blt pc 110) (xi_334_3) (xi_334_4)))
theorem xi_ok334 (pc : Nat) : xi_ok cX12_core (xi_334 pc) = true := xi_c (xi_c (xi_ok334_0) (xi_ok334_1)) (xi_c (xi_ok334_2) (xi_c (xi_ok334_3) (xi_ok334_4)))
noncomputable def xi_335_0 : XIs := [(0, .iconst 0, 1), (1, .istore_n 1, 1), (2, .iload_n 1, 1), (3, .aload_n 0, 1), (4, .getfield 285, 3), (7, .if_icmp .ge 16, 3), (10, .aload_n 0, 1), (11, .getfield 100, 3), (14, .iload_n 1, 1), (15, .iconst 0, 1), (16, .iastore, 1), (17, .iinc 1 1, 3), (20, .goto (-18), 3), (23, .iconst 0, 1), (24, .istore_n 1, 1), (25, .iload_n 1, 1)]
noncomputable def xi_335_1 : XIs := [(26, .sipush 160, 3), (29, .if_icmp .ge 81, 3), (32, .aload_n 0, 1), (33, .iload_n 1, 1), (34, .invokevirtual 340, 3), (37, .ifCond .eq 67, 3), (40, .aload_n 0, 1), (41, .getfield 100, 3), (44, .aload_n 0, 1), (45, .getfield 20, 3), (48, .aload_n 0, 1), (49, .getfield 288, 3), (52, .iload_n 1, 1), (53, .iadd, 1), (54, .iaload, 1), (55, .dup2, 1)]
noncomputable def xi_335_2 : XIs := [(56, .iaload, 1), (57, .iconst 1, 1), (58, .aload_n 0, 1), (59, .getfield 23, 3), (62, .aload_n 0, 1), (63, .getfield 288, 3), (66, .iload_n 1, 1), (67, .iadd, 1), (68, .iaload, 1), (69, .ishl, 1), (70, .ior, 1), (71, .iastore, 1), (72, .aload_n 0, 1), (73, .getfield 100, 3), (76, .aload_n 0, 1), (77, .getfield 23, 3)]
noncomputable def xi_335_3 : XIs := [(80, .aload_n 0, 1), (81, .getfield 288, 3), (84, .iload_n 1, 1), (85, .iadd, 1), (86, .iaload, 1), (87, .dup2, 1), (88, .iaload, 1), (89, .iconst 1, 1), (90, .aload_n 0, 1), (91, .getfield 20, 3), (94, .aload_n 0, 1), (95, .getfield 288, 3), (98, .iload_n 1, 1), (99, .iadd, 1), (100, .iaload, 1), (101, .ishl, 1)]
noncomputable def xi_335_4 : XIs := [(102, .ior, 1), (103, .iastore, 1), (104, .iinc 1 1, 3), (107, .goto (-82), 3), (110, .return_, 1)]
set_option maxRecDepth 100000 in
theorem xi_w335 : xi_ok cX12_findBeside (xi_335_0 ++ (xi_335_1 ++ (xi_335_2 ++ (xi_335_3 ++ (xi_335_4))))) = true := dl_all _ _ (by decide +kernel)
theorem xi_ok335_0 : xi_ok cX12_findBeside xi_335_0 = true := (xi_ap xi_w335).1
theorem xi_r335_1 : xi_ok cX12_findBeside (xi_335_1 ++ (xi_335_2 ++ (xi_335_3 ++ (xi_335_4)))) = true := (xi_ap xi_w335).2
theorem xi_ok335_1 : xi_ok cX12_findBeside xi_335_1 = true := (xi_ap xi_r335_1).1
theorem xi_r335_2 : xi_ok cX12_findBeside (xi_335_2 ++ (xi_335_3 ++ (xi_335_4))) = true := (xi_ap xi_r335_1).2
theorem xi_ok335_2 : xi_ok cX12_findBeside xi_335_2 = true := (xi_ap xi_r335_2).1
theorem xi_r335_3 : xi_ok cX12_findBeside (xi_335_3 ++ (xi_335_4)) = true := (xi_ap xi_r335_2).2
theorem xi_ok335_3 : xi_ok cX12_findBeside xi_335_3 = true := (xi_ap xi_r335_3).1
theorem xi_r335_4 : xi_ok cX12_findBeside (xi_335_4) = true := (xi_ap xi_r335_3).2
theorem xi_ok335_4 : xi_ok cX12_findBeside xi_335_4 = true := xi_r335_4
noncomputable def xi_335 (pc : Nat) : XIs := cond (Nat.blt pc 56) (cond (Nat.blt pc 26) (xi_335_0) (xi_335_1)) (cond (Nat.blt pc 80) (xi_335_2) (cond (Nat.blt pc 102) (xi_335_3) (xi_335_4)))
theorem xi_ok335 (pc : Nat) : xi_ok cX12_findBeside (xi_335 pc) = true := xi_c (xi_c (xi_ok335_0) (xi_ok335_1)) (xi_c (xi_ok335_2) (xi_c (xi_ok335_3) (xi_ok335_4)))
noncomputable def xi_336_0 : XIs := [(0, .iconst 0, 1), (1, .istore_n 1, 1), (2, .iconst 0, 1), (3, .istore_n 2, 1), (4, .iload_n 2, 1), (5, .bipush 32, 2), (7, .if_icmp .ge 17, 3), (10, .iload_n 1, 1), (11, .iload_n 0, 1), (12, .iload_n 2, 1), (13, .ishr, 1), (14, .iconst 1, 1), (15, .iand, 1), (16, .iadd, 1), (17, .istore_n 1, 1), (18, .iinc 2 1, 3)]
noncomputable def xi_336_1 : XIs := [(21, .goto (-17), 3), (24, .iload_n 1, 1), (25, .ireturn, 1)]
set_option maxRecDepth 100000 in
theorem xi_w336 : xi_ok cX12_count (xi_336_0 ++ (xi_336_1)) = true := dl_all _ _ (by decide +kernel)
theorem xi_ok336_0 : xi_ok cX12_count xi_336_0 = true := (xi_ap xi_w336).1
theorem xi_r336_1 : xi_ok cX12_count (xi_336_1) = true := (xi_ap xi_w336).2
theorem xi_ok336_1 : xi_ok cX12_count xi_336_1 = true := xi_r336_1
noncomputable def xi_336 (pc : Nat) : XIs := cond (Nat.blt pc 21) (xi_336_0) (xi_336_1)
theorem xi_ok336 (pc : Nat) : xi_ok cX12_count (xi_336 pc) = true := xi_c (xi_ok336_0) (xi_ok336_1)
noncomputable def xi_337_0 : XIs := [(0, .aload_n 0, 1), (1, .invokevirtual 485, 3), (4, .iconst 0, 1), (5, .istore_n 1, 1), (6, .iconst 0, 1), (7, .istore_n 2, 1), (8, .iconst 0, 1), (9, .istore_n 3, 1), (10, .aload_n 0, 1), (11, .getfield 106, 3), (14, .iconst 0, 1), (15, .aload_n 0, 1), (16, .getfield 285, 3), (19, .bipush 32, 2), (21, .if_icmp .ne 7, 3), (24, .iconst (-1), 1)]
noncomputable def xi_337_1 : XIs := [(25, .goto 11, 3), (28, .iconst 1, 1), (29, .aload_n 0, 1), (30, .getfield 285, 3), (33, .ishl, 1), (34, .iconst 1, 1), (35, .isub, 1), (36, .iastore, 1), (37, .aload_n 0, 1), (38, .getfield 103, 3), (41, .iconst 0, 1), (42, .iconst 0, 1), (43, .iastore, 1), (44, .iload_n 3, 1), (45, .ifCond .lt 120, 3), (48, .iload_n 3, 1)]
noncomputable def xi_337_2 : XIs := [(49, .iload_n 2, 1), (50, .if_icmp .le 12, 3), (53, .iload_n 3, 1), (54, .istore_n 2, 1), (55, .aload_n 0, 1), (56, .getfield 103, 3), (59, .iload_n 3, 1), (60, .iaload, 1), (61, .istore_n 1, 1), (62, .aload_n 0, 1), (63, .getfield 106, 3), (66, .iload_n 3, 1), (67, .iaload, 1), (68, .ifCond .eq 18, 3), (71, .iload_n 3, 1), (72, .aload_n 0, 1)]
noncomputable def xi_337_3 : XIs := [(73, .getfield 106, 3), (76, .iload_n 3, 1), (77, .iaload, 1), (78, .invokestatic 488, 3), (81, .iadd, 1), (82, .iload_n 2, 1), (83, .if_icmp .gt 9, 3), (86, .iinc 3 (-1), 3), (89, .goto (-45), 3), (92, .aload_n 0, 1), (93, .getfield 106, 3), (96, .iload_n 3, 1), (97, .iaload, 1), (98, .invokestatic 473, 3), (101, .istore 4, 2), (103, .aload_n 0, 1)]
noncomputable def xi_337_4 : XIs := [(104, .getfield 106, 3), (107, .iload_n 3, 1), (108, .dup2, 1), (109, .iaload, 1), (110, .iconst 1, 1), (111, .iload 4, 2), (113, .ishl, 1), (114, .iconst (-1), 1), (115, .ixor, 1), (116, .iand, 1), (117, .iastore, 1), (118, .aload_n 0, 1), (119, .getfield 106, 3), (122, .iload_n 3, 1), (123, .iconst 1, 1), (124, .iadd, 1)]
noncomputable def xi_337_5 : XIs := [(125, .aload_n 0, 1), (126, .getfield 106, 3), (129, .iload_n 3, 1), (130, .iaload, 1), (131, .aload_n 0, 1), (132, .getfield 100, 3), (135, .iload 4, 2), (137, .iaload, 1), (138, .iand, 1), (139, .iastore, 1), (140, .aload_n 0, 1), (141, .getfield 103, 3), (144, .iload_n 3, 1), (145, .iconst 1, 1), (146, .iadd, 1), (147, .aload_n 0, 1)]
noncomputable def xi_337_6 : XIs := [(148, .getfield 103, 3), (151, .iload_n 3, 1), (152, .iaload, 1), (153, .iconst 1, 1), (154, .iload 4, 2), (156, .ishl, 1), (157, .ior, 1), (158, .iastore, 1), (159, .iinc 3 1, 3), (162, .goto (-118), 3), (165, .iload_n 1, 1), (166, .ireturn, 1)]
set_option maxRecDepth 100000 in
theorem xi_w337 : xi_ok cX12_findClique (xi_337_0 ++ (xi_337_1 ++ (xi_337_2 ++ (xi_337_3 ++ (xi_337_4 ++ (xi_337_5 ++ (xi_337_6))))))) = true := dl_all _ _ (by decide +kernel)
theorem xi_ok337_0 : xi_ok cX12_findClique xi_337_0 = true := (xi_ap xi_w337).1
theorem xi_r337_1 : xi_ok cX12_findClique (xi_337_1 ++ (xi_337_2 ++ (xi_337_3 ++ (xi_337_4 ++ (xi_337_5 ++ (xi_337_6)))))) = true := (xi_ap xi_w337).2
theorem xi_ok337_1 : xi_ok cX12_findClique xi_337_1 = true := (xi_ap xi_r337_1).1
theorem xi_r337_2 : xi_ok cX12_findClique (xi_337_2 ++ (xi_337_3 ++ (xi_337_4 ++ (xi_337_5 ++ (xi_337_6))))) = true := (xi_ap xi_r337_1).2
theorem xi_ok337_2 : xi_ok cX12_findClique xi_337_2 = true := (xi_ap xi_r337_2).1
theorem xi_r337_3 : xi_ok cX12_findClique (xi_337_3 ++ (xi_337_4 ++ (xi_337_5 ++ (xi_337_6)))) = true := (xi_ap xi_r337_2).2
theorem xi_ok337_3 : xi_ok cX12_findClique xi_337_3 = true := (xi_ap xi_r337_3).1
theorem xi_r337_4 : xi_ok cX12_findClique (xi_337_4 ++ (xi_337_5 ++ (xi_337_6))) = true := (xi_ap xi_r337_3).2
theorem xi_ok337_4 : xi_ok cX12_findClique xi_337_4 = true := (xi_ap xi_r337_4).1
theorem xi_r337_5 : xi_ok cX12_findClique (xi_337_5 ++ (xi_337_6)) = true := (xi_ap xi_r337_4).2
theorem xi_ok337_5 : xi_ok cX12_findClique xi_337_5 = true := (xi_ap xi_r337_5).1
theorem xi_r337_6 : xi_ok cX12_findClique (xi_337_6) = true := (xi_ap xi_r337_5).2
theorem xi_ok337_6 : xi_ok cX12_findClique xi_337_6 = true := xi_r337_6
noncomputable def xi_337 (pc : Nat) : XIs := cond (Nat.blt pc 73) (cond (Nat.blt pc 25) (xi_337_0) (cond (Nat.blt pc 49) (xi_337_1) (xi_337_2))) (cond (Nat.blt pc 125) (cond (Nat.blt pc 104) (xi_337_3) (xi_337_4)) (cond (Nat.blt pc 148) (xi_337_5) (xi_337_6)))
theorem xi_ok337 (pc : Nat) : xi_ok cX12_findClique (xi_337 pc) = true := xi_c (xi_c (xi_ok337_0) (xi_c (xi_ok337_1) (xi_ok337_2))) (xi_c (xi_c (xi_ok337_3) (xi_ok337_4)) (xi_c (xi_ok337_5) (xi_ok337_6)))
noncomputable def xi_338_0 : XIs := [(0, .aload_n 0, 1), (1, .iload_n 1, 1), (2, .ifCond .lt 7, 3), (5, .iconst 1, 1), (6, .goto 4, 3), (9, .iconst 0, 1), (10, .invokevirtual 334, 3), (13, .ifCond .eq 5, 3), (16, .iconst 0, 1), (17, .ireturn, 1), (18, .aload_n 0, 1), (19, .invokevirtual 491, 3), (22, .istore_n 2, 1), (23, .iconst 0, 1), (24, .istore_n 3, 1), (25, .iconst 0, 1)]
noncomputable def xi_338_1 : XIs := [(26, .istore 4, 2), (28, .iload 4, 2), (30, .aload_n 0, 1), (31, .getfield 285, 3), (34, .if_icmp .ge 29, 3), (37, .iload_n 2, 1), (38, .iload 4, 2), (40, .invokestatic 427, 3), (43, .ifCond .eq 14, 3), (46, .iload_n 3, 1), (47, .iload_n 1, 1), (48, .if_icmp .ne 6, 3), (51, .iload 4, 2), (53, .ireturn, 1), (54, .iinc 3 1, 3), (57, .iinc 4 1, 3)]
noncomputable def xi_338_2 : XIs := [(60, .goto (-32), 3), (63, .iconst (-1), 1), (64, .ireturn, 1)]
set_option maxRecDepth 100000 in
theorem xi_w338 : xi_ok cX12_clique (xi_338_0 ++ (xi_338_1 ++ (xi_338_2))) = true := dl_all _ _ (by decide +kernel)
theorem xi_ok338_0 : xi_ok cX12_clique xi_338_0 = true := (xi_ap xi_w338).1
theorem xi_r338_1 : xi_ok cX12_clique (xi_338_1 ++ (xi_338_2)) = true := (xi_ap xi_w338).2
theorem xi_ok338_1 : xi_ok cX12_clique xi_338_1 = true := (xi_ap xi_r338_1).1
theorem xi_r338_2 : xi_ok cX12_clique (xi_338_2) = true := (xi_ap xi_r338_1).2
theorem xi_ok338_2 : xi_ok cX12_clique xi_338_2 = true := xi_r338_2
noncomputable def xi_338 (pc : Nat) : XIs := cond (Nat.blt pc 26) (xi_338_0) (cond (Nat.blt pc 60) (xi_338_1) (xi_338_2))
theorem xi_ok338 (pc : Nat) : xi_ok cX12_clique (xi_338 pc) = true := xi_c (xi_ok338_0) (xi_c (xi_ok338_1) (xi_ok338_2))
noncomputable def xi_339_0 : XIs := [(0, .iconst 0, 1), (1, .istore_n 2, 1), (2, .iconst 0, 1), (3, .istore_n 3, 1), (4, .iload_n 3, 1), (5, .aload_n 0, 1), (6, .getfield 285, 3), (9, .if_icmp .ge 46, 3), (12, .iload_n 2, 1), (13, .aload_n 0, 1), (14, .getfield 100, 3), (17, .iload_n 1, 1), (18, .iaload, 1), (19, .iload_n 3, 1), (20, .invokestatic 427, 3), (23, .ifCond .eq 23, 3)]
noncomputable def xi_339_1 : XIs := [(26, .aload_n 0, 1), (27, .getfield 112, 3), (30, .iload_n 3, 1), (31, .iaload, 1), (32, .ifCond .lt 14, 3), (35, .iconst 1, 1), (36, .aload_n 0, 1), (37, .getfield 112, 3), (40, .iload_n 3, 1), (41, .iaload, 1), (42, .ishl, 1), (43, .goto 4, 3), (46, .iconst 0, 1), (47, .ior, 1), (48, .istore_n 2, 1), (49, .iinc 3 1, 3)]
noncomputable def xi_339_2 : XIs := [(52, .goto (-48), 3), (55, .iload_n 2, 1), (56, .ireturn, 1)]
set_option maxRecDepth 100000 in
theorem xi_w339 : xi_ok cX12_barsOf (xi_339_0 ++ (xi_339_1 ++ (xi_339_2))) = true := dl_all _ _ (by decide +kernel)
theorem xi_ok339_0 : xi_ok cX12_barsOf xi_339_0 = true := (xi_ap xi_w339).1
theorem xi_r339_1 : xi_ok cX12_barsOf (xi_339_1 ++ (xi_339_2)) = true := (xi_ap xi_w339).2
theorem xi_ok339_1 : xi_ok cX12_barsOf xi_339_1 = true := (xi_ap xi_r339_1).1
theorem xi_r339_2 : xi_ok cX12_barsOf (xi_339_2) = true := (xi_ap xi_r339_1).2
theorem xi_ok339_2 : xi_ok cX12_barsOf xi_339_2 = true := xi_r339_2
noncomputable def xi_339 (pc : Nat) : XIs := cond (Nat.blt pc 26) (xi_339_0) (cond (Nat.blt pc 52) (xi_339_1) (xi_339_2))
theorem xi_ok339 (pc : Nat) : xi_ok cX12_barsOf (xi_339 pc) = true := xi_c (xi_ok339_0) (xi_c (xi_ok339_1) (xi_ok339_2))
noncomputable def xi_340_0 : XIs := [(0, .iconst (-1), 1), (1, .istore_n 2, 1), (2, .iconst 0, 1), (3, .istore_n 3, 1), (4, .iconst 0, 1), (5, .istore 4, 2), (7, .iconst 0, 1), (8, .istore 5, 2), (10, .iload 5, 2), (12, .aload_n 0, 1), (13, .getfield 285, 3), (16, .if_icmp .ge 89, 3), (19, .aload_n 0, 1), (20, .getfield 495, 3), (23, .iload 5, 2), (25, .invokestatic 427, 3)]
noncomputable def xi_340_1 : XIs := [(28, .ifCond .eq 71, 3), (31, .aload_n 0, 1), (32, .getfield 112, 3), (35, .iload 5, 2), (37, .iaload, 1), (38, .ifCond .ge 61, 3), (41, .iload_n 1, 1), (42, .aload_n 0, 1), (43, .iload 5, 2), (45, .invokevirtual 498, 3), (48, .invokestatic 488, 3), (51, .isub, 1), (52, .istore 6, 2), (54, .aload_n 0, 1), (55, .getfield 100, 3), (58, .iload 5, 2)]
noncomputable def xi_340_2 : XIs := [(60, .iaload, 1), (61, .invokestatic 488, 3), (64, .istore 7, 2), (66, .iload_n 2, 1), (67, .ifCond .lt 22, 3), (70, .iload 6, 2), (72, .iload_n 3, 1), (73, .if_icmp .lt 16, 3), (76, .iload 6, 2), (78, .iload_n 3, 1), (79, .if_icmp .ne 20, 3), (82, .iload 7, 2), (84, .iload 4, 2), (86, .if_icmp .le 13, 3), (89, .iload 5, 2), (91, .istore_n 2, 1)]
noncomputable def xi_340_3 : XIs := [(92, .iload 6, 2), (94, .istore_n 3, 1), (95, .iload 7, 2), (97, .istore 4, 2), (99, .iinc 5 1, 3), (102, .goto (-92), 3), (105, .iload_n 2, 1), (106, .ireturn, 1)]
set_option maxRecDepth 100000 in
theorem xi_w340 : xi_ok cX12_tightest (xi_340_0 ++ (xi_340_1 ++ (xi_340_2 ++ (xi_340_3)))) = true := dl_all _ _ (by decide +kernel)
theorem xi_ok340_0 : xi_ok cX12_tightest xi_340_0 = true := (xi_ap xi_w340).1
theorem xi_r340_1 : xi_ok cX12_tightest (xi_340_1 ++ (xi_340_2 ++ (xi_340_3))) = true := (xi_ap xi_w340).2
theorem xi_ok340_1 : xi_ok cX12_tightest xi_340_1 = true := (xi_ap xi_r340_1).1
theorem xi_r340_2 : xi_ok cX12_tightest (xi_340_2 ++ (xi_340_3)) = true := (xi_ap xi_r340_1).2
theorem xi_ok340_2 : xi_ok cX12_tightest xi_340_2 = true := (xi_ap xi_r340_2).1
theorem xi_r340_3 : xi_ok cX12_tightest (xi_340_3) = true := (xi_ap xi_r340_2).2
theorem xi_ok340_3 : xi_ok cX12_tightest xi_340_3 = true := xi_r340_3
noncomputable def xi_340 (pc : Nat) : XIs := cond (Nat.blt pc 60) (cond (Nat.blt pc 28) (xi_340_0) (xi_340_1)) (cond (Nat.blt pc 92) (xi_340_2) (xi_340_3))
theorem xi_ok340 (pc : Nat) : xi_ok cX12_tightest (xi_340 pc) = true := xi_c (xi_c (xi_ok340_0) (xi_ok340_1)) (xi_c (xi_ok340_2) (xi_ok340_3))
noncomputable def xi_341_0 : XIs := [(0, .iconst 0, 1), (1, .istore_n 2, 1), (2, .iconst 0, 1), (3, .istore_n 3, 1), (4, .iload_n 3, 1), (5, .aload_n 0, 1), (6, .getfield 285, 3), (9, .if_icmp .ge 28, 3), (12, .iload_n 2, 1), (13, .aload_n 0, 1), (14, .getfield 112, 3), (17, .iload_n 3, 1), (18, .iaload, 1), (19, .ifCond .ge 9, 3), (22, .iconst 1, 1), (23, .iload_n 3, 1)]
noncomputable def xi_341_1 : XIs := [(24, .ishl, 1), (25, .goto 4, 3), (28, .iconst 0, 1), (29, .ior, 1), (30, .istore_n 2, 1), (31, .iinc 3 1, 3), (34, .goto (-30), 3), (37, .iconst 1, 1), (38, .istore_n 3, 1), (39, .iload_n 3, 1), (40, .ifCond .eq 72, 3), (43, .iconst 0, 1), (44, .istore_n 3, 1), (45, .iconst 0, 1), (46, .istore 4, 2), (48, .iload 4, 2)]
noncomputable def xi_341_2 : XIs := [(50, .aload_n 0, 1), (51, .getfield 285, 3), (54, .if_icmp .ge 55, 3), (57, .iload_n 2, 1), (58, .iload 4, 2), (60, .invokestatic 427, 3), (63, .ifCond .eq 40, 3), (66, .iload_n 1, 1), (67, .aload_n 0, 1), (68, .iload 4, 2), (70, .invokevirtual 498, 3), (73, .invokestatic 488, 3), (76, .isub, 1), (77, .aload_n 0, 1), (78, .getfield 100, 3), (81, .iload 4, 2)]
noncomputable def xi_341_3 : XIs := [(83, .iaload, 1), (84, .iload_n 2, 1), (85, .iand, 1), (86, .invokestatic 488, 3), (89, .if_icmp .le 14, 3), (92, .iload_n 2, 1), (93, .iconst 1, 1), (94, .iload 4, 2), (96, .ishl, 1), (97, .iconst (-1), 1), (98, .ixor, 1), (99, .iand, 1), (100, .istore_n 2, 1), (101, .iconst 1, 1), (102, .istore_n 3, 1), (103, .iinc 4 1, 3)]
noncomputable def xi_341_4 : XIs := [(106, .goto (-58), 3), (109, .goto (-70), 3), (112, .iload_n 2, 1), (113, .ireturn, 1)]
set_option maxRecDepth 100000 in
theorem xi_w341 : xi_ok cX12_tough (xi_341_0 ++ (xi_341_1 ++ (xi_341_2 ++ (xi_341_3 ++ (xi_341_4))))) = true := dl_all _ _ (by decide +kernel)
theorem xi_ok341_0 : xi_ok cX12_tough xi_341_0 = true := (xi_ap xi_w341).1
theorem xi_r341_1 : xi_ok cX12_tough (xi_341_1 ++ (xi_341_2 ++ (xi_341_3 ++ (xi_341_4)))) = true := (xi_ap xi_w341).2
theorem xi_ok341_1 : xi_ok cX12_tough xi_341_1 = true := (xi_ap xi_r341_1).1
theorem xi_r341_2 : xi_ok cX12_tough (xi_341_2 ++ (xi_341_3 ++ (xi_341_4))) = true := (xi_ap xi_r341_1).2
theorem xi_ok341_2 : xi_ok cX12_tough xi_341_2 = true := (xi_ap xi_r341_2).1
theorem xi_r341_3 : xi_ok cX12_tough (xi_341_3 ++ (xi_341_4)) = true := (xi_ap xi_r341_2).2
theorem xi_ok341_3 : xi_ok cX12_tough xi_341_3 = true := (xi_ap xi_r341_3).1
theorem xi_r341_4 : xi_ok cX12_tough (xi_341_4) = true := (xi_ap xi_r341_3).2
theorem xi_ok341_4 : xi_ok cX12_tough xi_341_4 = true := xi_r341_4
noncomputable def xi_341 (pc : Nat) : XIs := cond (Nat.blt pc 50) (cond (Nat.blt pc 24) (xi_341_0) (xi_341_1)) (cond (Nat.blt pc 83) (xi_341_2) (cond (Nat.blt pc 106) (xi_341_3) (xi_341_4)))
theorem xi_ok341 (pc : Nat) : xi_ok cX12_tough (xi_341 pc) = true := xi_c (xi_c (xi_ok341_0) (xi_ok341_1)) (xi_c (xi_ok341_2) (xi_c (xi_ok341_3) (xi_ok341_4)))
noncomputable def xi_342_0 : XIs := [(0, .iconst 1, 1), (1, .iload_n 1, 1), (2, .ishl, 1), (3, .istore_n 3, 1), (4, .iconst 0, 1), (5, .istore 4, 2), (7, .iload_n 3, 1), (8, .iload 4, 2), (10, .if_icmp .eq 53, 3), (13, .iload_n 3, 1), (14, .istore 4, 2), (16, .iconst 0, 1), (17, .istore 5, 2), (19, .iload 5, 2), (21, .aload_n 0, 1), (22, .getfield 285, 3)]
noncomputable def xi_342_1 : XIs := [(25, .if_icmp .ge 35, 3), (28, .iload_n 3, 1), (29, .iload 4, 2), (31, .iload 5, 2), (33, .invokestatic 427, 3), (36, .ifCond .eq 15, 3), (39, .aload_n 0, 1), (40, .getfield 100, 3), (43, .iload 5, 2), (45, .iaload, 1), (46, .iload_n 2, 1), (47, .iand, 1), (48, .goto 4, 3), (51, .iconst 0, 1), (52, .ior, 1), (53, .istore_n 3, 1)]
noncomputable def xi_342_2 : XIs := [(54, .iinc 5 1, 3), (57, .goto (-38), 3), (60, .goto (-53), 3), (63, .iload_n 3, 1), (64, .ireturn, 1)]
set_option maxRecDepth 100000 in
theorem xi_w342 : xi_ok cX12_hanging (xi_342_0 ++ (xi_342_1 ++ (xi_342_2))) = true := dl_all _ _ (by decide +kernel)
theorem xi_ok342_0 : xi_ok cX12_hanging xi_342_0 = true := (xi_ap xi_w342).1
theorem xi_r342_1 : xi_ok cX12_hanging (xi_342_1 ++ (xi_342_2)) = true := (xi_ap xi_w342).2
theorem xi_ok342_1 : xi_ok cX12_hanging xi_342_1 = true := (xi_ap xi_r342_1).1
theorem xi_r342_2 : xi_ok cX12_hanging (xi_342_2) = true := (xi_ap xi_r342_1).2
theorem xi_ok342_2 : xi_ok cX12_hanging xi_342_2 = true := xi_r342_2
noncomputable def xi_342 (pc : Nat) : XIs := cond (Nat.blt pc 25) (xi_342_0) (cond (Nat.blt pc 54) (xi_342_1) (xi_342_2))
theorem xi_ok342 (pc : Nat) : xi_ok cX12_hanging (xi_342 pc) = true := xi_c (xi_ok342_0) (xi_c (xi_ok342_1) (xi_ok342_2))
noncomputable def xi_343_0 : XIs := [(0, .iconst 0, 1), (1, .istore_n 2, 1), (2, .iconst 0, 1), (3, .istore_n 3, 1), (4, .iload_n 3, 1), (5, .aload_n 0, 1), (6, .getfield 285, 3), (9, .if_icmp .ge 44, 3), (12, .aload_n 0, 1), (13, .getfield 112, 3), (16, .iload_n 3, 1), (17, .aload_n 0, 1), (18, .getfield 109, 3), (21, .iload_n 3, 1), (22, .iaload, 1), (23, .iastore, 1)]
noncomputable def xi_343_1 : XIs := [(24, .aload_n 0, 1), (25, .getfield 109, 3), (28, .iload_n 3, 1), (29, .iaload, 1), (30, .iload_n 2, 1), (31, .if_icmp .lt 14, 3), (34, .aload_n 0, 1), (35, .getfield 109, 3), (38, .iload_n 3, 1), (39, .iaload, 1), (40, .iconst 1, 1), (41, .iadd, 1), (42, .goto 4, 3), (45, .iload_n 2, 1), (46, .istore_n 2, 1), (47, .iinc 3 1, 3)]
noncomputable def xi_343_2 : XIs := [(50, .goto (-46), 3), (53, .aload_n 0, 1), (54, .iload_n 1, 1), (55, .invokevirtual 501, 3), (58, .istore_n 3, 1), (59, .iconst 1, 1), (60, .istore 4, 2), (62, .iload 4, 2), (64, .ifCond .eq 72, 3), (67, .iload_n 3, 1), (68, .ifCond .eq 68, 3), (71, .aload_n 0, 1), (72, .aload_n 0, 1), (73, .iload_n 3, 1), (74, .invokestatic 473, 3), (77, .iload_n 3, 1)]
noncomputable def xi_343_3 : XIs := [(78, .invokevirtual 504, 3), (81, .putfield 495, 3), (84, .iload_n 3, 1), (85, .aload_n 0, 1), (86, .getfield 495, 3), (89, .iconst (-1), 1), (90, .ixor, 1), (91, .iand, 1), (92, .istore_n 3, 1), (93, .aload_n 0, 1), (94, .iload_n 1, 1), (95, .iload_n 2, 1), (96, .invokevirtual 507, 3), (99, .istore 4, 2), (101, .iconst 0, 1), (102, .istore 5, 2)]
noncomputable def xi_343_4 : XIs := [(104, .iload 5, 2), (106, .aload_n 0, 1), (107, .getfield 285, 3), (110, .if_icmp .ge 23, 3), (113, .aload_n 0, 1), (114, .getfield 112, 3), (117, .iload 5, 2), (119, .aload_n 0, 1), (120, .getfield 109, 3), (123, .iload 5, 2), (125, .iaload, 1), (126, .iastore, 1), (127, .iinc 5 1, 3), (130, .goto (-26), 3), (133, .goto (-71), 3), (136, .iload 4, 2)]
noncomputable def xi_343_5 : XIs := [(138, .ireturn, 1)]
set_option maxRecDepth 100000 in
theorem xi_w343 : xi_ok cX12_isColourable (xi_343_0 ++ (xi_343_1 ++ (xi_343_2 ++ (xi_343_3 ++ (xi_343_4 ++ (xi_343_5)))))) = true := dl_all _ _ (by decide +kernel)
theorem xi_ok343_0 : xi_ok cX12_isColourable xi_343_0 = true := (xi_ap xi_w343).1
theorem xi_r343_1 : xi_ok cX12_isColourable (xi_343_1 ++ (xi_343_2 ++ (xi_343_3 ++ (xi_343_4 ++ (xi_343_5))))) = true := (xi_ap xi_w343).2
theorem xi_ok343_1 : xi_ok cX12_isColourable xi_343_1 = true := (xi_ap xi_r343_1).1
theorem xi_r343_2 : xi_ok cX12_isColourable (xi_343_2 ++ (xi_343_3 ++ (xi_343_4 ++ (xi_343_5)))) = true := (xi_ap xi_r343_1).2
theorem xi_ok343_2 : xi_ok cX12_isColourable xi_343_2 = true := (xi_ap xi_r343_2).1
theorem xi_r343_3 : xi_ok cX12_isColourable (xi_343_3 ++ (xi_343_4 ++ (xi_343_5))) = true := (xi_ap xi_r343_2).2
theorem xi_ok343_3 : xi_ok cX12_isColourable xi_343_3 = true := (xi_ap xi_r343_3).1
theorem xi_r343_4 : xi_ok cX12_isColourable (xi_343_4 ++ (xi_343_5)) = true := (xi_ap xi_r343_3).2
theorem xi_ok343_4 : xi_ok cX12_isColourable xi_343_4 = true := (xi_ap xi_r343_4).1
theorem xi_r343_5 : xi_ok cX12_isColourable (xi_343_5) = true := (xi_ap xi_r343_4).2
theorem xi_ok343_5 : xi_ok cX12_isColourable xi_343_5 = true := xi_r343_5
noncomputable def xi_343 (pc : Nat) : XIs := cond (Nat.blt pc 78) (cond (Nat.blt pc 24) (xi_343_0) (cond (Nat.blt pc 50) (xi_343_1) (xi_343_2))) (cond (Nat.blt pc 104) (xi_343_3) (cond (Nat.blt pc 138) (xi_343_4) (xi_343_5)))
theorem xi_ok343 (pc : Nat) : xi_ok cX12_isColourable (xi_343 pc) = true := xi_c (xi_c (xi_ok343_0) (xi_c (xi_ok343_1) (xi_ok343_2))) (xi_c (xi_ok343_3) (xi_c (xi_ok343_4) (xi_ok343_5)))
noncomputable def xi_344_0 : XIs := [(0, .iload 4, 2), (2, .bipush 32, 2), (4, .if_icmp .ne 7, 3), (7, .iconst (-1), 1), (8, .goto 9, 3), (11, .iconst 1, 1), (12, .iload 4, 2), (14, .ishl, 1), (15, .iconst 1, 1), (16, .isub, 1), (17, .istore 5, 2), (19, .aload_n 0, 1), (20, .getfield 118, 3), (23, .iload_n 1, 1), (24, .iload_n 2, 1), (25, .iastore, 1)]
noncomputable def xi_344_1 : XIs := [(26, .aload_n 0, 1), (27, .getfield 115, 3), (30, .iload_n 1, 1), (31, .iload_n 3, 1), (32, .iastore, 1), (33, .aload_n 0, 1), (34, .getfield 121, 3), (37, .iload_n 1, 1), (38, .iload 5, 2), (40, .aload_n 0, 1), (41, .iload_n 2, 1), (42, .invokevirtual 498, 3), (45, .iconst (-1), 1), (46, .ixor, 1), (47, .iand, 1), (48, .iload_n 3, 1)]
noncomputable def xi_344_2 : XIs := [(49, .iload 4, 2), (51, .invokestatic 510, 3), (54, .iand, 1), (55, .iastore, 1), (56, .iconst 0, 1), (57, .istore 6, 2), (59, .iconst 0, 1), (60, .istore 7, 2), (62, .iload 7, 2), (64, .iload_n 1, 1), (65, .if_icmp .ge 23, 3), (68, .iload 6, 2), (70, .iconst 1, 1), (71, .aload_n 0, 1), (72, .getfield 118, 3), (75, .iload 7, 2)]
noncomputable def xi_344_3 : XIs := [(77, .iaload, 1), (78, .ishl, 1), (79, .ior, 1), (80, .istore 6, 2), (82, .iinc 7 1, 3), (85, .goto (-23), 3), (88, .aload_n 0, 1), (89, .getfield 124, 3), (92, .iload_n 1, 1), (93, .iload_n 3, 1), (94, .iconst 1, 1), (95, .iadd, 1), (96, .iload 4, 2), (98, .if_icmp .ge 8, 3), (101, .iload 6, 2), (103, .goto 12, 3)]
noncomputable def xi_344_4 : XIs := [(106, .iload 6, 2), (108, .aload_n 0, 1), (109, .getfield 100, 3), (112, .iload_n 2, 1), (113, .iaload, 1), (114, .iand, 1), (115, .iastore, 1), (116, .return_, 1)]
set_option maxRecDepth 100000 in
theorem xi_w344 : xi_ok cX12_begin (xi_344_0 ++ (xi_344_1 ++ (xi_344_2 ++ (xi_344_3 ++ (xi_344_4))))) = true := dl_all _ _ (by decide +kernel)
theorem xi_ok344_0 : xi_ok cX12_begin xi_344_0 = true := (xi_ap xi_w344).1
theorem xi_r344_1 : xi_ok cX12_begin (xi_344_1 ++ (xi_344_2 ++ (xi_344_3 ++ (xi_344_4)))) = true := (xi_ap xi_w344).2
theorem xi_ok344_1 : xi_ok cX12_begin xi_344_1 = true := (xi_ap xi_r344_1).1
theorem xi_r344_2 : xi_ok cX12_begin (xi_344_2 ++ (xi_344_3 ++ (xi_344_4))) = true := (xi_ap xi_r344_1).2
theorem xi_ok344_2 : xi_ok cX12_begin xi_344_2 = true := (xi_ap xi_r344_2).1
theorem xi_r344_3 : xi_ok cX12_begin (xi_344_3 ++ (xi_344_4)) = true := (xi_ap xi_r344_2).2
theorem xi_ok344_3 : xi_ok cX12_begin xi_344_3 = true := (xi_ap xi_r344_3).1
theorem xi_r344_4 : xi_ok cX12_begin (xi_344_4) = true := (xi_ap xi_r344_3).2
theorem xi_ok344_4 : xi_ok cX12_begin xi_344_4 = true := xi_r344_4
noncomputable def xi_344 (pc : Nat) : XIs := cond (Nat.blt pc 49) (cond (Nat.blt pc 26) (xi_344_0) (xi_344_1)) (cond (Nat.blt pc 77) (xi_344_2) (cond (Nat.blt pc 106) (xi_344_3) (xi_344_4)))
theorem xi_ok344 (pc : Nat) : xi_ok cX12_begin (xi_344 pc) = true := xi_c (xi_c (xi_ok344_0) (xi_ok344_1)) (xi_c (xi_ok344_2) (xi_c (xi_ok344_3) (xi_ok344_4)))
noncomputable def xi_345_0 : XIs := [(0, .iconst 0, 1), (1, .istore_n 3, 1), (2, .aload_n 0, 1), (3, .iconst 0, 1), (4, .aload_n 0, 1), (5, .iload_n 1, 1), (6, .invokevirtual 513, 3), (9, .iload_n 2, 1), (10, .iload_n 1, 1), (11, .invokevirtual 516, 3), (14, .iload_n 3, 1), (15, .ifCond .lt 195, 3), (18, .aload_n 0, 1), (19, .getfield 118, 3), (22, .iload_n 3, 1), (23, .iaload, 1)]
noncomputable def xi_345_1 : XIs := [(24, .istore 4, 2), (26, .aload_n 0, 1), (27, .getfield 112, 3), (30, .iload 4, 2), (32, .iconst (-1), 1), (33, .iastore, 1), (34, .aload_n 0, 1), (35, .getfield 121, 3), (38, .iload_n 3, 1), (39, .iaload, 1), (40, .ifCond .ne 79, 3), (43, .aload_n 0, 1), (44, .getfield 124, 3), (47, .iload_n 3, 1), (48, .iaload, 1), (49, .istore 5, 2)]
noncomputable def xi_345_2 : XIs := [(51, .iinc 3 (-1), 3), (54, .iload_n 3, 1), (55, .ifCond .lt 35, 3), (58, .iload 5, 2), (60, .aload_n 0, 1), (61, .getfield 118, 3), (64, .iload_n 3, 1), (65, .iaload, 1), (66, .invokestatic 427, 3), (69, .ifCond .ne 21, 3), (72, .aload_n 0, 1), (73, .getfield 112, 3), (76, .aload_n 0, 1), (77, .getfield 118, 3), (80, .iload_n 3, 1), (81, .iaload, 1)]
noncomputable def xi_345_3 : XIs := [(82, .iconst (-1), 1), (83, .iastore, 1), (84, .iinc 3 (-1), 3), (87, .goto (-33), 3), (90, .iload_n 3, 1), (91, .ifCond .lt 25, 3), (94, .aload_n 0, 1), (95, .getfield 124, 3), (98, .iload_n 3, 1), (99, .dup2, 1), (100, .iaload, 1), (101, .iload 5, 2), (103, .iconst 1, 1), (104, .aload_n 0, 1), (105, .getfield 118, 3), (108, .iload_n 3, 1)]
noncomputable def xi_345_4 : XIs := [(109, .iaload, 1), (110, .ishl, 1), (111, .iconst (-1), 1), (112, .ixor, 1), (113, .iand, 1), (114, .ior, 1), (115, .iastore, 1), (116, .goto 91, 3), (119, .aload_n 0, 1), (120, .getfield 121, 3), (123, .iload_n 3, 1), (124, .iaload, 1), (125, .invokestatic 473, 3), (128, .istore 5, 2), (130, .aload_n 0, 1), (131, .getfield 121, 3)]
noncomputable def xi_345_5 : XIs := [(134, .iload_n 3, 1), (135, .dup2, 1), (136, .iaload, 1), (137, .iconst 1, 1), (138, .iload 5, 2), (140, .ishl, 1), (141, .iconst (-1), 1), (142, .ixor, 1), (143, .iand, 1), (144, .iastore, 1), (145, .aload_n 0, 1), (146, .getfield 112, 3), (149, .iload 4, 2), (151, .iload 5, 2), (153, .iastore, 1), (154, .aload_n 0, 1)]
noncomputable def xi_345_6 : XIs := [(155, .iload_n 1, 1), (156, .invokevirtual 513, 3), (159, .istore 6, 2), (161, .iload 6, 2), (163, .ifCond .ge 5, 3), (166, .iconst 1, 1), (167, .ireturn, 1), (168, .iinc 3 1, 3), (171, .aload_n 0, 1), (172, .iload_n 3, 1), (173, .iload 6, 2), (175, .iload 5, 2), (177, .aload_n 0, 1), (178, .getfield 115, 3), (181, .iload_n 3, 1), (182, .iconst 1, 1)]
noncomputable def xi_345_7 : XIs := [(183, .isub, 1), (184, .iaload, 1), (185, .if_icmp .lt 10, 3), (188, .iload 5, 2), (190, .iconst 1, 1), (191, .iadd, 1), (192, .goto 11, 3), (195, .aload_n 0, 1), (196, .getfield 115, 3), (199, .iload_n 3, 1), (200, .iconst 1, 1), (201, .isub, 1), (202, .iaload, 1), (203, .iload_n 1, 1), (204, .invokevirtual 516, 3), (207, .goto (-193), 3)]
noncomputable def xi_345_8 : XIs := [(210, .iconst 0, 1), (211, .ireturn, 1)]
set_option maxRecDepth 100000 in
theorem xi_w345 : xi_ok cX12_isPartColourable (xi_345_0 ++ (xi_345_1 ++ (xi_345_2 ++ (xi_345_3 ++ (xi_345_4 ++ (xi_345_5 ++ (xi_345_6 ++ (xi_345_7 ++ (xi_345_8))))))))) = true := dl_all _ _ (by decide +kernel)
theorem xi_ok345_0 : xi_ok cX12_isPartColourable xi_345_0 = true := (xi_ap xi_w345).1
theorem xi_r345_1 : xi_ok cX12_isPartColourable (xi_345_1 ++ (xi_345_2 ++ (xi_345_3 ++ (xi_345_4 ++ (xi_345_5 ++ (xi_345_6 ++ (xi_345_7 ++ (xi_345_8)))))))) = true := (xi_ap xi_w345).2
theorem xi_ok345_1 : xi_ok cX12_isPartColourable xi_345_1 = true := (xi_ap xi_r345_1).1
theorem xi_r345_2 : xi_ok cX12_isPartColourable (xi_345_2 ++ (xi_345_3 ++ (xi_345_4 ++ (xi_345_5 ++ (xi_345_6 ++ (xi_345_7 ++ (xi_345_8))))))) = true := (xi_ap xi_r345_1).2
theorem xi_ok345_2 : xi_ok cX12_isPartColourable xi_345_2 = true := (xi_ap xi_r345_2).1
theorem xi_r345_3 : xi_ok cX12_isPartColourable (xi_345_3 ++ (xi_345_4 ++ (xi_345_5 ++ (xi_345_6 ++ (xi_345_7 ++ (xi_345_8)))))) = true := (xi_ap xi_r345_2).2
theorem xi_ok345_3 : xi_ok cX12_isPartColourable xi_345_3 = true := (xi_ap xi_r345_3).1
theorem xi_r345_4 : xi_ok cX12_isPartColourable (xi_345_4 ++ (xi_345_5 ++ (xi_345_6 ++ (xi_345_7 ++ (xi_345_8))))) = true := (xi_ap xi_r345_3).2
theorem xi_ok345_4 : xi_ok cX12_isPartColourable xi_345_4 = true := (xi_ap xi_r345_4).1
theorem xi_r345_5 : xi_ok cX12_isPartColourable (xi_345_5 ++ (xi_345_6 ++ (xi_345_7 ++ (xi_345_8)))) = true := (xi_ap xi_r345_4).2
theorem xi_ok345_5 : xi_ok cX12_isPartColourable xi_345_5 = true := (xi_ap xi_r345_5).1
theorem xi_r345_6 : xi_ok cX12_isPartColourable (xi_345_6 ++ (xi_345_7 ++ (xi_345_8))) = true := (xi_ap xi_r345_5).2
theorem xi_ok345_6 : xi_ok cX12_isPartColourable xi_345_6 = true := (xi_ap xi_r345_6).1
theorem xi_r345_7 : xi_ok cX12_isPartColourable (xi_345_7 ++ (xi_345_8)) = true := (xi_ap xi_r345_6).2
theorem xi_ok345_7 : xi_ok cX12_isPartColourable xi_345_7 = true := (xi_ap xi_r345_7).1
theorem xi_r345_8 : xi_ok cX12_isPartColourable (xi_345_8) = true := (xi_ap xi_r345_7).2
theorem xi_ok345_8 : xi_ok cX12_isPartColourable xi_345_8 = true := xi_r345_8
noncomputable def xi_345 (pc : Nat) : XIs := cond (Nat.blt pc 109) (cond (Nat.blt pc 51) (cond (Nat.blt pc 24) (xi_345_0) (xi_345_1)) (cond (Nat.blt pc 82) (xi_345_2) (xi_345_3))) (cond (Nat.blt pc 155) (cond (Nat.blt pc 134) (xi_345_4) (xi_345_5)) (cond (Nat.blt pc 183) (xi_345_6) (cond (Nat.blt pc 210) (xi_345_7) (xi_345_8))))
theorem xi_ok345 (pc : Nat) : xi_ok cX12_isPartColourable (xi_345 pc) = true := xi_c (xi_c (xi_c (xi_ok345_0) (xi_ok345_1)) (xi_c (xi_ok345_2) (xi_ok345_3))) (xi_c (xi_c (xi_ok345_4) (xi_ok345_5)) (xi_c (xi_ok345_6) (xi_c (xi_ok345_7) (xi_ok345_8))))
noncomputable def xi_346_0 : XIs := [(0, .iload_n 0, 1), (1, .iconst 1, 1), (2, .iadd, 1), (3, .iload_n 1, 1), (4, .if_icmp .ge 9, 3), (7, .iload_n 0, 1), (8, .iconst 1, 1), (9, .iadd, 1), (10, .goto 4, 3), (13, .iload_n 1, 1), (14, .istore_n 2, 1), (15, .iload_n 2, 1), (16, .bipush 32, 2), (18, .if_icmp .lt 7, 3), (21, .iconst (-1), 1), (22, .goto 8, 3)]
noncomputable def xi_346_1 : XIs := [(25, .iconst 1, 1), (26, .iload_n 2, 1), (27, .ishl, 1), (28, .iconst 1, 1), (29, .isub, 1), (30, .ireturn, 1)]
set_option maxRecDepth 100000 in
theorem xi_w346 : xi_ok cX12_capped (xi_346_0 ++ (xi_346_1)) = true := dl_all _ _ (by decide +kernel)
theorem xi_ok346_0 : xi_ok cX12_capped xi_346_0 = true := (xi_ap xi_w346).1
theorem xi_r346_1 : xi_ok cX12_capped (xi_346_1) = true := (xi_ap xi_w346).2
theorem xi_ok346_1 : xi_ok cX12_capped xi_346_1 = true := xi_r346_1
noncomputable def xi_346 (pc : Nat) : XIs := cond (Nat.blt pc 25) (xi_346_0) (xi_346_1)
theorem xi_ok346 (pc : Nat) : xi_ok cX12_capped (xi_346 pc) = true := xi_c (xi_ok346_0) (xi_ok346_1)
noncomputable def xi_347_0 : XIs := [(0, .aload_n 0, 1), (1, .aload_n 0, 1), (2, .iload_n 1, 1), (3, .invokevirtual 349, 3), (6, .invokevirtual 334, 3), (9, .ifCond .eq 5, 3), (12, .iconst 0, 1), (13, .ireturn, 1), (14, .aload_n 0, 1), (15, .invokevirtual 491, 3), (18, .invokestatic 488, 3), (21, .istore_n 2, 1), (22, .iconst 0, 1), (23, .istore_n 3, 1), (24, .iload_n 3, 1), (25, .aload_n 0, 1)]
noncomputable def xi_347_1 : XIs := [(26, .getfield 285, 3), (29, .if_icmp .ge 16, 3), (32, .aload_n 0, 1), (33, .getfield 109, 3), (36, .iload_n 3, 1), (37, .iconst (-1), 1), (38, .iastore, 1), (39, .iinc 3 1, 3), (42, .goto (-18), 3), (45, .aload_n 0, 1), (46, .iload_n 2, 1), (47, .invokevirtual 519, 3), (50, .ifCond .ne 9, 3), (53, .iinc 2 1, 3), (56, .goto (-11), 3), (59, .iconst 0, 1)]
noncomputable def xi_347_2 : XIs := [(60, .istore_n 3, 1), (61, .iload_n 3, 1), (62, .iload_n 1, 1), (63, .if_icmp .gt 93, 3), (66, .iconst (-1), 1), (67, .istore 4, 2), (69, .iconst 0, 1), (70, .istore 5, 2), (72, .iload 5, 2), (74, .ifCond .ne 76, 3), (77, .iinc 4 1, 3), (80, .aload_n 0, 1), (81, .getfield 109, 3), (84, .iload_n 3, 1), (85, .iconst (-1), 1), (86, .iastore, 1)]
noncomputable def xi_347_3 : XIs := [(87, .iconst 0, 1), (88, .istore 6, 2), (90, .iload 6, 2), (92, .aload_n 0, 1), (93, .getfield 285, 3), (96, .if_icmp .ge 23, 3), (99, .aload_n 0, 1), (100, .getfield 112, 3), (103, .iload 6, 2), (105, .aload_n 0, 1), (106, .getfield 109, 3), (109, .iload 6, 2), (111, .iaload, 1), (112, .iastore, 1), (113, .iinc 6 1, 3), (116, .goto (-26), 3)]
noncomputable def xi_347_4 : XIs := [(119, .aload_n 0, 1), (120, .iload_n 3, 1), (121, .invokevirtual 498, 3), (124, .iload 4, 2), (126, .invokestatic 427, 3), (129, .ifCond .ne (-57), 3), (132, .aload_n 0, 1), (133, .getfield 109, 3), (136, .iload_n 3, 1), (137, .iload 4, 2), (139, .iastore, 1), (140, .aload_n 0, 1), (141, .iload_n 2, 1), (142, .invokevirtual 519, 3), (145, .istore 5, 2), (147, .goto (-75), 3)]
noncomputable def xi_347_5 : XIs := [(150, .iinc 3 1, 3), (153, .goto (-92), 3), (156, .aload_n 0, 1), (157, .getfield 109, 3), (160, .iload_n 1, 1), (161, .iaload, 1), (162, .ireturn, 1)]
set_option maxRecDepth 100000 in
theorem xi_w347 : xi_ok cX12_colour (xi_347_0 ++ (xi_347_1 ++ (xi_347_2 ++ (xi_347_3 ++ (xi_347_4 ++ (xi_347_5)))))) = true := dl_all _ _ (by decide +kernel)
theorem xi_ok347_0 : xi_ok cX12_colour xi_347_0 = true := (xi_ap xi_w347).1
theorem xi_r347_1 : xi_ok cX12_colour (xi_347_1 ++ (xi_347_2 ++ (xi_347_3 ++ (xi_347_4 ++ (xi_347_5))))) = true := (xi_ap xi_w347).2
theorem xi_ok347_1 : xi_ok cX12_colour xi_347_1 = true := (xi_ap xi_r347_1).1
theorem xi_r347_2 : xi_ok cX12_colour (xi_347_2 ++ (xi_347_3 ++ (xi_347_4 ++ (xi_347_5)))) = true := (xi_ap xi_r347_1).2
theorem xi_ok347_2 : xi_ok cX12_colour xi_347_2 = true := (xi_ap xi_r347_2).1
theorem xi_r347_3 : xi_ok cX12_colour (xi_347_3 ++ (xi_347_4 ++ (xi_347_5))) = true := (xi_ap xi_r347_2).2
theorem xi_ok347_3 : xi_ok cX12_colour xi_347_3 = true := (xi_ap xi_r347_3).1
theorem xi_r347_4 : xi_ok cX12_colour (xi_347_4 ++ (xi_347_5)) = true := (xi_ap xi_r347_3).2
theorem xi_ok347_4 : xi_ok cX12_colour xi_347_4 = true := (xi_ap xi_r347_4).1
theorem xi_r347_5 : xi_ok cX12_colour (xi_347_5) = true := (xi_ap xi_r347_4).2
theorem xi_ok347_5 : xi_ok cX12_colour xi_347_5 = true := xi_r347_5
noncomputable def xi_347 (pc : Nat) : XIs := cond (Nat.blt pc 87) (cond (Nat.blt pc 26) (xi_347_0) (cond (Nat.blt pc 60) (xi_347_1) (xi_347_2))) (cond (Nat.blt pc 119) (xi_347_3) (cond (Nat.blt pc 150) (xi_347_4) (xi_347_5)))
theorem xi_ok347 (pc : Nat) : xi_ok cX12_colour (xi_347 pc) = true := xi_c (xi_c (xi_ok347_0) (xi_c (xi_ok347_1) (xi_ok347_2))) (xi_c (xi_ok347_3) (xi_c (xi_ok347_4) (xi_ok347_5)))
noncomputable def xi_348_0 : XIs := [(0, .iconst 0, 1), (1, .istore_n 2, 1), (2, .iload_n 2, 1), (3, .aload_n 0, 1), (4, .getfield 285, 3), (7, .if_icmp .ge 16, 3), (10, .aload_n 0, 1), (11, .getfield 130, 3), (14, .iload_n 2, 1), (15, .iconst (-1), 1), (16, .iastore, 1), (17, .iinc 2 1, 3), (20, .goto (-18), 3), (23, .aload_n 0, 1), (24, .getfield 130, 3), (27, .iload_n 1, 1)]
noncomputable def xi_348_1 : XIs := [(28, .sipush 1000, 3), (31, .iastore, 1), (32, .iconst 0, 1), (33, .istore_n 2, 1), (34, .iconst 1, 1), (35, .istore_n 3, 1), (36, .aload_n 0, 1), (37, .getfield 82, 3), (40, .iconst 0, 1), (41, .iload_n 1, 1), (42, .iastore, 1), (43, .iload_n 2, 1), (44, .iload_n 3, 1), (45, .if_icmp .ge 215, 3), (48, .aload_n 0, 1), (49, .getfield 82, 3)]
noncomputable def xi_348_2 : XIs := [(52, .iload_n 2, 1), (53, .iaload, 1), (54, .istore 4, 2), (56, .iinc 2 1, 3), (59, .iconst 0, 1), (60, .istore 5, 2), (62, .iload 5, 2), (64, .sipush 160, 3), (67, .if_icmp .ge 190, 3), (70, .aload_n 0, 1), (71, .getfield 288, 3), (74, .iload 5, 2), (76, .iadd, 1), (77, .istore 6, 2), (79, .aload_n 0, 1), (80, .getfield 16, 3)]
noncomputable def xi_348_3 : XIs := [(83, .iload 6, 2), (85, .baload, 1), (86, .ifCond .eq 82, 3), (89, .aload_n 0, 1), (90, .getfield 20, 3), (93, .iload 6, 2), (95, .iaload, 1), (96, .iload 4, 2), (98, .if_icmp .ne 70, 3), (101, .aload_n 0, 1), (102, .getfield 130, 3), (105, .aload_n 0, 1), (106, .getfield 23, 3), (109, .iload 6, 2), (111, .iaload, 1), (112, .iaload, 1)]
noncomputable def xi_348_4 : XIs := [(113, .ifCond .ge 55, 3), (116, .aload_n 0, 1), (117, .getfield 127, 3), (120, .iload 5, 2), (122, .laload, 1), (123, .aload_n 0, 1), (124, .getfield 29, 3), (127, .iload 6, 2), (129, .iaload, 1), (130, .i2l, 1), (131, .lcmp, 1), (132, .ifCond .ge 36, 3), (135, .aload_n 0, 1), (136, .getfield 130, 3), (139, .aload_n 0, 1), (140, .getfield 23, 3)]
noncomputable def xi_348_5 : XIs := [(143, .iload 6, 2), (145, .iaload, 1), (146, .iload 5, 2), (148, .iastore, 1), (149, .aload_n 0, 1), (150, .getfield 82, 3), (153, .iload_n 3, 1), (154, .aload_n 0, 1), (155, .getfield 23, 3), (158, .iload 6, 2), (160, .iaload, 1), (161, .iastore, 1), (162, .iinc 3 1, 3), (165, .goto 86, 3), (168, .aload_n 0, 1), (169, .getfield 16, 3)]
noncomputable def xi_348_6 : XIs := [(172, .iload 6, 2), (174, .baload, 1), (175, .ifCond .eq 76, 3), (178, .aload_n 0, 1), (179, .getfield 23, 3), (182, .iload 6, 2), (184, .iaload, 1), (185, .iload 4, 2), (187, .if_icmp .ne 64, 3), (190, .aload_n 0, 1), (191, .getfield 130, 3), (194, .aload_n 0, 1), (195, .getfield 20, 3), (198, .iload 6, 2), (200, .iaload, 1), (201, .iaload, 1)]
noncomputable def xi_348_7 : XIs := [(202, .ifCond .ge 49, 3), (205, .aload_n 0, 1), (206, .getfield 127, 3), (209, .iload 5, 2), (211, .laload, 1), (212, .lconst 0, 1), (213, .lcmp, 1), (214, .ifCond .le 37, 3), (217, .aload_n 0, 1), (218, .getfield 130, 3), (221, .aload_n 0, 1), (222, .getfield 20, 3), (225, .iload 6, 2), (227, .iaload, 1), (228, .sipush 200, 3), (231, .iload 5, 2)]
noncomputable def xi_348_8 : XIs := [(233, .iadd, 1), (234, .iastore, 1), (235, .aload_n 0, 1), (236, .getfield 82, 3), (239, .iload_n 3, 1), (240, .aload_n 0, 1), (241, .getfield 20, 3), (244, .iload 6, 2), (246, .iaload, 1), (247, .iastore, 1), (248, .iinc 3 1, 3), (251, .iinc 5 1, 3), (254, .goto (-192), 3), (257, .goto (-214), 3), (260, .return_, 1)]
set_option maxRecDepth 100000 in
theorem xi_w348 : xi_ok cX12_search (xi_348_0 ++ (xi_348_1 ++ (xi_348_2 ++ (xi_348_3 ++ (xi_348_4 ++ (xi_348_5 ++ (xi_348_6 ++ (xi_348_7 ++ (xi_348_8))))))))) = true := dl_all _ _ (by decide +kernel)
theorem xi_ok348_0 : xi_ok cX12_search xi_348_0 = true := (xi_ap xi_w348).1
theorem xi_r348_1 : xi_ok cX12_search (xi_348_1 ++ (xi_348_2 ++ (xi_348_3 ++ (xi_348_4 ++ (xi_348_5 ++ (xi_348_6 ++ (xi_348_7 ++ (xi_348_8)))))))) = true := (xi_ap xi_w348).2
theorem xi_ok348_1 : xi_ok cX12_search xi_348_1 = true := (xi_ap xi_r348_1).1
theorem xi_r348_2 : xi_ok cX12_search (xi_348_2 ++ (xi_348_3 ++ (xi_348_4 ++ (xi_348_5 ++ (xi_348_6 ++ (xi_348_7 ++ (xi_348_8))))))) = true := (xi_ap xi_r348_1).2
theorem xi_ok348_2 : xi_ok cX12_search xi_348_2 = true := (xi_ap xi_r348_2).1
theorem xi_r348_3 : xi_ok cX12_search (xi_348_3 ++ (xi_348_4 ++ (xi_348_5 ++ (xi_348_6 ++ (xi_348_7 ++ (xi_348_8)))))) = true := (xi_ap xi_r348_2).2
theorem xi_ok348_3 : xi_ok cX12_search xi_348_3 = true := (xi_ap xi_r348_3).1
theorem xi_r348_4 : xi_ok cX12_search (xi_348_4 ++ (xi_348_5 ++ (xi_348_6 ++ (xi_348_7 ++ (xi_348_8))))) = true := (xi_ap xi_r348_3).2
theorem xi_ok348_4 : xi_ok cX12_search xi_348_4 = true := (xi_ap xi_r348_4).1
theorem xi_r348_5 : xi_ok cX12_search (xi_348_5 ++ (xi_348_6 ++ (xi_348_7 ++ (xi_348_8)))) = true := (xi_ap xi_r348_4).2
theorem xi_ok348_5 : xi_ok cX12_search xi_348_5 = true := (xi_ap xi_r348_5).1
theorem xi_r348_6 : xi_ok cX12_search (xi_348_6 ++ (xi_348_7 ++ (xi_348_8))) = true := (xi_ap xi_r348_5).2
theorem xi_ok348_6 : xi_ok cX12_search xi_348_6 = true := (xi_ap xi_r348_6).1
theorem xi_r348_7 : xi_ok cX12_search (xi_348_7 ++ (xi_348_8)) = true := (xi_ap xi_r348_6).2
theorem xi_ok348_7 : xi_ok cX12_search xi_348_7 = true := (xi_ap xi_r348_7).1
theorem xi_r348_8 : xi_ok cX12_search (xi_348_8) = true := (xi_ap xi_r348_7).2
theorem xi_ok348_8 : xi_ok cX12_search xi_348_8 = true := xi_r348_8
noncomputable def xi_348 (pc : Nat) : XIs := cond (Nat.blt pc 113) (cond (Nat.blt pc 52) (cond (Nat.blt pc 28) (xi_348_0) (xi_348_1)) (cond (Nat.blt pc 83) (xi_348_2) (xi_348_3))) (cond (Nat.blt pc 172) (cond (Nat.blt pc 143) (xi_348_4) (xi_348_5)) (cond (Nat.blt pc 202) (xi_348_6) (cond (Nat.blt pc 233) (xi_348_7) (xi_348_8))))
theorem xi_ok348 (pc : Nat) : xi_ok cX12_search (xi_348 pc) = true := xi_c (xi_c (xi_c (xi_ok348_0) (xi_ok348_1)) (xi_c (xi_ok348_2) (xi_ok348_3))) (xi_c (xi_c (xi_ok348_4) (xi_ok348_5)) (xi_c (xi_ok348_6) (xi_c (xi_ok348_7) (xi_ok348_8))))
noncomputable def xi_349_0 : XIs := [(0, .aload_n 0, 1), (1, .getfield 130, 3), (4, .iload_n 1, 1), (5, .iaload, 1), (6, .istore_n 2, 1), (7, .iload_n 2, 1), (8, .sipush 200, 3), (11, .if_icmp .lt 21, 3), (14, .aload_n 0, 1), (15, .getfield 23, 3), (18, .aload_n 0, 1), (19, .getfield 288, 3), (22, .iload_n 2, 1), (23, .iadd, 1), (24, .sipush 200, 3), (27, .isub, 1)]
noncomputable def xi_349_1 : XIs := [(28, .iaload, 1), (29, .goto 14, 3), (32, .aload_n 0, 1), (33, .getfield 20, 3), (36, .aload_n 0, 1), (37, .getfield 288, 3), (40, .iload_n 2, 1), (41, .iadd, 1), (42, .iaload, 1), (43, .ireturn, 1)]
set_option maxRecDepth 100000 in
theorem xi_w349 : xi_ok cX12_before (xi_349_0 ++ (xi_349_1)) = true := dl_all _ _ (by decide +kernel)
theorem xi_ok349_0 : xi_ok cX12_before xi_349_0 = true := (xi_ap xi_w349).1
theorem xi_r349_1 : xi_ok cX12_before (xi_349_1) = true := (xi_ap xi_w349).2
theorem xi_ok349_1 : xi_ok cX12_before xi_349_1 = true := xi_r349_1
noncomputable def xi_349 (pc : Nat) : XIs := cond (Nat.blt pc 28) (xi_349_0) (xi_349_1)
theorem xi_ok349 (pc : Nat) : xi_ok cX12_before (xi_349 pc) = true := xi_c (xi_ok349_0) (xi_ok349_1)
noncomputable def xi_350_0 : XIs := [(0, .aload_n 0, 1), (1, .getfield 130, 3), (4, .iload_n 1, 1), (5, .iaload, 1), (6, .istore_n 2, 1), (7, .iload_n 2, 1), (8, .sipush 200, 3), (11, .if_icmp .lt 16, 3), (14, .aload_n 0, 1), (15, .getfield 127, 3), (18, .iload_n 2, 1), (19, .sipush 200, 3), (22, .isub, 1), (23, .laload, 1), (24, .goto 22, 3), (27, .aload_n 0, 1)]
noncomputable def xi_350_1 : XIs := [(28, .getfield 29, 3), (31, .aload_n 0, 1), (32, .getfield 288, 3), (35, .iload_n 2, 1), (36, .iadd, 1), (37, .iaload, 1), (38, .i2l, 1), (39, .aload_n 0, 1), (40, .getfield 127, 3), (43, .iload_n 2, 1), (44, .laload, 1), (45, .lsub, 1), (46, .lreturn, 1)]
set_option maxRecDepth 100000 in
theorem xi_w350 : xi_ok cX12_roomOn (xi_350_0 ++ (xi_350_1)) = true := dl_all _ _ (by decide +kernel)
theorem xi_ok350_0 : xi_ok cX12_roomOn xi_350_0 = true := (xi_ap xi_w350).1
theorem xi_r350_1 : xi_ok cX12_roomOn (xi_350_1) = true := (xi_ap xi_w350).2
theorem xi_ok350_1 : xi_ok cX12_roomOn xi_350_1 = true := xi_r350_1
noncomputable def xi_350 (pc : Nat) : XIs := cond (Nat.blt pc 28) (xi_350_0) (xi_350_1)
theorem xi_ok350 (pc : Nat) : xi_ok cX12_roomOn (xi_350 pc) = true := xi_c (xi_ok350_0) (xi_ok350_1)
noncomputable def xi_351_0 : XIs := [(0, .aload_n 0, 1), (1, .getfield 130, 3), (4, .iload_n 1, 1), (5, .iaload, 1), (6, .istore 4, 2), (8, .iload 4, 2), (10, .sipush 200, 3), (13, .if_icmp .lt 21, 3), (16, .aload_n 0, 1), (17, .getfield 127, 3), (20, .iload 4, 2), (22, .sipush 200, 3), (25, .isub, 1), (26, .dup2, 1), (27, .laload, 1), (28, .lload_n 2, 1)]
noncomputable def xi_351_1 : XIs := [(29, .lsub, 1), (30, .lastore, 1), (31, .goto 14, 3), (34, .aload_n 0, 1), (35, .getfield 127, 3), (38, .iload 4, 2), (40, .dup2, 1), (41, .laload, 1), (42, .lload_n 2, 1), (43, .ladd, 1), (44, .lastore, 1), (45, .return_, 1)]
set_option maxRecDepth 100000 in
theorem xi_w351 : xi_ok cX12_push (xi_351_0 ++ (xi_351_1)) = true := dl_all _ _ (by decide +kernel)
theorem xi_ok351_0 : xi_ok cX12_push xi_351_0 = true := (xi_ap xi_w351).1
theorem xi_r351_1 : xi_ok cX12_push (xi_351_1) = true := (xi_ap xi_w351).2
theorem xi_ok351_1 : xi_ok cX12_push xi_351_1 = true := xi_r351_1
noncomputable def xi_351 (pc : Nat) : XIs := cond (Nat.blt pc 29) (xi_351_0) (xi_351_1)
theorem xi_ok351 (pc : Nat) : xi_ok cX12_push (xi_351 pc) = true := xi_c (xi_ok351_0) (xi_ok351_1)
noncomputable def xi_352_0 : XIs := [(0, .iconst 0, 1), (1, .istore_n 3, 1), (2, .iload_n 3, 1), (3, .sipush 160, 3), (6, .if_icmp .ge 16, 3), (9, .aload_n 0, 1), (10, .getfield 127, 3), (13, .iload_n 3, 1), (14, .lconst 0, 1), (15, .lastore, 1), (16, .iinc 3 1, 3), (19, .goto (-17), 3), (22, .lconst 0, 1), (23, .lstore_n 3, 1), (24, .aload_n 0, 1), (25, .iload_n 1, 1)]
noncomputable def xi_352_1 : XIs := [(26, .invokevirtual 522, 3), (29, .aload_n 0, 1), (30, .getfield 130, 3), (33, .iload_n 2, 1), (34, .iaload, 1), (35, .ifCond .lt 98, 3), (38, .ldc2_w 525, 3), (41, .lstore 5, 2), (43, .iload_n 2, 1), (44, .istore 7, 2), (46, .iload 7, 2), (48, .iload_n 1, 1), (49, .if_icmp .eq 39, 3), (52, .aload_n 0, 1), (53, .iload 7, 2), (55, .invokevirtual 527, 3)]
noncomputable def xi_352_2 : XIs := [(58, .lload 5, 2), (60, .lcmp, 1), (61, .ifCond .ge 12, 3), (64, .aload_n 0, 1), (65, .iload 7, 2), (67, .invokevirtual 527, 3), (70, .goto 5, 3), (73, .lload 5, 2), (75, .lstore 5, 2), (77, .aload_n 0, 1), (78, .iload 7, 2), (80, .invokevirtual 531, 3), (83, .istore 7, 2), (85, .goto (-39), 3), (88, .iload_n 2, 1), (89, .istore 7, 2)]
noncomputable def xi_352_3 : XIs := [(91, .iload 7, 2), (93, .iload_n 1, 1), (94, .if_icmp .eq 26, 3), (97, .aload_n 0, 1), (98, .iload 7, 2), (100, .invokevirtual 531, 3), (103, .istore 8, 2), (105, .aload_n 0, 1), (106, .iload 7, 2), (108, .lload 5, 2), (110, .invokevirtual 534, 3), (113, .iload 8, 2), (115, .istore 7, 2), (117, .goto (-26), 3), (120, .lload_n 3, 1), (121, .lload 5, 2)]
noncomputable def xi_352_4 : XIs := [(123, .ladd, 1), (124, .lstore_n 3, 1), (125, .aload_n 0, 1), (126, .iload_n 1, 1), (127, .invokevirtual 522, 3), (130, .goto (-101), 3), (133, .lload_n 3, 1), (134, .lreturn, 1)]
set_option maxRecDepth 100000 in
theorem xi_w352 : xi_ok cX12_most (xi_352_0 ++ (xi_352_1 ++ (xi_352_2 ++ (xi_352_3 ++ (xi_352_4))))) = true := dl_all _ _ (by decide +kernel)
theorem xi_ok352_0 : xi_ok cX12_most xi_352_0 = true := (xi_ap xi_w352).1
theorem xi_r352_1 : xi_ok cX12_most (xi_352_1 ++ (xi_352_2 ++ (xi_352_3 ++ (xi_352_4)))) = true := (xi_ap xi_w352).2
theorem xi_ok352_1 : xi_ok cX12_most xi_352_1 = true := (xi_ap xi_r352_1).1
theorem xi_r352_2 : xi_ok cX12_most (xi_352_2 ++ (xi_352_3 ++ (xi_352_4))) = true := (xi_ap xi_r352_1).2
theorem xi_ok352_2 : xi_ok cX12_most xi_352_2 = true := (xi_ap xi_r352_2).1
theorem xi_r352_3 : xi_ok cX12_most (xi_352_3 ++ (xi_352_4)) = true := (xi_ap xi_r352_2).2
theorem xi_ok352_3 : xi_ok cX12_most xi_352_3 = true := (xi_ap xi_r352_3).1
theorem xi_r352_4 : xi_ok cX12_most (xi_352_4) = true := (xi_ap xi_r352_3).2
theorem xi_ok352_4 : xi_ok cX12_most xi_352_4 = true := xi_r352_4
noncomputable def xi_352 (pc : Nat) : XIs := cond (Nat.blt pc 58) (cond (Nat.blt pc 26) (xi_352_0) (xi_352_1)) (cond (Nat.blt pc 91) (xi_352_2) (cond (Nat.blt pc 123) (xi_352_3) (xi_352_4)))
theorem xi_ok352 (pc : Nat) : xi_ok cX12_most (xi_352 pc) = true := xi_c (xi_c (xi_ok352_0) (xi_ok352_1)) (xi_c (xi_ok352_2) (xi_c (xi_ok352_3) (xi_ok352_4)))
noncomputable def xi_353_0 : XIs := [(0, .aload_n 0, 1), (1, .iload_n 1, 1), (2, .invokevirtual 349, 3), (5, .ifCond .eq 20, 3), (8, .aload_n 0, 1), (9, .iload_n 2, 1), (10, .invokevirtual 349, 3), (13, .ifCond .eq 12, 3), (16, .iload_n 1, 1), (17, .iload_n 2, 1), (18, .if_icmp .eq 7, 3), (21, .iconst 1, 1), (22, .goto 4, 3), (25, .iconst 0, 1), (26, .ireturn, 1)]
set_option maxRecDepth 100000 in
theorem xi_w353 : xi_ok cX12_twoNodes (xi_353_0) = true := dl_all _ _ (by decide +kernel)
theorem xi_ok353_0 : xi_ok cX12_twoNodes xi_353_0 = true := xi_w353
noncomputable def xi_353 (pc : Nat) : XIs := xi_353_0
theorem xi_ok353 (pc : Nat) : xi_ok cX12_twoNodes (xi_353 pc) = true := xi_ok353_0
noncomputable def xi_354_0 : XIs := [(0, .aload_n 0, 1), (1, .aload_n 0, 1), (2, .iload_n 1, 1), (3, .iload_n 2, 1), (4, .invokevirtual 538, 3), (7, .invokevirtual 334, 3), (10, .ifCond .eq 7, 3), (13, .lconst 0, 1), (14, .goto 9, 3), (17, .aload_n 0, 1), (18, .iload_n 1, 1), (19, .iload_n 2, 1), (20, .invokevirtual 541, 3), (23, .lreturn, 1)]
set_option maxRecDepth 100000 in
theorem xi_w354 : xi_ok cX12_flow (xi_354_0) = true := dl_all _ _ (by decide +kernel)
theorem xi_ok354_0 : xi_ok cX12_flow xi_354_0 = true := xi_w354
noncomputable def xi_354 (pc : Nat) : XIs := xi_354_0
theorem xi_ok354 (pc : Nat) : xi_ok cX12_flow (xi_354 pc) = true := xi_ok354_0
noncomputable def xi_355_0 : XIs := [(0, .aload_n 0, 1), (1, .aload_n 0, 1), (2, .iload_n 1, 1), (3, .iload_n 2, 1), (4, .invokevirtual 538, 3), (7, .ifCond .eq 15, 3), (10, .aload_n 0, 1), (11, .iload_n 3, 1), (12, .invokevirtual 349, 3), (15, .ifCond .eq 7, 3), (18, .iconst 1, 1), (19, .goto 4, 3), (22, .iconst 0, 1), (23, .invokevirtual 334, 3), (26, .ifCond .eq 5, 3), (29, .iconst 0, 1)]
noncomputable def xi_355_1 : XIs := [(30, .ireturn, 1), (31, .aload_n 0, 1), (32, .iload_n 1, 1), (33, .iload_n 2, 1), (34, .invokevirtual 541, 3), (37, .lstore 4, 2), (39, .aload_n 0, 1), (40, .getfield 130, 3), (43, .iload_n 3, 1), (44, .iaload, 1), (45, .ifCond .lt 7, 3), (48, .iconst 1, 1), (49, .goto 4, 3), (52, .iconst 0, 1), (53, .ireturn, 1)]
set_option maxRecDepth 100000 in
theorem xi_w355 : xi_ok cX12_side (xi_355_0 ++ (xi_355_1)) = true := dl_all _ _ (by decide +kernel)
theorem xi_ok355_0 : xi_ok cX12_side xi_355_0 = true := (xi_ap xi_w355).1
theorem xi_r355_1 : xi_ok cX12_side (xi_355_1) = true := (xi_ap xi_w355).2
theorem xi_ok355_1 : xi_ok cX12_side xi_355_1 = true := xi_r355_1
noncomputable def xi_355 (pc : Nat) : XIs := cond (Nat.blt pc 30) (xi_355_0) (xi_355_1)
theorem xi_ok355 (pc : Nat) : xi_ok cX12_side (xi_355 pc) = true := xi_c (xi_ok355_0) (xi_ok355_1)
noncomputable def xi_356_0 : XIs := [(0, .iconst 0, 1), (1, .istore_n 2, 1), (2, .iload_n 2, 1), (3, .aload_n 0, 1), (4, .getfield 285, 3), (7, .if_icmp .ge 25, 3), (10, .aload_n 0, 1), (11, .getfield 133, 3), (14, .iload_n 2, 1), (15, .ldc2_w 347, 3), (18, .lastore, 1), (19, .aload_n 0, 1), (20, .getfield 130, 3), (23, .iload_n 2, 1), (24, .iconst (-1), 1), (25, .iastore, 1)]
noncomputable def xi_356_1 : XIs := [(26, .iinc 2 1, 3), (29, .goto (-27), 3), (32, .aload_n 0, 1), (33, .getfield 133, 3), (36, .iload_n 1, 1), (37, .lconst 0, 1), (38, .lastore, 1), (39, .aload_n 0, 1), (40, .getfield 130, 3), (43, .iload_n 1, 1), (44, .sipush 1000, 3), (47, .iastore, 1), (48, .iconst 1, 1), (49, .istore_n 2, 1), (50, .iload_n 2, 1), (51, .ifCond .eq 282, 3)]
noncomputable def xi_356_2 : XIs := [(54, .iconst 0, 1), (55, .istore_n 2, 1), (56, .iconst 0, 1), (57, .istore_n 3, 1), (58, .iload_n 3, 1), (59, .sipush 160, 3), (62, .if_icmp .ge 268, 3), (65, .aload_n 0, 1), (66, .getfield 288, 3), (69, .iload_n 3, 1), (70, .iadd, 1), (71, .istore 4, 2), (73, .aload_n 0, 1), (74, .getfield 16, 3), (77, .iload 4, 2), (79, .baload, 1)]
noncomputable def xi_356_3 : XIs := [(80, .ifCond .eq 244, 3), (83, .aload_n 0, 1), (84, .getfield 127, 3), (87, .iload_n 3, 1), (88, .laload, 1), (89, .aload_n 0, 1), (90, .getfield 29, 3), (93, .iload 4, 2), (95, .iaload, 1), (96, .i2l, 1), (97, .lcmp, 1), (98, .ifCond .ge 107, 3), (101, .aload_n 0, 1), (102, .getfield 133, 3), (105, .aload_n 0, 1), (106, .getfield 20, 3)]
noncomputable def xi_356_4 : XIs := [(109, .iload 4, 2), (111, .iaload, 1), (112, .laload, 1), (113, .ldc2_w 347, 3), (116, .lcmp, 1), (117, .ifCond .ge 88, 3), (120, .aload_n 0, 1), (121, .getfield 133, 3), (124, .aload_n 0, 1), (125, .getfield 20, 3), (128, .iload 4, 2), (130, .iaload, 1), (131, .laload, 1), (132, .aload_n 0, 1), (133, .getfield 26, 3), (136, .iload 4, 2)]
noncomputable def xi_356_5 : XIs := [(138, .iaload, 1), (139, .i2l, 1), (140, .ladd, 1), (141, .aload_n 0, 1), (142, .getfield 133, 3), (145, .aload_n 0, 1), (146, .getfield 23, 3), (149, .iload 4, 2), (151, .iaload, 1), (152, .laload, 1), (153, .lcmp, 1), (154, .ifCond .ge 51, 3), (157, .aload_n 0, 1), (158, .getfield 133, 3), (161, .aload_n 0, 1), (162, .getfield 23, 3)]
noncomputable def xi_356_6 : XIs := [(165, .iload 4, 2), (167, .iaload, 1), (168, .aload_n 0, 1), (169, .getfield 133, 3), (172, .aload_n 0, 1), (173, .getfield 20, 3), (176, .iload 4, 2), (178, .iaload, 1), (179, .laload, 1), (180, .aload_n 0, 1), (181, .getfield 26, 3), (184, .iload 4, 2), (186, .iaload, 1), (187, .i2l, 1), (188, .ladd, 1), (189, .lastore, 1)]
noncomputable def xi_356_7 : XIs := [(190, .aload_n 0, 1), (191, .getfield 130, 3), (194, .aload_n 0, 1), (195, .getfield 23, 3), (198, .iload 4, 2), (200, .iaload, 1), (201, .iload_n 3, 1), (202, .iastore, 1), (203, .iconst 1, 1), (204, .istore_n 2, 1), (205, .aload_n 0, 1), (206, .getfield 127, 3), (209, .iload_n 3, 1), (210, .laload, 1), (211, .lconst 0, 1), (212, .lcmp, 1)]
noncomputable def xi_356_8 : XIs := [(213, .ifCond .le 111, 3), (216, .aload_n 0, 1), (217, .getfield 133, 3), (220, .aload_n 0, 1), (221, .getfield 23, 3), (224, .iload 4, 2), (226, .iaload, 1), (227, .laload, 1), (228, .ldc2_w 347, 3), (231, .lcmp, 1), (232, .ifCond .ge 92, 3), (235, .aload_n 0, 1), (236, .getfield 133, 3), (239, .aload_n 0, 1), (240, .getfield 23, 3), (243, .iload 4, 2)]
noncomputable def xi_356_9 : XIs := [(245, .iaload, 1), (246, .laload, 1), (247, .aload_n 0, 1), (248, .getfield 26, 3), (251, .iload 4, 2), (253, .iaload, 1), (254, .i2l, 1), (255, .lsub, 1), (256, .aload_n 0, 1), (257, .getfield 133, 3), (260, .aload_n 0, 1), (261, .getfield 20, 3), (264, .iload 4, 2), (266, .iaload, 1), (267, .laload, 1), (268, .lcmp, 1)]
noncomputable def xi_356_10 : XIs := [(269, .ifCond .ge 55, 3), (272, .aload_n 0, 1), (273, .getfield 133, 3), (276, .aload_n 0, 1), (277, .getfield 20, 3), (280, .iload 4, 2), (282, .iaload, 1), (283, .aload_n 0, 1), (284, .getfield 133, 3), (287, .aload_n 0, 1), (288, .getfield 23, 3), (291, .iload 4, 2), (293, .iaload, 1), (294, .laload, 1), (295, .aload_n 0, 1), (296, .getfield 26, 3)]
noncomputable def xi_356_11 : XIs := [(299, .iload 4, 2), (301, .iaload, 1), (302, .i2l, 1), (303, .lsub, 1), (304, .lastore, 1), (305, .aload_n 0, 1), (306, .getfield 130, 3), (309, .aload_n 0, 1), (310, .getfield 20, 3), (313, .iload 4, 2), (315, .iaload, 1), (316, .sipush 200, 3), (319, .iload_n 3, 1), (320, .iadd, 1), (321, .iastore, 1), (322, .iconst 1, 1)]
noncomputable def xi_356_12 : XIs := [(323, .istore_n 2, 1), (324, .iinc 3 1, 3), (327, .goto (-269), 3), (330, .goto (-280), 3), (333, .return_, 1)]
set_option maxRecDepth 100000 in
theorem xi_w356 : xi_ok cX12_cheapest (xi_356_0 ++ (xi_356_1 ++ (xi_356_2 ++ (xi_356_3 ++ (xi_356_4 ++ (xi_356_5 ++ (xi_356_6 ++ (xi_356_7 ++ (xi_356_8 ++ (xi_356_9 ++ (xi_356_10 ++ (xi_356_11 ++ (xi_356_12))))))))))))) = true := dl_all _ _ (by decide +kernel)
theorem xi_ok356_0 : xi_ok cX12_cheapest xi_356_0 = true := (xi_ap xi_w356).1
theorem xi_r356_1 : xi_ok cX12_cheapest (xi_356_1 ++ (xi_356_2 ++ (xi_356_3 ++ (xi_356_4 ++ (xi_356_5 ++ (xi_356_6 ++ (xi_356_7 ++ (xi_356_8 ++ (xi_356_9 ++ (xi_356_10 ++ (xi_356_11 ++ (xi_356_12)))))))))))) = true := (xi_ap xi_w356).2
theorem xi_ok356_1 : xi_ok cX12_cheapest xi_356_1 = true := (xi_ap xi_r356_1).1
theorem xi_r356_2 : xi_ok cX12_cheapest (xi_356_2 ++ (xi_356_3 ++ (xi_356_4 ++ (xi_356_5 ++ (xi_356_6 ++ (xi_356_7 ++ (xi_356_8 ++ (xi_356_9 ++ (xi_356_10 ++ (xi_356_11 ++ (xi_356_12))))))))))) = true := (xi_ap xi_r356_1).2
theorem xi_ok356_2 : xi_ok cX12_cheapest xi_356_2 = true := (xi_ap xi_r356_2).1
theorem xi_r356_3 : xi_ok cX12_cheapest (xi_356_3 ++ (xi_356_4 ++ (xi_356_5 ++ (xi_356_6 ++ (xi_356_7 ++ (xi_356_8 ++ (xi_356_9 ++ (xi_356_10 ++ (xi_356_11 ++ (xi_356_12)))))))))) = true := (xi_ap xi_r356_2).2
theorem xi_ok356_3 : xi_ok cX12_cheapest xi_356_3 = true := (xi_ap xi_r356_3).1
theorem xi_r356_4 : xi_ok cX12_cheapest (xi_356_4 ++ (xi_356_5 ++ (xi_356_6 ++ (xi_356_7 ++ (xi_356_8 ++ (xi_356_9 ++ (xi_356_10 ++ (xi_356_11 ++ (xi_356_12))))))))) = true := (xi_ap xi_r356_3).2
theorem xi_ok356_4 : xi_ok cX12_cheapest xi_356_4 = true := (xi_ap xi_r356_4).1
theorem xi_r356_5 : xi_ok cX12_cheapest (xi_356_5 ++ (xi_356_6 ++ (xi_356_7 ++ (xi_356_8 ++ (xi_356_9 ++ (xi_356_10 ++ (xi_356_11 ++ (xi_356_12)))))))) = true := (xi_ap xi_r356_4).2
theorem xi_ok356_5 : xi_ok cX12_cheapest xi_356_5 = true := (xi_ap xi_r356_5).1
theorem xi_r356_6 : xi_ok cX12_cheapest (xi_356_6 ++ (xi_356_7 ++ (xi_356_8 ++ (xi_356_9 ++ (xi_356_10 ++ (xi_356_11 ++ (xi_356_12))))))) = true := (xi_ap xi_r356_5).2
theorem xi_ok356_6 : xi_ok cX12_cheapest xi_356_6 = true := (xi_ap xi_r356_6).1
theorem xi_r356_7 : xi_ok cX12_cheapest (xi_356_7 ++ (xi_356_8 ++ (xi_356_9 ++ (xi_356_10 ++ (xi_356_11 ++ (xi_356_12)))))) = true := (xi_ap xi_r356_6).2
theorem xi_ok356_7 : xi_ok cX12_cheapest xi_356_7 = true := (xi_ap xi_r356_7).1
theorem xi_r356_8 : xi_ok cX12_cheapest (xi_356_8 ++ (xi_356_9 ++ (xi_356_10 ++ (xi_356_11 ++ (xi_356_12))))) = true := (xi_ap xi_r356_7).2
theorem xi_ok356_8 : xi_ok cX12_cheapest xi_356_8 = true := (xi_ap xi_r356_8).1
theorem xi_r356_9 : xi_ok cX12_cheapest (xi_356_9 ++ (xi_356_10 ++ (xi_356_11 ++ (xi_356_12)))) = true := (xi_ap xi_r356_8).2
theorem xi_ok356_9 : xi_ok cX12_cheapest xi_356_9 = true := (xi_ap xi_r356_9).1
theorem xi_r356_10 : xi_ok cX12_cheapest (xi_356_10 ++ (xi_356_11 ++ (xi_356_12))) = true := (xi_ap xi_r356_9).2
theorem xi_ok356_10 : xi_ok cX12_cheapest xi_356_10 = true := (xi_ap xi_r356_10).1
theorem xi_r356_11 : xi_ok cX12_cheapest (xi_356_11 ++ (xi_356_12)) = true := (xi_ap xi_r356_10).2
theorem xi_ok356_11 : xi_ok cX12_cheapest xi_356_11 = true := (xi_ap xi_r356_11).1
theorem xi_r356_12 : xi_ok cX12_cheapest (xi_356_12) = true := (xi_ap xi_r356_11).2
theorem xi_ok356_12 : xi_ok cX12_cheapest xi_356_12 = true := xi_r356_12
noncomputable def xi_356 (pc : Nat) : XIs := cond (Nat.blt pc 165) (cond (Nat.blt pc 80) (cond (Nat.blt pc 26) (xi_356_0) (cond (Nat.blt pc 54) (xi_356_1) (xi_356_2))) (cond (Nat.blt pc 109) (xi_356_3) (cond (Nat.blt pc 138) (xi_356_4) (xi_356_5)))) (cond (Nat.blt pc 245) (cond (Nat.blt pc 190) (xi_356_6) (cond (Nat.blt pc 213) (xi_356_7) (xi_356_8))) (cond (Nat.blt pc 299) (cond (Nat.blt pc 269) (xi_356_9) (xi_356_10)) (cond (Nat.blt pc 323) (xi_356_11) (xi_356_12))))
theorem xi_ok356 (pc : Nat) : xi_ok cX12_cheapest (xi_356 pc) = true := xi_c (xi_c (xi_c (xi_ok356_0) (xi_c (xi_ok356_1) (xi_ok356_2))) (xi_c (xi_ok356_3) (xi_c (xi_ok356_4) (xi_ok356_5)))) (xi_c (xi_c (xi_ok356_6) (xi_c (xi_ok356_7) (xi_ok356_8))) (xi_c (xi_c (xi_ok356_9) (xi_ok356_10)) (xi_c (xi_ok356_11) (xi_ok356_12))))
noncomputable def xi_357_0 : XIs := [(0, .aload_n 0, 1), (1, .aload_n 0, 1), (2, .iload_n 1, 1), (3, .iload_n 2, 1), (4, .invokevirtual 538, 3), (7, .ifCond .eq 19, 3), (10, .iload_n 3, 1), (11, .i2l, 1), (12, .lconst 0, 1), (13, .ldc2_w 545, 3), (16, .invokestatic 308, 3), (19, .ifCond .eq 7, 3), (22, .iconst 1, 1), (23, .goto 4, 3), (26, .iconst 0, 1), (27, .invokevirtual 334, 3)]
noncomputable def xi_357_1 : XIs := [(30, .ifCond .eq 5, 3), (33, .lconst 0, 1), (34, .lreturn, 1), (35, .iconst 0, 1), (36, .istore 4, 2), (38, .iload 4, 2), (40, .aload_n 0, 1), (41, .getfield 285, 3), (44, .if_icmp .ge 40, 3), (47, .aload_n 0, 1), (48, .getfield 136, 3), (51, .iload 4, 2), (53, .iload 4, 2), (55, .iload_n 1, 1), (56, .if_icmp .ne 8, 3), (59, .iload_n 3, 1)]
noncomputable def xi_357_2 : XIs := [(60, .i2l, 1), (61, .goto 16, 3), (64, .iload 4, 2), (66, .iload_n 2, 1), (67, .if_icmp .ne 9, 3), (70, .iload_n 3, 1), (71, .ineg, 1), (72, .i2l, 1), (73, .goto 4, 3), (76, .lconst 0, 1), (77, .lastore, 1), (78, .iinc 4 1, 3), (81, .goto (-43), 3), (84, .iconst 0, 1), (85, .istore 4, 2), (87, .iload 4, 2)]
noncomputable def xi_357_3 : XIs := [(89, .sipush 160, 3), (92, .if_icmp .ge 111, 3), (95, .aload_n 0, 1), (96, .getfield 288, 3), (99, .iload 4, 2), (101, .iadd, 1), (102, .istore 5, 2), (104, .aload_n 0, 1), (105, .getfield 127, 3), (108, .iload 4, 2), (110, .aload_n 0, 1), (111, .getfield 16, 3), (114, .iload 5, 2), (116, .baload, 1), (117, .ifCond .eq 24, 3), (120, .aload_n 0, 1)]
noncomputable def xi_357_4 : XIs := [(121, .getfield 26, 3), (124, .iload 5, 2), (126, .iaload, 1), (127, .ifCond .ge 14, 3), (130, .aload_n 0, 1), (131, .getfield 29, 3), (134, .iload 5, 2), (136, .iaload, 1), (137, .i2l, 1), (138, .goto 4, 3), (141, .lconst 0, 1), (142, .lastore, 1), (143, .aload_n 0, 1), (144, .getfield 16, 3), (147, .iload 5, 2), (149, .baload, 1)]
noncomputable def xi_357_5 : XIs := [(150, .ifCond .eq 47, 3), (153, .aload_n 0, 1), (154, .getfield 136, 3), (157, .aload_n 0, 1), (158, .getfield 20, 3), (161, .iload 5, 2), (163, .iaload, 1), (164, .dup2, 1), (165, .laload, 1), (166, .aload_n 0, 1), (167, .getfield 127, 3), (170, .iload 4, 2), (172, .laload, 1), (173, .lsub, 1), (174, .lastore, 1), (175, .aload_n 0, 1)]
noncomputable def xi_357_6 : XIs := [(176, .getfield 136, 3), (179, .aload_n 0, 1), (180, .getfield 23, 3), (183, .iload 5, 2), (185, .iaload, 1), (186, .dup2, 1), (187, .laload, 1), (188, .aload_n 0, 1), (189, .getfield 127, 3), (192, .iload 4, 2), (194, .laload, 1), (195, .ladd, 1), (196, .lastore, 1), (197, .iinc 4 1, 3), (200, .goto (-113), 3), (203, .iconst 1, 1)]
noncomputable def xi_357_7 : XIs := [(204, .istore 4, 2), (206, .iconst 0, 1), (207, .istore 5, 2), (209, .iload 5, 2), (211, .aload_n 0, 1), (212, .getfield 285, 3), (215, .if_icmp .ge 42, 3), (218, .iload 4, 2), (220, .ifCond .eq 37, 3), (223, .aload_n 0, 1), (224, .getfield 136, 3), (227, .iload 5, 2), (229, .laload, 1), (230, .lconst 0, 1), (231, .lcmp, 1), (232, .ifCond .le 19, 3)]
noncomputable def xi_357_8 : XIs := [(235, .iload 4, 2), (237, .ifCond .eq 14, 3), (240, .aload_n 0, 1), (241, .iload 5, 2), (243, .invokevirtual 547, 3), (246, .istore 4, 2), (248, .goto (-25), 3), (251, .iinc 5 1, 3), (254, .goto (-45), 3), (257, .lconst 0, 1), (258, .lstore 5, 2), (260, .iconst 0, 1), (261, .istore 7, 2), (263, .iload 7, 2), (265, .sipush 160, 3), (268, .if_icmp .ge 54, 3)]
noncomputable def xi_357_9 : XIs := [(271, .lload 5, 2), (273, .aload_n 0, 1), (274, .getfield 16, 3), (277, .aload_n 0, 1), (278, .getfield 288, 3), (281, .iload 7, 2), (283, .iadd, 1), (284, .baload, 1), (285, .ifCond .eq 27, 3), (288, .aload_n 0, 1), (289, .getfield 127, 3), (292, .iload 7, 2), (294, .laload, 1), (295, .aload_n 0, 1), (296, .getfield 26, 3), (299, .aload_n 0, 1)]
noncomputable def xi_357_10 : XIs := [(300, .getfield 288, 3), (303, .iload 7, 2), (305, .iadd, 1), (306, .iaload, 1), (307, .i2l, 1), (308, .lmul, 1), (309, .goto 4, 3), (312, .lconst 0, 1), (313, .ladd, 1), (314, .lstore 5, 2), (316, .iinc 7 1, 3), (319, .goto (-56), 3), (322, .iload 4, 2), (324, .ifCond .eq 8, 3), (327, .lload 5, 2), (329, .goto 6, 3)]
noncomputable def xi_357_11 : XIs := [(332, .ldc2_w 347, 3), (335, .lreturn, 1)]
set_option maxRecDepth 100000 in
theorem xi_w357 : xi_ok cX12_cost (xi_357_0 ++ (xi_357_1 ++ (xi_357_2 ++ (xi_357_3 ++ (xi_357_4 ++ (xi_357_5 ++ (xi_357_6 ++ (xi_357_7 ++ (xi_357_8 ++ (xi_357_9 ++ (xi_357_10 ++ (xi_357_11)))))))))))) = true := dl_all _ _ (by decide +kernel)
theorem xi_ok357_0 : xi_ok cX12_cost xi_357_0 = true := (xi_ap xi_w357).1
theorem xi_r357_1 : xi_ok cX12_cost (xi_357_1 ++ (xi_357_2 ++ (xi_357_3 ++ (xi_357_4 ++ (xi_357_5 ++ (xi_357_6 ++ (xi_357_7 ++ (xi_357_8 ++ (xi_357_9 ++ (xi_357_10 ++ (xi_357_11))))))))))) = true := (xi_ap xi_w357).2
theorem xi_ok357_1 : xi_ok cX12_cost xi_357_1 = true := (xi_ap xi_r357_1).1
theorem xi_r357_2 : xi_ok cX12_cost (xi_357_2 ++ (xi_357_3 ++ (xi_357_4 ++ (xi_357_5 ++ (xi_357_6 ++ (xi_357_7 ++ (xi_357_8 ++ (xi_357_9 ++ (xi_357_10 ++ (xi_357_11)))))))))) = true := (xi_ap xi_r357_1).2
theorem xi_ok357_2 : xi_ok cX12_cost xi_357_2 = true := (xi_ap xi_r357_2).1
theorem xi_r357_3 : xi_ok cX12_cost (xi_357_3 ++ (xi_357_4 ++ (xi_357_5 ++ (xi_357_6 ++ (xi_357_7 ++ (xi_357_8 ++ (xi_357_9 ++ (xi_357_10 ++ (xi_357_11))))))))) = true := (xi_ap xi_r357_2).2
theorem xi_ok357_3 : xi_ok cX12_cost xi_357_3 = true := (xi_ap xi_r357_3).1
theorem xi_r357_4 : xi_ok cX12_cost (xi_357_4 ++ (xi_357_5 ++ (xi_357_6 ++ (xi_357_7 ++ (xi_357_8 ++ (xi_357_9 ++ (xi_357_10 ++ (xi_357_11)))))))) = true := (xi_ap xi_r357_3).2
theorem xi_ok357_4 : xi_ok cX12_cost xi_357_4 = true := (xi_ap xi_r357_4).1
theorem xi_r357_5 : xi_ok cX12_cost (xi_357_5 ++ (xi_357_6 ++ (xi_357_7 ++ (xi_357_8 ++ (xi_357_9 ++ (xi_357_10 ++ (xi_357_11))))))) = true := (xi_ap xi_r357_4).2
theorem xi_ok357_5 : xi_ok cX12_cost xi_357_5 = true := (xi_ap xi_r357_5).1
theorem xi_r357_6 : xi_ok cX12_cost (xi_357_6 ++ (xi_357_7 ++ (xi_357_8 ++ (xi_357_9 ++ (xi_357_10 ++ (xi_357_11)))))) = true := (xi_ap xi_r357_5).2
theorem xi_ok357_6 : xi_ok cX12_cost xi_357_6 = true := (xi_ap xi_r357_6).1
theorem xi_r357_7 : xi_ok cX12_cost (xi_357_7 ++ (xi_357_8 ++ (xi_357_9 ++ (xi_357_10 ++ (xi_357_11))))) = true := (xi_ap xi_r357_6).2
theorem xi_ok357_7 : xi_ok cX12_cost xi_357_7 = true := (xi_ap xi_r357_7).1
theorem xi_r357_8 : xi_ok cX12_cost (xi_357_8 ++ (xi_357_9 ++ (xi_357_10 ++ (xi_357_11)))) = true := (xi_ap xi_r357_7).2
theorem xi_ok357_8 : xi_ok cX12_cost xi_357_8 = true := (xi_ap xi_r357_8).1
theorem xi_r357_9 : xi_ok cX12_cost (xi_357_9 ++ (xi_357_10 ++ (xi_357_11))) = true := (xi_ap xi_r357_8).2
theorem xi_ok357_9 : xi_ok cX12_cost xi_357_9 = true := (xi_ap xi_r357_9).1
theorem xi_r357_10 : xi_ok cX12_cost (xi_357_10 ++ (xi_357_11)) = true := (xi_ap xi_r357_9).2
theorem xi_ok357_10 : xi_ok cX12_cost xi_357_10 = true := (xi_ap xi_r357_10).1
theorem xi_r357_11 : xi_ok cX12_cost (xi_357_11) = true := (xi_ap xi_r357_10).2
theorem xi_ok357_11 : xi_ok cX12_cost xi_357_11 = true := xi_r357_11
noncomputable def xi_357 (pc : Nat) : XIs := cond (Nat.blt pc 176) (cond (Nat.blt pc 89) (cond (Nat.blt pc 30) (xi_357_0) (cond (Nat.blt pc 60) (xi_357_1) (xi_357_2))) (cond (Nat.blt pc 121) (xi_357_3) (cond (Nat.blt pc 150) (xi_357_4) (xi_357_5)))) (cond (Nat.blt pc 271) (cond (Nat.blt pc 204) (xi_357_6) (cond (Nat.blt pc 235) (xi_357_7) (xi_357_8))) (cond (Nat.blt pc 300) (xi_357_9) (cond (Nat.blt pc 332) (xi_357_10) (xi_357_11))))
theorem xi_ok357 (pc : Nat) : xi_ok cX12_cost (xi_357 pc) = true := xi_c (xi_c (xi_c (xi_ok357_0) (xi_c (xi_ok357_1) (xi_ok357_2))) (xi_c (xi_ok357_3) (xi_c (xi_ok357_4) (xi_ok357_5)))) (xi_c (xi_c (xi_ok357_6) (xi_c (xi_ok357_7) (xi_ok357_8))) (xi_c (xi_ok357_9) (xi_c (xi_ok357_10) (xi_ok357_11))))
noncomputable def xi_358_0 : XIs := [(0, .aload_n 0, 1), (1, .iload_n 1, 1), (2, .invokevirtual 550, 3), (5, .iconst (-1), 1), (6, .istore_n 2, 1), (7, .iconst 0, 1), (8, .istore_n 3, 1), (9, .iload_n 3, 1), (10, .aload_n 0, 1), (11, .getfield 285, 3), (14, .if_icmp .ge 59, 3), (17, .aload_n 0, 1), (18, .getfield 136, 3), (21, .iload_n 3, 1), (22, .laload, 1), (23, .lconst 0, 1)]
noncomputable def xi_358_1 : XIs := [(24, .lcmp, 1), (25, .ifCond .ge 40, 3), (28, .aload_n 0, 1), (29, .getfield 133, 3), (32, .iload_n 3, 1), (33, .laload, 1), (34, .ldc2_w 347, 3), (37, .lcmp, 1), (38, .ifCond .ge 27, 3), (41, .iload_n 2, 1), (42, .ifCond .lt 19, 3), (45, .aload_n 0, 1), (46, .getfield 133, 3), (49, .iload_n 3, 1), (50, .laload, 1), (51, .aload_n 0, 1)]
noncomputable def xi_358_2 : XIs := [(52, .getfield 133, 3), (55, .iload_n 2, 1), (56, .laload, 1), (57, .lcmp, 1), (58, .ifCond .ge 7, 3), (61, .iload_n 3, 1), (62, .goto 4, 3), (65, .iload_n 2, 1), (66, .istore_n 2, 1), (67, .iinc 3 1, 3), (70, .goto (-61), 3), (73, .iload_n 2, 1), (74, .ifCond .ge 5, 3), (77, .iconst 0, 1), (78, .ireturn, 1), (79, .aload_n 0, 1)]
noncomputable def xi_358_3 : XIs := [(80, .getfield 136, 3), (83, .iload_n 1, 1), (84, .laload, 1), (85, .aload_n 0, 1), (86, .getfield 136, 3), (89, .iload_n 2, 1), (90, .laload, 1), (91, .lneg, 1), (92, .lcmp, 1), (93, .ifCond .ge 12, 3), (96, .aload_n 0, 1), (97, .getfield 136, 3), (100, .iload_n 1, 1), (101, .laload, 1), (102, .goto 10, 3), (105, .aload_n 0, 1)]
noncomputable def xi_358_4 : XIs := [(106, .getfield 136, 3), (109, .iload_n 2, 1), (110, .laload, 1), (111, .lneg, 1), (112, .lstore_n 3, 1), (113, .iload_n 2, 1), (114, .istore 5, 2), (116, .iload 5, 2), (118, .iload_n 1, 1), (119, .if_icmp .eq 36, 3), (122, .aload_n 0, 1), (123, .iload 5, 2), (125, .invokevirtual 527, 3), (128, .lload_n 3, 1), (129, .lcmp, 1), (130, .ifCond .ge 12, 3)]
noncomputable def xi_358_5 : XIs := [(133, .aload_n 0, 1), (134, .iload 5, 2), (136, .invokevirtual 527, 3), (139, .goto 4, 3), (142, .lload_n 3, 1), (143, .lstore_n 3, 1), (144, .aload_n 0, 1), (145, .iload 5, 2), (147, .invokevirtual 531, 3), (150, .istore 5, 2), (152, .goto (-36), 3), (155, .iload_n 2, 1), (156, .istore 5, 2), (158, .iload 5, 2), (160, .iload_n 1, 1), (161, .if_icmp .eq 25, 3)]
noncomputable def xi_358_6 : XIs := [(164, .aload_n 0, 1), (165, .iload 5, 2), (167, .invokevirtual 531, 3), (170, .istore 6, 2), (172, .aload_n 0, 1), (173, .iload 5, 2), (175, .lload_n 3, 1), (176, .invokevirtual 534, 3), (179, .iload 6, 2), (181, .istore 5, 2), (183, .goto (-25), 3), (186, .aload_n 0, 1), (187, .getfield 136, 3), (190, .iload_n 1, 1), (191, .dup2, 1), (192, .laload, 1)]
noncomputable def xi_358_7 : XIs := [(193, .lload_n 3, 1), (194, .lsub, 1), (195, .lastore, 1), (196, .aload_n 0, 1), (197, .getfield 136, 3), (200, .iload_n 2, 1), (201, .dup2, 1), (202, .laload, 1), (203, .lload_n 3, 1), (204, .ladd, 1), (205, .lastore, 1), (206, .iconst 1, 1), (207, .ireturn, 1)]
set_option maxRecDepth 100000 in
theorem xi_w358 : xi_ok cX12_sends (xi_358_0 ++ (xi_358_1 ++ (xi_358_2 ++ (xi_358_3 ++ (xi_358_4 ++ (xi_358_5 ++ (xi_358_6 ++ (xi_358_7)))))))) = true := dl_all _ _ (by decide +kernel)
theorem xi_ok358_0 : xi_ok cX12_sends xi_358_0 = true := (xi_ap xi_w358).1
theorem xi_r358_1 : xi_ok cX12_sends (xi_358_1 ++ (xi_358_2 ++ (xi_358_3 ++ (xi_358_4 ++ (xi_358_5 ++ (xi_358_6 ++ (xi_358_7))))))) = true := (xi_ap xi_w358).2
theorem xi_ok358_1 : xi_ok cX12_sends xi_358_1 = true := (xi_ap xi_r358_1).1
theorem xi_r358_2 : xi_ok cX12_sends (xi_358_2 ++ (xi_358_3 ++ (xi_358_4 ++ (xi_358_5 ++ (xi_358_6 ++ (xi_358_7)))))) = true := (xi_ap xi_r358_1).2
theorem xi_ok358_2 : xi_ok cX12_sends xi_358_2 = true := (xi_ap xi_r358_2).1
theorem xi_r358_3 : xi_ok cX12_sends (xi_358_3 ++ (xi_358_4 ++ (xi_358_5 ++ (xi_358_6 ++ (xi_358_7))))) = true := (xi_ap xi_r358_2).2
theorem xi_ok358_3 : xi_ok cX12_sends xi_358_3 = true := (xi_ap xi_r358_3).1
theorem xi_r358_4 : xi_ok cX12_sends (xi_358_4 ++ (xi_358_5 ++ (xi_358_6 ++ (xi_358_7)))) = true := (xi_ap xi_r358_3).2
theorem xi_ok358_4 : xi_ok cX12_sends xi_358_4 = true := (xi_ap xi_r358_4).1
theorem xi_r358_5 : xi_ok cX12_sends (xi_358_5 ++ (xi_358_6 ++ (xi_358_7))) = true := (xi_ap xi_r358_4).2
theorem xi_ok358_5 : xi_ok cX12_sends xi_358_5 = true := (xi_ap xi_r358_5).1
theorem xi_r358_6 : xi_ok cX12_sends (xi_358_6 ++ (xi_358_7)) = true := (xi_ap xi_r358_5).2
theorem xi_ok358_6 : xi_ok cX12_sends xi_358_6 = true := (xi_ap xi_r358_6).1
theorem xi_r358_7 : xi_ok cX12_sends (xi_358_7) = true := (xi_ap xi_r358_6).2
theorem xi_ok358_7 : xi_ok cX12_sends xi_358_7 = true := xi_r358_7
noncomputable def xi_358 (pc : Nat) : XIs := cond (Nat.blt pc 106) (cond (Nat.blt pc 52) (cond (Nat.blt pc 24) (xi_358_0) (xi_358_1)) (cond (Nat.blt pc 80) (xi_358_2) (xi_358_3))) (cond (Nat.blt pc 164) (cond (Nat.blt pc 133) (xi_358_4) (xi_358_5)) (cond (Nat.blt pc 193) (xi_358_6) (xi_358_7)))
theorem xi_ok358 (pc : Nat) : xi_ok cX12_sends (xi_358 pc) = true := xi_c (xi_c (xi_c (xi_ok358_0) (xi_ok358_1)) (xi_c (xi_ok358_2) (xi_ok358_3))) (xi_c (xi_c (xi_ok358_4) (xi_ok358_5)) (xi_c (xi_ok358_6) (xi_ok358_7)))
noncomputable def xi_359_0 : XIs := [(0, .aload_n 0, 1), (1, .getfield 13, 3), (4, .bipush 32, 2), (6, .aload_n 0, 1), (7, .getfield 301, 3), (10, .imul, 1), (11, .iload_n 1, 1), (12, .iadd, 1), (13, .iaload, 1), (14, .bipush 13, 2), (16, .if_icmp .ge 7, 3), (19, .iconst 1, 1), (20, .goto 4, 3), (23, .iconst 0, 1), (24, .ireturn, 1)]
set_option maxRecDepth 100000 in
theorem xi_w359 : xi_ok cX12_isFirstSort (xi_359_0) = true := dl_all _ _ (by decide +kernel)
theorem xi_ok359_0 : xi_ok cX12_isFirstSort xi_359_0 = true := xi_w359
noncomputable def xi_359 (pc : Nat) : XIs := xi_359_0
theorem xi_ok359 (pc : Nat) : xi_ok cX12_isFirstSort (xi_359 pc) = true := xi_ok359_0
noncomputable def xi_360_0 : XIs := [(0, .iconst 0, 1), (1, .istore_n 1, 1), (2, .iload_n 1, 1), (3, .sipush 1024, 3), (6, .if_icmp .ge 18, 3), (9, .aload_n 0, 1), (10, .getfield 142, 3), (13, .iload_n 1, 1), (14, .ldc2_w 347, 3), (17, .lastore, 1), (18, .iinc 1 1, 3), (21, .goto (-19), 3), (24, .iconst 0, 1), (25, .istore_n 1, 1), (26, .iload_n 1, 1), (27, .sipush 160, 3)]
noncomputable def xi_360_1 : XIs := [(30, .if_icmp .ge 131, 3), (33, .aload_n 0, 1), (34, .iload_n 1, 1), (35, .invokevirtual 340, 3), (38, .ifCond .eq 117, 3), (41, .aload_n 0, 1), (42, .getfield 20, 3), (45, .aload_n 0, 1), (46, .getfield 288, 3), (49, .iload_n 1, 1), (50, .iadd, 1), (51, .iaload, 1), (52, .istore_n 2, 1), (53, .aload_n 0, 1), (54, .getfield 23, 3), (57, .aload_n 0, 1)]
noncomputable def xi_360_2 : XIs := [(58, .getfield 288, 3), (61, .iload_n 1, 1), (62, .iadd, 1), (63, .iaload, 1), (64, .istore_n 3, 1), (65, .aload_n 0, 1), (66, .iload_n 2, 1), (67, .invokevirtual 553, 3), (70, .aload_n 0, 1), (71, .iload_n 3, 1), (72, .invokevirtual 553, 3), (75, .if_icmp .eq 80, 3), (78, .aload_n 0, 1), (79, .iload_n 2, 1), (80, .invokevirtual 553, 3), (83, .ifCond .eq 12, 3)]
noncomputable def xi_360_3 : XIs := [(86, .bipush 32, 2), (88, .iload_n 2, 1), (89, .imul, 1), (90, .iload_n 3, 1), (91, .iadd, 1), (92, .goto 9, 3), (95, .bipush 32, 2), (97, .iload_n 3, 1), (98, .imul, 1), (99, .iload_n 2, 1), (100, .iadd, 1), (101, .istore 4, 2), (103, .aload_n 0, 1), (104, .getfield 142, 3), (107, .iload 4, 2), (109, .aload_n 0, 1)]
noncomputable def xi_360_4 : XIs := [(110, .getfield 26, 3), (113, .aload_n 0, 1), (114, .getfield 288, 3), (117, .iload_n 1, 1), (118, .iadd, 1), (119, .iaload, 1), (120, .i2l, 1), (121, .aload_n 0, 1), (122, .getfield 142, 3), (125, .iload 4, 2), (127, .laload, 1), (128, .lcmp, 1), (129, .ifCond .ge 18, 3), (132, .aload_n 0, 1), (133, .getfield 26, 3), (136, .aload_n 0, 1)]
noncomputable def xi_360_5 : XIs := [(137, .getfield 288, 3), (140, .iload_n 1, 1), (141, .iadd, 1), (142, .iaload, 1), (143, .i2l, 1), (144, .goto 10, 3), (147, .aload_n 0, 1), (148, .getfield 142, 3), (151, .iload 4, 2), (153, .laload, 1), (154, .lastore, 1), (155, .iinc 1 1, 3), (158, .goto (-132), 3), (161, .iconst 0, 1), (162, .istore_n 1, 1), (163, .iload_n 1, 1)]
noncomputable def xi_360_6 : XIs := [(164, .aload_n 0, 1), (165, .getfield 285, 3), (168, .if_icmp .ge 16, 3), (171, .aload_n 0, 1), (172, .getfield 139, 3), (175, .iload_n 1, 1), (176, .iconst (-1), 1), (177, .iastore, 1), (178, .iinc 1 1, 3), (181, .goto (-18), 3), (184, .iconst 1, 1), (185, .istore_n 1, 1), (186, .iload_n 1, 1), (187, .ifCond .eq 60, 3), (190, .aload_n 0, 1), (191, .invokevirtual 556, 3)]
noncomputable def xi_360_7 : XIs := [(194, .istore_n 2, 1), (195, .iload_n 2, 1), (196, .ifCond .lt 7, 3), (199, .iconst 1, 1), (200, .goto 4, 3), (203, .iconst 0, 1), (204, .istore_n 1, 1), (205, .iload_n 2, 1), (206, .ifCond .lt 38, 3), (209, .aload_n 0, 1), (210, .getfield 130, 3), (213, .iload_n 2, 1), (214, .iaload, 1), (215, .istore_n 3, 1), (216, .aload_n 0, 1), (217, .getfield 139, 3)]
noncomputable def xi_360_8 : XIs := [(220, .iload_n 3, 1), (221, .iaload, 1), (222, .istore 4, 2), (224, .aload_n 0, 1), (225, .getfield 139, 3), (228, .iload_n 3, 1), (229, .iload_n 2, 1), (230, .iastore, 1), (231, .aload_n 0, 1), (232, .getfield 139, 3), (235, .iload_n 2, 1), (236, .iload_n 3, 1), (237, .iastore, 1), (238, .iload 4, 2), (240, .istore_n 2, 1), (241, .goto (-36), 3)]
noncomputable def xi_360_9 : XIs := [(244, .goto (-58), 3), (247, .return_, 1)]
set_option maxRecDepth 100000 in
theorem xi_w360 : xi_ok cX12_pairUp (xi_360_0 ++ (xi_360_1 ++ (xi_360_2 ++ (xi_360_3 ++ (xi_360_4 ++ (xi_360_5 ++ (xi_360_6 ++ (xi_360_7 ++ (xi_360_8 ++ (xi_360_9)))))))))) = true := dl_all _ _ (by decide +kernel)
theorem xi_ok360_0 : xi_ok cX12_pairUp xi_360_0 = true := (xi_ap xi_w360).1
theorem xi_r360_1 : xi_ok cX12_pairUp (xi_360_1 ++ (xi_360_2 ++ (xi_360_3 ++ (xi_360_4 ++ (xi_360_5 ++ (xi_360_6 ++ (xi_360_7 ++ (xi_360_8 ++ (xi_360_9))))))))) = true := (xi_ap xi_w360).2
theorem xi_ok360_1 : xi_ok cX12_pairUp xi_360_1 = true := (xi_ap xi_r360_1).1
theorem xi_r360_2 : xi_ok cX12_pairUp (xi_360_2 ++ (xi_360_3 ++ (xi_360_4 ++ (xi_360_5 ++ (xi_360_6 ++ (xi_360_7 ++ (xi_360_8 ++ (xi_360_9)))))))) = true := (xi_ap xi_r360_1).2
theorem xi_ok360_2 : xi_ok cX12_pairUp xi_360_2 = true := (xi_ap xi_r360_2).1
theorem xi_r360_3 : xi_ok cX12_pairUp (xi_360_3 ++ (xi_360_4 ++ (xi_360_5 ++ (xi_360_6 ++ (xi_360_7 ++ (xi_360_8 ++ (xi_360_9))))))) = true := (xi_ap xi_r360_2).2
theorem xi_ok360_3 : xi_ok cX12_pairUp xi_360_3 = true := (xi_ap xi_r360_3).1
theorem xi_r360_4 : xi_ok cX12_pairUp (xi_360_4 ++ (xi_360_5 ++ (xi_360_6 ++ (xi_360_7 ++ (xi_360_8 ++ (xi_360_9)))))) = true := (xi_ap xi_r360_3).2
theorem xi_ok360_4 : xi_ok cX12_pairUp xi_360_4 = true := (xi_ap xi_r360_4).1
theorem xi_r360_5 : xi_ok cX12_pairUp (xi_360_5 ++ (xi_360_6 ++ (xi_360_7 ++ (xi_360_8 ++ (xi_360_9))))) = true := (xi_ap xi_r360_4).2
theorem xi_ok360_5 : xi_ok cX12_pairUp xi_360_5 = true := (xi_ap xi_r360_5).1
theorem xi_r360_6 : xi_ok cX12_pairUp (xi_360_6 ++ (xi_360_7 ++ (xi_360_8 ++ (xi_360_9)))) = true := (xi_ap xi_r360_5).2
theorem xi_ok360_6 : xi_ok cX12_pairUp xi_360_6 = true := (xi_ap xi_r360_6).1
theorem xi_r360_7 : xi_ok cX12_pairUp (xi_360_7 ++ (xi_360_8 ++ (xi_360_9))) = true := (xi_ap xi_r360_6).2
theorem xi_ok360_7 : xi_ok cX12_pairUp xi_360_7 = true := (xi_ap xi_r360_7).1
theorem xi_r360_8 : xi_ok cX12_pairUp (xi_360_8 ++ (xi_360_9)) = true := (xi_ap xi_r360_7).2
theorem xi_ok360_8 : xi_ok cX12_pairUp xi_360_8 = true := (xi_ap xi_r360_8).1
theorem xi_r360_9 : xi_ok cX12_pairUp (xi_360_9) = true := (xi_ap xi_r360_8).2
theorem xi_ok360_9 : xi_ok cX12_pairUp xi_360_9 = true := xi_r360_9
noncomputable def xi_360 (pc : Nat) : XIs := cond (Nat.blt pc 137) (cond (Nat.blt pc 58) (cond (Nat.blt pc 30) (xi_360_0) (xi_360_1)) (cond (Nat.blt pc 86) (xi_360_2) (cond (Nat.blt pc 110) (xi_360_3) (xi_360_4)))) (cond (Nat.blt pc 194) (cond (Nat.blt pc 164) (xi_360_5) (xi_360_6)) (cond (Nat.blt pc 220) (xi_360_7) (cond (Nat.blt pc 244) (xi_360_8) (xi_360_9))))
theorem xi_ok360 (pc : Nat) : xi_ok cX12_pairUp (xi_360 pc) = true := xi_c (xi_c (xi_c (xi_ok360_0) (xi_ok360_1)) (xi_c (xi_ok360_2) (xi_c (xi_ok360_3) (xi_ok360_4)))) (xi_c (xi_c (xi_ok360_5) (xi_ok360_6)) (xi_c (xi_ok360_7) (xi_c (xi_ok360_8) (xi_ok360_9))))
noncomputable def xi_361_0 : XIs := [(0, .iconst 0, 1), (1, .istore_n 1, 1), (2, .iload_n 1, 1), (3, .aload_n 0, 1), (4, .getfield 285, 3), (7, .if_icmp .ge 46, 3), (10, .aload_n 0, 1), (11, .getfield 133, 3), (14, .iload_n 1, 1), (15, .aload_n 0, 1), (16, .iload_n 1, 1), (17, .invokevirtual 553, 3), (20, .ifCond .eq 16, 3), (23, .aload_n 0, 1), (24, .getfield 139, 3), (27, .iload_n 1, 1)]
noncomputable def xi_361_1 : XIs := [(28, .iaload, 1), (29, .ifCond .ge 7, 3), (32, .lconst 0, 1), (33, .goto 6, 3), (36, .ldc2_w 347, 3), (39, .lastore, 1), (40, .aload_n 0, 1), (41, .getfield 130, 3), (44, .iload_n 1, 1), (45, .iconst (-1), 1), (46, .iastore, 1), (47, .iinc 1 1, 3), (50, .goto (-48), 3), (53, .iconst 1, 1), (54, .istore_n 1, 1), (55, .iload_n 1, 1)]
noncomputable def xi_361_2 : XIs := [(56, .ifCond .eq 173, 3), (59, .iconst 0, 1), (60, .istore_n 1, 1), (61, .iconst 0, 1), (62, .istore_n 2, 1), (63, .iload_n 2, 1), (64, .sipush 1024, 3), (67, .if_icmp .ge 159, 3), (70, .iload_n 2, 1), (71, .bipush 32, 2), (73, .idiv, 1), (74, .istore_n 3, 1), (75, .iload_n 2, 1), (76, .bipush 32, 2), (78, .irem, 1), (79, .istore 4, 2)]
noncomputable def xi_361_3 : XIs := [(81, .aload_n 0, 1), (82, .getfield 142, 3), (85, .iload_n 2, 1), (86, .laload, 1), (87, .ldc2_w 347, 3), (90, .lcmp, 1), (91, .ifCond .ge 129, 3), (94, .aload_n 0, 1), (95, .getfield 133, 3), (98, .iload_n 3, 1), (99, .laload, 1), (100, .ldc2_w 347, 3), (103, .lcmp, 1), (104, .ifCond .ge 116, 3), (107, .aload_n 0, 1), (108, .getfield 139, 3)]
noncomputable def xi_361_4 : XIs := [(111, .iload_n 3, 1), (112, .iaload, 1), (113, .iload 4, 2), (115, .if_icmp .eq 105, 3), (118, .aload_n 0, 1), (119, .getfield 133, 3), (122, .iload_n 3, 1), (123, .laload, 1), (124, .aload_n 0, 1), (125, .getfield 142, 3), (128, .iload_n 2, 1), (129, .laload, 1), (130, .ladd, 1), (131, .aload_n 0, 1), (132, .getfield 133, 3), (135, .iload 4, 2)]
noncomputable def xi_361_5 : XIs := [(137, .laload, 1), (138, .lcmp, 1), (139, .ifCond .ge 81, 3), (142, .aload_n 0, 1), (143, .getfield 133, 3), (146, .iload 4, 2), (148, .aload_n 0, 1), (149, .getfield 133, 3), (152, .iload_n 3, 1), (153, .laload, 1), (154, .aload_n 0, 1), (155, .getfield 142, 3), (158, .iload_n 2, 1), (159, .laload, 1), (160, .ladd, 1), (161, .lastore, 1)]
noncomputable def xi_361_6 : XIs := [(162, .aload_n 0, 1), (163, .getfield 130, 3), (166, .iload 4, 2), (168, .iload_n 3, 1), (169, .iastore, 1), (170, .iconst 1, 1), (171, .istore_n 1, 1), (172, .aload_n 0, 1), (173, .getfield 139, 3), (176, .iload 4, 2), (178, .iaload, 1), (179, .ifCond .lt 41, 3), (182, .aload_n 0, 1), (183, .getfield 133, 3), (186, .aload_n 0, 1), (187, .getfield 139, 3)]
noncomputable def xi_361_7 : XIs := [(190, .iload 4, 2), (192, .iaload, 1), (193, .aload_n 0, 1), (194, .getfield 133, 3), (197, .iload 4, 2), (199, .laload, 1), (200, .aload_n 0, 1), (201, .getfield 142, 3), (204, .bipush 32, 2), (206, .aload_n 0, 1), (207, .getfield 139, 3), (210, .iload 4, 2), (212, .iaload, 1), (213, .imul, 1), (214, .iload 4, 2), (216, .iadd, 1)]
noncomputable def xi_361_8 : XIs := [(217, .laload, 1), (218, .lsub, 1), (219, .lastore, 1), (220, .iinc 2 1, 3), (223, .goto (-160), 3), (226, .goto (-171), 3), (229, .iconst (-1), 1), (230, .istore_n 2, 1), (231, .iconst 0, 1), (232, .istore_n 3, 1), (233, .iload_n 3, 1), (234, .aload_n 0, 1), (235, .getfield 285, 3), (238, .if_icmp .ge 77, 3), (241, .aload_n 0, 1), (242, .iload_n 3, 1)]
noncomputable def xi_361_9 : XIs := [(243, .invokevirtual 553, 3), (246, .ifCond .ne 29, 3), (249, .aload_n 0, 1), (250, .getfield 139, 3), (253, .iload_n 3, 1), (254, .iaload, 1), (255, .ifCond .ge 20, 3), (258, .aload_n 0, 1), (259, .getfield 133, 3), (262, .iload_n 3, 1), (263, .laload, 1), (264, .ldc2_w 347, 3), (267, .lcmp, 1), (268, .ifCond .ge 7, 3), (271, .iconst 1, 1), (272, .goto 4, 3)]
noncomputable def xi_361_10 : XIs := [(275, .iconst 0, 1), (276, .istore 4, 2), (278, .iload 4, 2), (280, .ifCond .eq 27, 3), (283, .iload_n 2, 1), (284, .ifCond .lt 19, 3), (287, .aload_n 0, 1), (288, .getfield 133, 3), (291, .iload_n 3, 1), (292, .laload, 1), (293, .aload_n 0, 1), (294, .getfield 133, 3), (297, .iload_n 2, 1), (298, .laload, 1), (299, .lcmp, 1), (300, .ifCond .ge 7, 3)]
noncomputable def xi_361_11 : XIs := [(303, .iload_n 3, 1), (304, .goto 4, 3), (307, .iload_n 2, 1), (308, .istore_n 2, 1), (309, .iinc 3 1, 3), (312, .goto (-79), 3), (315, .iload_n 2, 1), (316, .ireturn, 1)]
set_option maxRecDepth 100000 in
theorem xi_w361 : xi_ok cX12_cheapestPair (xi_361_0 ++ (xi_361_1 ++ (xi_361_2 ++ (xi_361_3 ++ (xi_361_4 ++ (xi_361_5 ++ (xi_361_6 ++ (xi_361_7 ++ (xi_361_8 ++ (xi_361_9 ++ (xi_361_10 ++ (xi_361_11)))))))))))) = true := dl_all _ _ (by decide +kernel)
theorem xi_ok361_0 : xi_ok cX12_cheapestPair xi_361_0 = true := (xi_ap xi_w361).1
theorem xi_r361_1 : xi_ok cX12_cheapestPair (xi_361_1 ++ (xi_361_2 ++ (xi_361_3 ++ (xi_361_4 ++ (xi_361_5 ++ (xi_361_6 ++ (xi_361_7 ++ (xi_361_8 ++ (xi_361_9 ++ (xi_361_10 ++ (xi_361_11))))))))))) = true := (xi_ap xi_w361).2
theorem xi_ok361_1 : xi_ok cX12_cheapestPair xi_361_1 = true := (xi_ap xi_r361_1).1
theorem xi_r361_2 : xi_ok cX12_cheapestPair (xi_361_2 ++ (xi_361_3 ++ (xi_361_4 ++ (xi_361_5 ++ (xi_361_6 ++ (xi_361_7 ++ (xi_361_8 ++ (xi_361_9 ++ (xi_361_10 ++ (xi_361_11)))))))))) = true := (xi_ap xi_r361_1).2
theorem xi_ok361_2 : xi_ok cX12_cheapestPair xi_361_2 = true := (xi_ap xi_r361_2).1
theorem xi_r361_3 : xi_ok cX12_cheapestPair (xi_361_3 ++ (xi_361_4 ++ (xi_361_5 ++ (xi_361_6 ++ (xi_361_7 ++ (xi_361_8 ++ (xi_361_9 ++ (xi_361_10 ++ (xi_361_11))))))))) = true := (xi_ap xi_r361_2).2
theorem xi_ok361_3 : xi_ok cX12_cheapestPair xi_361_3 = true := (xi_ap xi_r361_3).1
theorem xi_r361_4 : xi_ok cX12_cheapestPair (xi_361_4 ++ (xi_361_5 ++ (xi_361_6 ++ (xi_361_7 ++ (xi_361_8 ++ (xi_361_9 ++ (xi_361_10 ++ (xi_361_11)))))))) = true := (xi_ap xi_r361_3).2
theorem xi_ok361_4 : xi_ok cX12_cheapestPair xi_361_4 = true := (xi_ap xi_r361_4).1
theorem xi_r361_5 : xi_ok cX12_cheapestPair (xi_361_5 ++ (xi_361_6 ++ (xi_361_7 ++ (xi_361_8 ++ (xi_361_9 ++ (xi_361_10 ++ (xi_361_11))))))) = true := (xi_ap xi_r361_4).2
theorem xi_ok361_5 : xi_ok cX12_cheapestPair xi_361_5 = true := (xi_ap xi_r361_5).1
theorem xi_r361_6 : xi_ok cX12_cheapestPair (xi_361_6 ++ (xi_361_7 ++ (xi_361_8 ++ (xi_361_9 ++ (xi_361_10 ++ (xi_361_11)))))) = true := (xi_ap xi_r361_5).2
theorem xi_ok361_6 : xi_ok cX12_cheapestPair xi_361_6 = true := (xi_ap xi_r361_6).1
theorem xi_r361_7 : xi_ok cX12_cheapestPair (xi_361_7 ++ (xi_361_8 ++ (xi_361_9 ++ (xi_361_10 ++ (xi_361_11))))) = true := (xi_ap xi_r361_6).2
theorem xi_ok361_7 : xi_ok cX12_cheapestPair xi_361_7 = true := (xi_ap xi_r361_7).1
theorem xi_r361_8 : xi_ok cX12_cheapestPair (xi_361_8 ++ (xi_361_9 ++ (xi_361_10 ++ (xi_361_11)))) = true := (xi_ap xi_r361_7).2
theorem xi_ok361_8 : xi_ok cX12_cheapestPair xi_361_8 = true := (xi_ap xi_r361_8).1
theorem xi_r361_9 : xi_ok cX12_cheapestPair (xi_361_9 ++ (xi_361_10 ++ (xi_361_11))) = true := (xi_ap xi_r361_8).2
theorem xi_ok361_9 : xi_ok cX12_cheapestPair xi_361_9 = true := (xi_ap xi_r361_9).1
theorem xi_r361_10 : xi_ok cX12_cheapestPair (xi_361_10 ++ (xi_361_11)) = true := (xi_ap xi_r361_9).2
theorem xi_ok361_10 : xi_ok cX12_cheapestPair xi_361_10 = true := (xi_ap xi_r361_10).1
theorem xi_r361_11 : xi_ok cX12_cheapestPair (xi_361_11) = true := (xi_ap xi_r361_10).2
theorem xi_ok361_11 : xi_ok cX12_cheapestPair xi_361_11 = true := xi_r361_11
noncomputable def xi_361 (pc : Nat) : XIs := cond (Nat.blt pc 162) (cond (Nat.blt pc 81) (cond (Nat.blt pc 28) (xi_361_0) (cond (Nat.blt pc 56) (xi_361_1) (xi_361_2))) (cond (Nat.blt pc 111) (xi_361_3) (cond (Nat.blt pc 137) (xi_361_4) (xi_361_5)))) (cond (Nat.blt pc 243) (cond (Nat.blt pc 190) (xi_361_6) (cond (Nat.blt pc 217) (xi_361_7) (xi_361_8))) (cond (Nat.blt pc 275) (xi_361_9) (cond (Nat.blt pc 303) (xi_361_10) (xi_361_11))))
theorem xi_ok361 (pc : Nat) : xi_ok cX12_cheapestPair (xi_361 pc) = true := xi_c (xi_c (xi_c (xi_ok361_0) (xi_c (xi_ok361_1) (xi_ok361_2))) (xi_c (xi_ok361_3) (xi_c (xi_ok361_4) (xi_ok361_5)))) (xi_c (xi_c (xi_ok361_6) (xi_c (xi_ok361_7) (xi_ok361_8))) (xi_c (xi_ok361_9) (xi_c (xi_ok361_10) (xi_ok361_11))))
noncomputable def xi_362_0 : XIs := [(0, .aload_n 0, 1), (1, .iload_n 1, 1), (2, .i2l, 1), (3, .lconst 0, 1), (4, .lconst 1, 1), (5, .invokestatic 308, 3), (8, .invokevirtual 334, 3), (11, .ifCond .eq 5, 3), (14, .lconst 0, 1), (15, .lreturn, 1), (16, .aload_n 0, 1), (17, .invokevirtual 559, 3), (20, .lconst 0, 1), (21, .lstore_n 2, 1), (22, .lconst 0, 1), (23, .lstore 4, 2)]
noncomputable def xi_362_1 : XIs := [(25, .iconst 0, 1), (26, .istore 6, 2), (28, .iload 6, 2), (30, .aload_n 0, 1), (31, .getfield 285, 3), (34, .if_icmp .ge 55, 3), (37, .aload_n 0, 1), (38, .iload 6, 2), (40, .invokevirtual 553, 3), (43, .ifCond .eq 40, 3), (46, .aload_n 0, 1), (47, .getfield 139, 3), (50, .iload 6, 2), (52, .iaload, 1), (53, .ifCond .lt 30, 3), (56, .lload_n 2, 1)]
noncomputable def xi_362_2 : XIs := [(57, .lconst 1, 1), (58, .ladd, 1), (59, .lstore_n 2, 1), (60, .lload 4, 2), (62, .aload_n 0, 1), (63, .getfield 142, 3), (66, .bipush 32, 2), (68, .iload 6, 2), (70, .imul, 1), (71, .aload_n 0, 1), (72, .getfield 139, 3), (75, .iload 6, 2), (77, .iaload, 1), (78, .iadd, 1), (79, .laload, 1), (80, .ladd, 1)]
noncomputable def xi_362_3 : XIs := [(81, .lstore 4, 2), (83, .iinc 6 1, 3), (86, .goto (-58), 3), (89, .iload_n 1, 1), (90, .ifCond .ne 7, 3), (93, .lload_n 2, 1), (94, .goto 5, 3), (97, .lload 4, 2), (99, .lreturn, 1)]
set_option maxRecDepth 100000 in
theorem xi_w362 : xi_ok cX12_pairing (xi_362_0 ++ (xi_362_1 ++ (xi_362_2 ++ (xi_362_3)))) = true := dl_all _ _ (by decide +kernel)
theorem xi_ok362_0 : xi_ok cX12_pairing xi_362_0 = true := (xi_ap xi_w362).1
theorem xi_r362_1 : xi_ok cX12_pairing (xi_362_1 ++ (xi_362_2 ++ (xi_362_3))) = true := (xi_ap xi_w362).2
theorem xi_ok362_1 : xi_ok cX12_pairing xi_362_1 = true := (xi_ap xi_r362_1).1
theorem xi_r362_2 : xi_ok cX12_pairing (xi_362_2 ++ (xi_362_3)) = true := (xi_ap xi_r362_1).2
theorem xi_ok362_2 : xi_ok cX12_pairing xi_362_2 = true := (xi_ap xi_r362_2).1
theorem xi_r362_3 : xi_ok cX12_pairing (xi_362_3) = true := (xi_ap xi_r362_2).2
theorem xi_ok362_3 : xi_ok cX12_pairing xi_362_3 = true := xi_r362_3
noncomputable def xi_362 (pc : Nat) : XIs := cond (Nat.blt pc 57) (cond (Nat.blt pc 25) (xi_362_0) (xi_362_1)) (cond (Nat.blt pc 81) (xi_362_2) (xi_362_3))
theorem xi_ok362 (pc : Nat) : xi_ok cX12_pairing (xi_362 pc) = true := xi_c (xi_c (xi_ok362_0) (xi_ok362_1)) (xi_c (xi_ok362_2) (xi_ok362_3))
noncomputable def xi_363_0 : XIs := [(0, .aload_n 0, 1), (1, .aload_n 0, 1), (2, .iload_n 1, 1), (3, .invokevirtual 349, 3), (6, .invokevirtual 334, 3), (9, .ifCond .eq 5, 3), (12, .lconst 0, 1), (13, .lreturn, 1), (14, .iconst 0, 1), (15, .istore_n 2, 1), (16, .iconst 0, 1), (17, .istore_n 3, 1), (18, .iload_n 3, 1), (19, .sipush 160, 3), (22, .if_icmp .ge 72, 3), (25, .aload_n 0, 1)]
noncomputable def xi_363_1 : XIs := [(26, .iload_n 3, 1), (27, .invokevirtual 340, 3), (30, .ifCond .eq 58, 3), (33, .aload_n 0, 1), (34, .getfield 145, 3), (37, .iload_n 2, 1), (38, .aload_n 0, 1), (39, .getfield 20, 3), (42, .aload_n 0, 1), (43, .getfield 288, 3), (46, .iload_n 3, 1), (47, .iadd, 1), (48, .iaload, 1), (49, .iastore, 1), (50, .aload_n 0, 1), (51, .getfield 148, 3)]
noncomputable def xi_363_2 : XIs := [(54, .iload_n 2, 1), (55, .aload_n 0, 1), (56, .getfield 23, 3), (59, .aload_n 0, 1), (60, .getfield 288, 3), (63, .iload_n 3, 1), (64, .iadd, 1), (65, .iaload, 1), (66, .iastore, 1), (67, .aload_n 0, 1), (68, .getfield 151, 3), (71, .iload_n 2, 1), (72, .aload_n 0, 1), (73, .getfield 26, 3), (76, .aload_n 0, 1), (77, .getfield 288, 3)]
noncomputable def xi_363_3 : XIs := [(80, .iload_n 3, 1), (81, .iadd, 1), (82, .iaload, 1), (83, .i2l, 1), (84, .lastore, 1), (85, .iinc 2 1, 3), (88, .iinc 3 1, 3), (91, .goto (-73), 3), (94, .aload_n 0, 1), (95, .getfield 285, 3), (98, .istore_n 3, 1), (99, .iload_n 1, 1), (100, .istore 4, 2), (102, .lconst 0, 1), (103, .lstore 5, 2), (105, .iload_n 3, 1)]
noncomputable def xi_363_4 : XIs := [(106, .iconst 1, 1), (107, .if_icmp .le 350, 3), (110, .iconst 0, 1), (111, .istore 7, 2), (113, .iload 7, 2), (115, .iload_n 3, 1), (116, .if_icmp .ge 17, 3), (119, .aload_n 0, 1), (120, .getfield 157, 3), (123, .iload 7, 2), (125, .iconst (-1), 1), (126, .iastore, 1), (127, .iinc 7 1, 3), (130, .goto (-17), 3), (133, .iconst 0, 1), (134, .istore 7, 2)]
noncomputable def xi_363_5 : XIs := [(136, .iload 7, 2), (138, .iload_n 2, 1), (139, .if_icmp .ge 110, 3), (142, .aload_n 0, 1), (143, .getfield 145, 3), (146, .iload 7, 2), (148, .iaload, 1), (149, .aload_n 0, 1), (150, .getfield 148, 3), (153, .iload 7, 2), (155, .iaload, 1), (156, .if_icmp .eq 50, 3), (159, .aload_n 0, 1), (160, .getfield 157, 3), (163, .aload_n 0, 1), (164, .getfield 148, 3)]
noncomputable def xi_363_6 : XIs := [(167, .iload 7, 2), (169, .iaload, 1), (170, .iaload, 1), (171, .ifCond .lt 31, 3), (174, .aload_n 0, 1), (175, .getfield 151, 3), (178, .iload 7, 2), (180, .laload, 1), (181, .aload_n 0, 1), (182, .getfield 151, 3), (185, .aload_n 0, 1), (186, .getfield 157, 3), (189, .aload_n 0, 1), (190, .getfield 148, 3), (193, .iload 7, 2), (195, .iaload, 1)]
noncomputable def xi_363_7 : XIs := [(196, .iaload, 1), (197, .laload, 1), (198, .lcmp, 1), (199, .ifCond .ge 7, 3), (202, .iconst 1, 1), (203, .goto 4, 3), (206, .iconst 0, 1), (207, .istore 8, 2), (209, .aload_n 0, 1), (210, .getfield 157, 3), (213, .aload_n 0, 1), (214, .getfield 148, 3), (217, .iload 7, 2), (219, .iaload, 1), (220, .iload 8, 2), (222, .ifCond .eq 8, 3)]
noncomputable def xi_363_8 : XIs := [(225, .iload 7, 2), (227, .goto 15, 3), (230, .aload_n 0, 1), (231, .getfield 157, 3), (234, .aload_n 0, 1), (235, .getfield 148, 3), (238, .iload 7, 2), (240, .iaload, 1), (241, .iaload, 1), (242, .iastore, 1), (243, .iinc 7 1, 3), (246, .goto (-110), 3), (249, .iconst 0, 1), (250, .istore 7, 2), (252, .iload 7, 2), (254, .iload_n 3, 1)]
noncomputable def xi_363_9 : XIs := [(255, .if_icmp .ge 72, 3), (258, .iload 7, 2), (260, .iload 4, 2), (262, .if_icmp .eq 17, 3), (265, .aload_n 0, 1), (266, .getfield 157, 3), (269, .iload 7, 2), (271, .iaload, 1), (272, .ifCond .ge 7, 3), (275, .ldc2_w 347, 3), (278, .lreturn, 1), (279, .aload_n 0, 1), (280, .getfield 154, 3), (283, .iload 7, 2), (285, .iload 7, 2), (287, .iload 4, 2)]
noncomputable def xi_363_10 : XIs := [(289, .if_icmp .ne 7, 3), (292, .lconst 0, 1), (293, .goto 15, 3), (296, .aload_n 0, 1), (297, .getfield 151, 3), (300, .aload_n 0, 1), (301, .getfield 157, 3), (304, .iload 7, 2), (306, .iaload, 1), (307, .laload, 1), (308, .lastore, 1), (309, .lload 5, 2), (311, .aload_n 0, 1), (312, .getfield 154, 3), (315, .iload 7, 2), (317, .laload, 1)]
noncomputable def xi_363_11 : XIs := [(318, .ladd, 1), (319, .lstore 5, 2), (321, .iinc 7 1, 3), (324, .goto (-72), 3), (327, .aload_n 0, 1), (328, .iload_n 3, 1), (329, .iload 4, 2), (331, .invokevirtual 562, 3), (334, .istore 7, 2), (336, .iload 7, 2), (338, .iload_n 3, 1), (339, .if_icmp .ne 6, 3), (342, .lload 5, 2), (344, .lreturn, 1), (345, .iconst 0, 1), (346, .istore 8, 2)]
noncomputable def xi_363_12 : XIs := [(348, .iload 8, 2), (350, .iload_n 2, 1), (351, .if_icmp .ge 91, 3), (354, .aload_n 0, 1), (355, .getfield 148, 3), (358, .iload 8, 2), (360, .iaload, 1), (361, .istore 9, 2), (363, .aload_n 0, 1), (364, .getfield 151, 3), (367, .iload 8, 2), (369, .dup2, 1), (370, .laload, 1), (371, .aload_n 0, 1), (372, .getfield 145, 3), (375, .iload 8, 2)]
noncomputable def xi_363_13 : XIs := [(377, .iaload, 1), (378, .iload 9, 2), (380, .if_icmp .eq 20, 3), (383, .iload 9, 2), (385, .iload 4, 2), (387, .if_icmp .eq 13, 3), (390, .aload_n 0, 1), (391, .getfield 154, 3), (394, .iload 9, 2), (396, .laload, 1), (397, .goto 4, 3), (400, .lconst 0, 1), (401, .lsub, 1), (402, .lastore, 1), (403, .aload_n 0, 1), (404, .getfield 145, 3)]
noncomputable def xi_363_14 : XIs := [(407, .iload 8, 2), (409, .aload_n 0, 1), (410, .getfield 160, 3), (413, .aload_n 0, 1), (414, .getfield 145, 3), (417, .iload 8, 2), (419, .iaload, 1), (420, .iaload, 1), (421, .iastore, 1), (422, .aload_n 0, 1), (423, .getfield 148, 3), (426, .iload 8, 2), (428, .aload_n 0, 1), (429, .getfield 160, 3), (432, .iload 9, 2), (434, .iaload, 1)]
noncomputable def xi_363_15 : XIs := [(435, .iastore, 1), (436, .iinc 8 1, 3), (439, .goto (-91), 3), (442, .aload_n 0, 1), (443, .getfield 160, 3), (446, .iload 4, 2), (448, .iaload, 1), (449, .istore 4, 2), (451, .iload 7, 2), (453, .istore_n 3, 1), (454, .goto (-349), 3), (457, .lload 5, 2), (459, .lreturn, 1)]
set_option maxRecDepth 100000 in
theorem xi_w363 : xi_ok cX12_tree (xi_363_0 ++ (xi_363_1 ++ (xi_363_2 ++ (xi_363_3 ++ (xi_363_4 ++ (xi_363_5 ++ (xi_363_6 ++ (xi_363_7 ++ (xi_363_8 ++ (xi_363_9 ++ (xi_363_10 ++ (xi_363_11 ++ (xi_363_12 ++ (xi_363_13 ++ (xi_363_14 ++ (xi_363_15)))))))))))))))) = true := dl_all _ _ (by decide +kernel)
theorem xi_ok363_0 : xi_ok cX12_tree xi_363_0 = true := (xi_ap xi_w363).1
theorem xi_r363_1 : xi_ok cX12_tree (xi_363_1 ++ (xi_363_2 ++ (xi_363_3 ++ (xi_363_4 ++ (xi_363_5 ++ (xi_363_6 ++ (xi_363_7 ++ (xi_363_8 ++ (xi_363_9 ++ (xi_363_10 ++ (xi_363_11 ++ (xi_363_12 ++ (xi_363_13 ++ (xi_363_14 ++ (xi_363_15))))))))))))))) = true := (xi_ap xi_w363).2
theorem xi_ok363_1 : xi_ok cX12_tree xi_363_1 = true := (xi_ap xi_r363_1).1
theorem xi_r363_2 : xi_ok cX12_tree (xi_363_2 ++ (xi_363_3 ++ (xi_363_4 ++ (xi_363_5 ++ (xi_363_6 ++ (xi_363_7 ++ (xi_363_8 ++ (xi_363_9 ++ (xi_363_10 ++ (xi_363_11 ++ (xi_363_12 ++ (xi_363_13 ++ (xi_363_14 ++ (xi_363_15)))))))))))))) = true := (xi_ap xi_r363_1).2
theorem xi_ok363_2 : xi_ok cX12_tree xi_363_2 = true := (xi_ap xi_r363_2).1
theorem xi_r363_3 : xi_ok cX12_tree (xi_363_3 ++ (xi_363_4 ++ (xi_363_5 ++ (xi_363_6 ++ (xi_363_7 ++ (xi_363_8 ++ (xi_363_9 ++ (xi_363_10 ++ (xi_363_11 ++ (xi_363_12 ++ (xi_363_13 ++ (xi_363_14 ++ (xi_363_15))))))))))))) = true := (xi_ap xi_r363_2).2
theorem xi_ok363_3 : xi_ok cX12_tree xi_363_3 = true := (xi_ap xi_r363_3).1
theorem xi_r363_4 : xi_ok cX12_tree (xi_363_4 ++ (xi_363_5 ++ (xi_363_6 ++ (xi_363_7 ++ (xi_363_8 ++ (xi_363_9 ++ (xi_363_10 ++ (xi_363_11 ++ (xi_363_12 ++ (xi_363_13 ++ (xi_363_14 ++ (xi_363_15)))))))))))) = true := (xi_ap xi_r363_3).2
theorem xi_ok363_4 : xi_ok cX12_tree xi_363_4 = true := (xi_ap xi_r363_4).1
theorem xi_r363_5 : xi_ok cX12_tree (xi_363_5 ++ (xi_363_6 ++ (xi_363_7 ++ (xi_363_8 ++ (xi_363_9 ++ (xi_363_10 ++ (xi_363_11 ++ (xi_363_12 ++ (xi_363_13 ++ (xi_363_14 ++ (xi_363_15))))))))))) = true := (xi_ap xi_r363_4).2
theorem xi_ok363_5 : xi_ok cX12_tree xi_363_5 = true := (xi_ap xi_r363_5).1
theorem xi_r363_6 : xi_ok cX12_tree (xi_363_6 ++ (xi_363_7 ++ (xi_363_8 ++ (xi_363_9 ++ (xi_363_10 ++ (xi_363_11 ++ (xi_363_12 ++ (xi_363_13 ++ (xi_363_14 ++ (xi_363_15)))))))))) = true := (xi_ap xi_r363_5).2
theorem xi_ok363_6 : xi_ok cX12_tree xi_363_6 = true := (xi_ap xi_r363_6).1
theorem xi_r363_7 : xi_ok cX12_tree (xi_363_7 ++ (xi_363_8 ++ (xi_363_9 ++ (xi_363_10 ++ (xi_363_11 ++ (xi_363_12 ++ (xi_363_13 ++ (xi_363_14 ++ (xi_363_15))))))))) = true := (xi_ap xi_r363_6).2
theorem xi_ok363_7 : xi_ok cX12_tree xi_363_7 = true := (xi_ap xi_r363_7).1
theorem xi_r363_8 : xi_ok cX12_tree (xi_363_8 ++ (xi_363_9 ++ (xi_363_10 ++ (xi_363_11 ++ (xi_363_12 ++ (xi_363_13 ++ (xi_363_14 ++ (xi_363_15)))))))) = true := (xi_ap xi_r363_7).2
theorem xi_ok363_8 : xi_ok cX12_tree xi_363_8 = true := (xi_ap xi_r363_8).1
theorem xi_r363_9 : xi_ok cX12_tree (xi_363_9 ++ (xi_363_10 ++ (xi_363_11 ++ (xi_363_12 ++ (xi_363_13 ++ (xi_363_14 ++ (xi_363_15))))))) = true := (xi_ap xi_r363_8).2
theorem xi_ok363_9 : xi_ok cX12_tree xi_363_9 = true := (xi_ap xi_r363_9).1
theorem xi_r363_10 : xi_ok cX12_tree (xi_363_10 ++ (xi_363_11 ++ (xi_363_12 ++ (xi_363_13 ++ (xi_363_14 ++ (xi_363_15)))))) = true := (xi_ap xi_r363_9).2
theorem xi_ok363_10 : xi_ok cX12_tree xi_363_10 = true := (xi_ap xi_r363_10).1
theorem xi_r363_11 : xi_ok cX12_tree (xi_363_11 ++ (xi_363_12 ++ (xi_363_13 ++ (xi_363_14 ++ (xi_363_15))))) = true := (xi_ap xi_r363_10).2
theorem xi_ok363_11 : xi_ok cX12_tree xi_363_11 = true := (xi_ap xi_r363_11).1
theorem xi_r363_12 : xi_ok cX12_tree (xi_363_12 ++ (xi_363_13 ++ (xi_363_14 ++ (xi_363_15)))) = true := (xi_ap xi_r363_11).2
theorem xi_ok363_12 : xi_ok cX12_tree xi_363_12 = true := (xi_ap xi_r363_12).1
theorem xi_r363_13 : xi_ok cX12_tree (xi_363_13 ++ (xi_363_14 ++ (xi_363_15))) = true := (xi_ap xi_r363_12).2
theorem xi_ok363_13 : xi_ok cX12_tree xi_363_13 = true := (xi_ap xi_r363_13).1
theorem xi_r363_14 : xi_ok cX12_tree (xi_363_14 ++ (xi_363_15)) = true := (xi_ap xi_r363_13).2
theorem xi_ok363_14 : xi_ok cX12_tree xi_363_14 = true := (xi_ap xi_r363_14).1
theorem xi_r363_15 : xi_ok cX12_tree (xi_363_15) = true := (xi_ap xi_r363_14).2
theorem xi_ok363_15 : xi_ok cX12_tree xi_363_15 = true := xi_r363_15
noncomputable def xi_363 (pc : Nat) : XIs := cond (Nat.blt pc 225) (cond (Nat.blt pc 106) (cond (Nat.blt pc 54) (cond (Nat.blt pc 26) (xi_363_0) (xi_363_1)) (cond (Nat.blt pc 80) (xi_363_2) (xi_363_3))) (cond (Nat.blt pc 167) (cond (Nat.blt pc 136) (xi_363_4) (xi_363_5)) (cond (Nat.blt pc 196) (xi_363_6) (xi_363_7)))) (cond (Nat.blt pc 348) (cond (Nat.blt pc 289) (cond (Nat.blt pc 255) (xi_363_8) (xi_363_9)) (cond (Nat.blt pc 318) (xi_363_10) (xi_363_11))) (cond (Nat.blt pc 407) (cond (Nat.blt pc 377) (xi_363_12) (xi_363_13)) (cond (Nat.blt pc 435) (xi_363_14) (xi_363_15))))
theorem xi_ok363 (pc : Nat) : xi_ok cX12_tree (xi_363 pc) = true := xi_c (xi_c (xi_c (xi_c (xi_ok363_0) (xi_ok363_1)) (xi_c (xi_ok363_2) (xi_ok363_3))) (xi_c (xi_c (xi_ok363_4) (xi_ok363_5)) (xi_c (xi_ok363_6) (xi_ok363_7)))) (xi_c (xi_c (xi_c (xi_ok363_8) (xi_ok363_9)) (xi_c (xi_ok363_10) (xi_ok363_11))) (xi_c (xi_c (xi_ok363_12) (xi_ok363_13)) (xi_c (xi_ok363_14) (xi_ok363_15))))
noncomputable def xi_364_0 : XIs := [(0, .iconst 0, 1), (1, .istore_n 3, 1), (2, .iload_n 3, 1), (3, .iload_n 1, 1), (4, .if_icmp .ge 23, 3), (7, .aload_n 0, 1), (8, .getfield 160, 3), (11, .iload_n 3, 1), (12, .iconst (-1), 1), (13, .iastore, 1), (14, .aload_n 0, 1), (15, .getfield 163, 3), (18, .iload_n 3, 1), (19, .iconst (-1), 1), (20, .iastore, 1), (21, .iinc 3 1, 3)]
noncomputable def xi_364_1 : XIs := [(24, .goto (-22), 3), (27, .iconst 0, 1), (28, .istore_n 3, 1), (29, .iconst 0, 1), (30, .istore 4, 2), (32, .iload 4, 2), (34, .iload_n 1, 1), (35, .if_icmp .ge 135, 3), (38, .iload 4, 2), (40, .istore 5, 2), (42, .iload 5, 2), (44, .iload_n 2, 1), (45, .if_icmp .eq 49, 3), (48, .aload_n 0, 1), (49, .getfield 163, 3), (52, .iload 5, 2)]
noncomputable def xi_364_2 : XIs := [(54, .iaload, 1), (55, .ifCond .ge 39, 3), (58, .aload_n 0, 1), (59, .getfield 160, 3), (62, .iload 5, 2), (64, .iaload, 1), (65, .ifCond .ge 29, 3), (68, .aload_n 0, 1), (69, .getfield 163, 3), (72, .iload 5, 2), (74, .iload 4, 2), (76, .iastore, 1), (77, .aload_n 0, 1), (78, .getfield 145, 3), (81, .aload_n 0, 1), (82, .getfield 157, 3)]
noncomputable def xi_364_3 : XIs := [(85, .iload 5, 2), (87, .iaload, 1), (88, .iaload, 1), (89, .istore 5, 2), (91, .goto (-49), 3), (94, .iload 5, 2), (96, .iload_n 2, 1), (97, .if_icmp .eq 67, 3), (100, .aload_n 0, 1), (101, .getfield 160, 3), (104, .iload 5, 2), (106, .iaload, 1), (107, .ifCond .ge 57, 3), (110, .aload_n 0, 1), (111, .getfield 163, 3), (114, .iload 5, 2)]
noncomputable def xi_364_4 : XIs := [(116, .iaload, 1), (117, .iload 4, 2), (119, .if_icmp .ne 45, 3), (122, .iload 5, 2), (124, .istore 6, 2), (126, .aload_n 0, 1), (127, .getfield 160, 3), (130, .iload 6, 2), (132, .iaload, 1), (133, .ifCond .ge 28, 3), (136, .aload_n 0, 1), (137, .getfield 160, 3), (140, .iload 6, 2), (142, .iload_n 3, 1), (143, .iastore, 1), (144, .aload_n 0, 1)]
noncomputable def xi_364_5 : XIs := [(145, .getfield 145, 3), (148, .aload_n 0, 1), (149, .getfield 157, 3), (152, .iload 6, 2), (154, .iaload, 1), (155, .iaload, 1), (156, .istore 6, 2), (158, .goto (-32), 3), (161, .iinc 3 1, 3), (164, .iinc 4 1, 3), (167, .goto (-135), 3), (170, .iconst 0, 1), (171, .istore 4, 2), (173, .iload 4, 2), (175, .iload_n 1, 1), (176, .if_icmp .ge 30, 3)]
noncomputable def xi_364_6 : XIs := [(179, .aload_n 0, 1), (180, .getfield 160, 3), (183, .iload 4, 2), (185, .iaload, 1), (186, .ifCond .ge 14, 3), (189, .aload_n 0, 1), (190, .getfield 160, 3), (193, .iload 4, 2), (195, .iload_n 3, 1), (196, .iastore, 1), (197, .iinc 3 1, 3), (200, .iinc 4 1, 3), (203, .goto (-30), 3), (206, .iload_n 3, 1), (207, .ireturn, 1)]
set_option maxRecDepth 100000 in
theorem xi_w364 : xi_ok cX12_rings (xi_364_0 ++ (xi_364_1 ++ (xi_364_2 ++ (xi_364_3 ++ (xi_364_4 ++ (xi_364_5 ++ (xi_364_6))))))) = true := dl_all _ _ (by decide +kernel)
theorem xi_ok364_0 : xi_ok cX12_rings xi_364_0 = true := (xi_ap xi_w364).1
theorem xi_r364_1 : xi_ok cX12_rings (xi_364_1 ++ (xi_364_2 ++ (xi_364_3 ++ (xi_364_4 ++ (xi_364_5 ++ (xi_364_6)))))) = true := (xi_ap xi_w364).2
theorem xi_ok364_1 : xi_ok cX12_rings xi_364_1 = true := (xi_ap xi_r364_1).1
theorem xi_r364_2 : xi_ok cX12_rings (xi_364_2 ++ (xi_364_3 ++ (xi_364_4 ++ (xi_364_5 ++ (xi_364_6))))) = true := (xi_ap xi_r364_1).2
theorem xi_ok364_2 : xi_ok cX12_rings xi_364_2 = true := (xi_ap xi_r364_2).1
theorem xi_r364_3 : xi_ok cX12_rings (xi_364_3 ++ (xi_364_4 ++ (xi_364_5 ++ (xi_364_6)))) = true := (xi_ap xi_r364_2).2
theorem xi_ok364_3 : xi_ok cX12_rings xi_364_3 = true := (xi_ap xi_r364_3).1
theorem xi_r364_4 : xi_ok cX12_rings (xi_364_4 ++ (xi_364_5 ++ (xi_364_6))) = true := (xi_ap xi_r364_3).2
theorem xi_ok364_4 : xi_ok cX12_rings xi_364_4 = true := (xi_ap xi_r364_4).1
theorem xi_r364_5 : xi_ok cX12_rings (xi_364_5 ++ (xi_364_6)) = true := (xi_ap xi_r364_4).2
theorem xi_ok364_5 : xi_ok cX12_rings xi_364_5 = true := (xi_ap xi_r364_5).1
theorem xi_r364_6 : xi_ok cX12_rings (xi_364_6) = true := (xi_ap xi_r364_5).2
theorem xi_ok364_6 : xi_ok cX12_rings xi_364_6 = true := xi_r364_6
noncomputable def xi_364 (pc : Nat) : XIs := cond (Nat.blt pc 85) (cond (Nat.blt pc 24) (xi_364_0) (cond (Nat.blt pc 54) (xi_364_1) (xi_364_2))) (cond (Nat.blt pc 145) (cond (Nat.blt pc 116) (xi_364_3) (xi_364_4)) (cond (Nat.blt pc 179) (xi_364_5) (xi_364_6)))
theorem xi_ok364 (pc : Nat) : xi_ok cX12_rings (xi_364 pc) = true := xi_c (xi_c (xi_ok364_0) (xi_c (xi_ok364_1) (xi_ok364_2))) (xi_c (xi_c (xi_ok364_3) (xi_ok364_4)) (xi_c (xi_ok364_5) (xi_ok364_6)))
noncomputable def xi_365_0 : XIs := [(0, .aload_n 0, 1), (1, .aload_n 0, 1), (2, .iload_n 1, 1), (3, .invokevirtual 476, 3), (6, .invokevirtual 334, 3), (9, .ifCond .eq 5, 3), (12, .iconst 0, 1), (13, .ireturn, 1), (14, .aload_n 0, 1), (15, .iload_n 1, 1), (16, .invokevirtual 340, 3), (19, .ifCond .ne 5, 3), (22, .iconst 0, 1), (23, .ireturn, 1), (24, .iconst 0, 1), (25, .istore_n 2, 1)]
noncomputable def xi_365_1 : XIs := [(26, .iload_n 2, 1), (27, .aload_n 0, 1), (28, .getfield 285, 3), (31, .if_icmp .ge 16, 3), (34, .aload_n 0, 1), (35, .getfield 166, 3), (38, .iload_n 2, 1), (39, .iload_n 2, 1), (40, .iastore, 1), (41, .iinc 2 1, 3), (44, .goto (-18), 3), (47, .aload_n 0, 1), (48, .aload_n 0, 1), (49, .getfield 288, 3), (52, .iload_n 1, 1), (53, .iadd, 1)]
noncomputable def xi_365_2 : XIs := [(54, .iload_n 1, 1), (55, .invokevirtual 565, 3), (58, .lstore_n 2, 1), (59, .iconst 0, 1), (60, .istore 4, 2), (62, .iload 4, 2), (64, .aload_n 0, 1), (65, .getfield 285, 3), (68, .if_icmp .ge 145, 3), (71, .iconst 0, 1), (72, .istore 5, 2), (74, .iload 5, 2), (76, .sipush 160, 3), (79, .if_icmp .ge 128, 3), (82, .aload_n 0, 1), (83, .iload 5, 2)]
noncomputable def xi_365_3 : XIs := [(85, .invokevirtual 340, 3), (88, .ifCond .eq 113, 3), (91, .aload_n 0, 1), (92, .aload_n 0, 1), (93, .getfield 288, 3), (96, .iload 5, 2), (98, .iadd, 1), (99, .iload 5, 2), (101, .invokevirtual 565, 3), (104, .lload_n 2, 1), (105, .lcmp, 1), (106, .ifCond .ge 95, 3), (109, .aload_n 0, 1), (110, .getfield 166, 3), (113, .aload_n 0, 1), (114, .getfield 20, 3)]
noncomputable def xi_365_4 : XIs := [(117, .aload_n 0, 1), (118, .getfield 288, 3), (121, .iload 5, 2), (123, .iadd, 1), (124, .iaload, 1), (125, .iaload, 1), (126, .istore 6, 2), (128, .aload_n 0, 1), (129, .getfield 166, 3), (132, .aload_n 0, 1), (133, .getfield 23, 3), (136, .aload_n 0, 1), (137, .getfield 288, 3), (140, .iload 5, 2), (142, .iadd, 1), (143, .iaload, 1)]
noncomputable def xi_365_5 : XIs := [(144, .iaload, 1), (145, .istore 7, 2), (147, .iload 6, 2), (149, .iload 7, 2), (151, .if_icmp .ge 8, 3), (154, .iload 6, 2), (156, .goto 5, 3), (159, .iload 7, 2), (161, .istore 8, 2), (163, .aload_n 0, 1), (164, .getfield 166, 3), (167, .aload_n 0, 1), (168, .getfield 20, 3), (171, .aload_n 0, 1), (172, .getfield 288, 3), (175, .iload 5, 2)]
noncomputable def xi_365_6 : XIs := [(177, .iadd, 1), (178, .iaload, 1), (179, .iload 8, 2), (181, .iastore, 1), (182, .aload_n 0, 1), (183, .getfield 166, 3), (186, .aload_n 0, 1), (187, .getfield 23, 3), (190, .aload_n 0, 1), (191, .getfield 288, 3), (194, .iload 5, 2), (196, .iadd, 1), (197, .iaload, 1), (198, .iload 8, 2), (200, .iastore, 1), (201, .iinc 5 1, 3)]
noncomputable def xi_365_7 : XIs := [(204, .goto (-130), 3), (207, .iinc 4 1, 3), (210, .goto (-148), 3), (213, .aload_n 0, 1), (214, .getfield 166, 3), (217, .aload_n 0, 1), (218, .getfield 20, 3), (221, .aload_n 0, 1), (222, .getfield 288, 3), (225, .iload_n 1, 1), (226, .iadd, 1), (227, .iaload, 1), (228, .iaload, 1), (229, .aload_n 0, 1), (230, .getfield 166, 3), (233, .aload_n 0, 1)]
noncomputable def xi_365_8 : XIs := [(234, .getfield 23, 3), (237, .aload_n 0, 1), (238, .getfield 288, 3), (241, .iload_n 1, 1), (242, .iadd, 1), (243, .iaload, 1), (244, .iaload, 1), (245, .if_icmp .eq 7, 3), (248, .iconst 1, 1), (249, .goto 4, 3), (252, .iconst 0, 1), (253, .ireturn, 1)]
set_option maxRecDepth 100000 in
theorem xi_w365 : xi_ok cX12_span (xi_365_0 ++ (xi_365_1 ++ (xi_365_2 ++ (xi_365_3 ++ (xi_365_4 ++ (xi_365_5 ++ (xi_365_6 ++ (xi_365_7 ++ (xi_365_8))))))))) = true := dl_all _ _ (by decide +kernel)
theorem xi_ok365_0 : xi_ok cX12_span xi_365_0 = true := (xi_ap xi_w365).1
theorem xi_r365_1 : xi_ok cX12_span (xi_365_1 ++ (xi_365_2 ++ (xi_365_3 ++ (xi_365_4 ++ (xi_365_5 ++ (xi_365_6 ++ (xi_365_7 ++ (xi_365_8)))))))) = true := (xi_ap xi_w365).2
theorem xi_ok365_1 : xi_ok cX12_span xi_365_1 = true := (xi_ap xi_r365_1).1
theorem xi_r365_2 : xi_ok cX12_span (xi_365_2 ++ (xi_365_3 ++ (xi_365_4 ++ (xi_365_5 ++ (xi_365_6 ++ (xi_365_7 ++ (xi_365_8))))))) = true := (xi_ap xi_r365_1).2
theorem xi_ok365_2 : xi_ok cX12_span xi_365_2 = true := (xi_ap xi_r365_2).1
theorem xi_r365_3 : xi_ok cX12_span (xi_365_3 ++ (xi_365_4 ++ (xi_365_5 ++ (xi_365_6 ++ (xi_365_7 ++ (xi_365_8)))))) = true := (xi_ap xi_r365_2).2
theorem xi_ok365_3 : xi_ok cX12_span xi_365_3 = true := (xi_ap xi_r365_3).1
theorem xi_r365_4 : xi_ok cX12_span (xi_365_4 ++ (xi_365_5 ++ (xi_365_6 ++ (xi_365_7 ++ (xi_365_8))))) = true := (xi_ap xi_r365_3).2
theorem xi_ok365_4 : xi_ok cX12_span xi_365_4 = true := (xi_ap xi_r365_4).1
theorem xi_r365_5 : xi_ok cX12_span (xi_365_5 ++ (xi_365_6 ++ (xi_365_7 ++ (xi_365_8)))) = true := (xi_ap xi_r365_4).2
theorem xi_ok365_5 : xi_ok cX12_span xi_365_5 = true := (xi_ap xi_r365_5).1
theorem xi_r365_6 : xi_ok cX12_span (xi_365_6 ++ (xi_365_7 ++ (xi_365_8))) = true := (xi_ap xi_r365_5).2
theorem xi_ok365_6 : xi_ok cX12_span xi_365_6 = true := (xi_ap xi_r365_6).1
theorem xi_r365_7 : xi_ok cX12_span (xi_365_7 ++ (xi_365_8)) = true := (xi_ap xi_r365_6).2
theorem xi_ok365_7 : xi_ok cX12_span xi_365_7 = true := (xi_ap xi_r365_7).1
theorem xi_r365_8 : xi_ok cX12_span (xi_365_8) = true := (xi_ap xi_r365_7).2
theorem xi_ok365_8 : xi_ok cX12_span xi_365_8 = true := xi_r365_8
noncomputable def xi_365 (pc : Nat) : XIs := cond (Nat.blt pc 117) (cond (Nat.blt pc 54) (cond (Nat.blt pc 26) (xi_365_0) (xi_365_1)) (cond (Nat.blt pc 85) (xi_365_2) (xi_365_3))) (cond (Nat.blt pc 177) (cond (Nat.blt pc 144) (xi_365_4) (xi_365_5)) (cond (Nat.blt pc 204) (xi_365_6) (cond (Nat.blt pc 234) (xi_365_7) (xi_365_8))))
theorem xi_ok365 (pc : Nat) : xi_ok cX12_span (xi_365 pc) = true := xi_c (xi_c (xi_c (xi_ok365_0) (xi_ok365_1)) (xi_c (xi_ok365_2) (xi_ok365_3))) (xi_c (xi_c (xi_ok365_4) (xi_ok365_5)) (xi_c (xi_ok365_6) (xi_c (xi_ok365_7) (xi_ok365_8))))
noncomputable def xi_366_0 : XIs := [(0, .ldc2_w 568, 3), (3, .aload_n 0, 1), (4, .getfield 26, 3), (7, .iload_n 1, 1), (8, .iaload, 1), (9, .i2l, 1), (10, .ldc2_w 306, 3), (13, .ladd, 1), (14, .lmul, 1), (15, .iload_n 2, 1), (16, .i2l, 1), (17, .ladd, 1), (18, .lreturn, 1)]
set_option maxRecDepth 100000 in
theorem xi_w366 : xi_ok cX12_orderOf (xi_366_0) = true := dl_all _ _ (by decide +kernel)
theorem xi_ok366_0 : xi_ok cX12_orderOf xi_366_0 = true := xi_w366
noncomputable def xi_366 (pc : Nat) : XIs := xi_366_0
theorem xi_ok366 (pc : Nat) : xi_ok cX12_orderOf (xi_366 pc) = true := xi_ok366_0
noncomputable def xi_367_0 : XIs := [(0, .lconst 1, 1), (1, .lstore 4, 2), (3, .lload_n 0, 1), (4, .lstore 6, 2), (6, .lload_n 2, 1), (7, .lstore 8, 2), (9, .lload 8, 2), (11, .lconst 0, 1), (12, .lcmp, 1), (13, .ifCond .le 52, 3), (16, .lload 8, 2), (18, .ldc2_w 570, 3), (21, .lrem, 1), (22, .lconst 1, 1), (23, .lcmp, 1), (24, .ifCond .ne 15, 3)]
noncomputable def xi_367_1 : XIs := [(27, .lload 4, 2), (29, .lload 6, 2), (31, .lmul, 1), (32, .ldc2_w 572, 3), (35, .lrem, 1), (36, .goto 5, 3), (39, .lload 4, 2), (41, .lstore 4, 2), (43, .lload 6, 2), (45, .lload 6, 2), (47, .lmul, 1), (48, .ldc2_w 572, 3), (51, .lrem, 1), (52, .lstore 6, 2), (54, .lload 8, 2), (56, .ldc2_w 570, 3)]
noncomputable def xi_367_2 : XIs := [(59, .ldiv, 1), (60, .lstore 8, 2), (62, .goto (-53), 3), (65, .lload 4, 2), (67, .lreturn, 1)]
set_option maxRecDepth 100000 in
theorem xi_w367 : xi_ok cX12_power (xi_367_0 ++ (xi_367_1 ++ (xi_367_2))) = true := dl_all _ _ (by decide +kernel)
theorem xi_ok367_0 : xi_ok cX12_power xi_367_0 = true := (xi_ap xi_w367).1
theorem xi_r367_1 : xi_ok cX12_power (xi_367_1 ++ (xi_367_2)) = true := (xi_ap xi_w367).2
theorem xi_ok367_1 : xi_ok cX12_power xi_367_1 = true := (xi_ap xi_r367_1).1
theorem xi_r367_2 : xi_ok cX12_power (xi_367_2) = true := (xi_ap xi_r367_1).2
theorem xi_ok367_2 : xi_ok cX12_power xi_367_2 = true := xi_r367_2
noncomputable def xi_367 (pc : Nat) : XIs := cond (Nat.blt pc 27) (xi_367_0) (cond (Nat.blt pc 59) (xi_367_1) (xi_367_2))
theorem xi_ok367 (pc : Nat) : xi_ok cX12_power (xi_367 pc) = true := xi_c (xi_ok367_0) (xi_c (xi_ok367_1) (xi_ok367_2))
noncomputable def xi_368_0 : XIs := [(0, .aload_n 0, 1), (1, .iconst 0, 1), (2, .putfield 278, 3), (5, .aload_n 0, 1), (6, .getfield 285, 3), (9, .ifCond .ne 5, 3), (12, .iconst 0, 1), (13, .ireturn, 1), (14, .iconst 0, 1), (15, .istore_n 1, 1), (16, .iload_n 1, 1), (17, .sipush 1024, 3), (20, .if_icmp .ge 16, 3), (23, .aload_n 0, 1), (24, .getfield 169, 3), (27, .iload_n 1, 1)]
noncomputable def xi_368_1 : XIs := [(28, .lconst 0, 1), (29, .lastore, 1), (30, .iinc 1 1, 3), (33, .goto (-17), 3), (36, .iconst 0, 1), (37, .istore_n 1, 1), (38, .iload_n 1, 1), (39, .sipush 160, 3), (42, .if_icmp .ge 101, 3), (45, .aload_n 0, 1), (46, .iload_n 1, 1), (47, .invokevirtual 340, 3), (50, .ifCond .eq 87, 3), (53, .aload_n 0, 1), (54, .getfield 20, 3), (57, .aload_n 0, 1)]
noncomputable def xi_368_2 : XIs := [(58, .getfield 288, 3), (61, .iload_n 1, 1), (62, .iadd, 1), (63, .iaload, 1), (64, .istore_n 2, 1), (65, .aload_n 0, 1), (66, .getfield 23, 3), (69, .aload_n 0, 1), (70, .getfield 288, 3), (73, .iload_n 1, 1), (74, .iadd, 1), (75, .iaload, 1), (76, .istore_n 3, 1), (77, .aload_n 0, 1), (78, .getfield 169, 3), (81, .bipush 33, 2)]
noncomputable def xi_368_3 : XIs := [(83, .iload_n 2, 1), (84, .imul, 1), (85, .dup2, 1), (86, .laload, 1), (87, .lconst 1, 1), (88, .ladd, 1), (89, .lastore, 1), (90, .aload_n 0, 1), (91, .getfield 169, 3), (94, .bipush 33, 2), (96, .iload_n 3, 1), (97, .imul, 1), (98, .dup2, 1), (99, .laload, 1), (100, .lconst 1, 1), (101, .ladd, 1)]
noncomputable def xi_368_4 : XIs := [(102, .lastore, 1), (103, .aload_n 0, 1), (104, .getfield 169, 3), (107, .bipush 32, 2), (109, .iload_n 2, 1), (110, .imul, 1), (111, .iload_n 3, 1), (112, .iadd, 1), (113, .dup2, 1), (114, .laload, 1), (115, .ldc2_w 574, 3), (118, .ladd, 1), (119, .lastore, 1), (120, .aload_n 0, 1), (121, .getfield 169, 3), (124, .bipush 32, 2)]
noncomputable def xi_368_5 : XIs := [(126, .iload_n 3, 1), (127, .imul, 1), (128, .iload_n 2, 1), (129, .iadd, 1), (130, .dup2, 1), (131, .laload, 1), (132, .ldc2_w 574, 3), (135, .ladd, 1), (136, .lastore, 1), (137, .iinc 1 1, 3), (140, .goto (-102), 3), (143, .iconst 0, 1), (144, .istore_n 1, 1), (145, .iload_n 1, 1), (146, .sipush 1024, 3), (149, .if_icmp .ge 21, 3)]
noncomputable def xi_368_6 : XIs := [(152, .aload_n 0, 1), (153, .getfield 169, 3), (156, .iload_n 1, 1), (157, .dup2, 1), (158, .laload, 1), (159, .ldc2_w 572, 3), (162, .lrem, 1), (163, .lastore, 1), (164, .iinc 1 1, 3), (167, .goto (-22), 3), (170, .lconst 1, 1), (171, .lstore_n 1, 1), (172, .iconst 1, 1), (173, .istore_n 3, 1), (174, .iload_n 3, 1), (175, .aload_n 0, 1)]
noncomputable def xi_368_7 : XIs := [(176, .getfield 285, 3), (179, .if_icmp .ge 295, 3), (182, .iload_n 3, 1), (183, .istore 4, 2), (185, .iload 4, 2), (187, .aload_n 0, 1), (188, .getfield 285, 3), (191, .if_icmp .ge 26, 3), (194, .aload_n 0, 1), (195, .getfield 169, 3), (198, .bipush 32, 2), (200, .iload 4, 2), (202, .imul, 1), (203, .iload_n 3, 1), (204, .iadd, 1), (205, .laload, 1)]
noncomputable def xi_368_8 : XIs := [(206, .lconst 0, 1), (207, .lcmp, 1), (208, .ifCond .ne 9, 3), (211, .iinc 4 1, 3), (214, .goto (-29), 3), (217, .iload 4, 2), (219, .aload_n 0, 1), (220, .getfield 285, 3), (223, .if_icmp .ne 5, 3), (226, .iconst 0, 1), (227, .ireturn, 1), (228, .iconst 0, 1), (229, .istore 5, 2), (231, .iload 5, 2), (233, .aload_n 0, 1), (234, .getfield 285, 3)]
noncomputable def xi_368_9 : XIs := [(237, .if_icmp .ge 69, 3), (240, .iload 4, 2), (242, .iload_n 3, 1), (243, .if_icmp .eq 63, 3), (246, .aload_n 0, 1), (247, .getfield 169, 3), (250, .bipush 32, 2), (252, .iload 4, 2), (254, .imul, 1), (255, .iload 5, 2), (257, .iadd, 1), (258, .laload, 1), (259, .lstore 6, 2), (261, .aload_n 0, 1), (262, .getfield 169, 3), (265, .bipush 32, 2)]
noncomputable def xi_368_10 : XIs := [(267, .iload 4, 2), (269, .imul, 1), (270, .iload 5, 2), (272, .iadd, 1), (273, .aload_n 0, 1), (274, .getfield 169, 3), (277, .bipush 32, 2), (279, .iload_n 3, 1), (280, .imul, 1), (281, .iload 5, 2), (283, .iadd, 1), (284, .laload, 1), (285, .lastore, 1), (286, .aload_n 0, 1), (287, .getfield 169, 3), (290, .bipush 32, 2)]
noncomputable def xi_368_11 : XIs := [(292, .iload_n 3, 1), (293, .imul, 1), (294, .iload 5, 2), (296, .iadd, 1), (297, .lload 6, 2), (299, .lastore, 1), (300, .iinc 5 1, 3), (303, .goto (-72), 3), (306, .iload 4, 2), (308, .iload_n 3, 1), (309, .if_icmp .eq 15, 3), (312, .ldc2_w 572, 3), (315, .lload_n 1, 1), (316, .lsub, 1), (317, .ldc2_w 572, 3), (320, .lrem, 1)]
noncomputable def xi_368_12 : XIs := [(321, .goto 4, 3), (324, .lload_n 1, 1), (325, .lstore_n 1, 1), (326, .lload_n 1, 1), (327, .aload_n 0, 1), (328, .getfield 169, 3), (331, .bipush 33, 2), (333, .iload_n 3, 1), (334, .imul, 1), (335, .laload, 1), (336, .lmul, 1), (337, .ldc2_w 572, 3), (340, .lrem, 1), (341, .lstore_n 1, 1), (342, .aload_n 0, 1), (343, .getfield 169, 3)]
noncomputable def xi_368_13 : XIs := [(346, .bipush 33, 2), (348, .iload_n 3, 1), (349, .imul, 1), (350, .laload, 1), (351, .ldc2_w 576, 3), (354, .invokestatic 578, 3), (357, .lstore 5, 2), (359, .iload_n 3, 1), (360, .iconst 1, 1), (361, .iadd, 1), (362, .istore 7, 2), (364, .iload 7, 2), (366, .aload_n 0, 1), (367, .getfield 285, 3), (370, .if_icmp .ge 98, 3), (373, .aload_n 0, 1)]
noncomputable def xi_368_14 : XIs := [(374, .getfield 169, 3), (377, .bipush 32, 2), (379, .iload 7, 2), (381, .imul, 1), (382, .iload_n 3, 1), (383, .iadd, 1), (384, .laload, 1), (385, .lload 5, 2), (387, .lmul, 1), (388, .ldc2_w 572, 3), (391, .lrem, 1), (392, .lstore 8, 2), (394, .iload_n 3, 1), (395, .istore 10, 2), (397, .iload 10, 2), (399, .aload_n 0, 1)]
noncomputable def xi_368_15 : XIs := [(400, .getfield 285, 3), (403, .if_icmp .ge 59, 3), (406, .aload_n 0, 1), (407, .getfield 169, 3), (410, .bipush 32, 2), (412, .iload 7, 2), (414, .imul, 1), (415, .iload 10, 2), (417, .iadd, 1), (418, .aload_n 0, 1), (419, .getfield 169, 3), (422, .bipush 32, 2), (424, .iload 7, 2), (426, .imul, 1), (427, .iload 10, 2), (429, .iadd, 1)]
noncomputable def xi_368_16 : XIs := [(430, .laload, 1), (431, .ldc2_w 572, 3), (434, .lload 8, 2), (436, .lsub, 1), (437, .aload_n 0, 1), (438, .getfield 169, 3), (441, .bipush 32, 2), (443, .iload_n 3, 1), (444, .imul, 1), (445, .iload 10, 2), (447, .iadd, 1), (448, .laload, 1), (449, .lmul, 1), (450, .ladd, 1), (451, .ldc2_w 572, 3), (454, .lrem, 1)]
noncomputable def xi_368_17 : XIs := [(455, .lastore, 1), (456, .iinc 10 1, 3), (459, .goto (-62), 3), (462, .iinc 7 1, 3), (465, .goto (-101), 3), (468, .iinc 3 1, 3), (471, .goto (-297), 3), (474, .lload_n 1, 1), (475, .l2i, 1), (476, .ireturn, 1)]
set_option maxRecDepth 100000 in
theorem xi_w368 : xi_ok cX12_trees (xi_368_0 ++ (xi_368_1 ++ (xi_368_2 ++ (xi_368_3 ++ (xi_368_4 ++ (xi_368_5 ++ (xi_368_6 ++ (xi_368_7 ++ (xi_368_8 ++ (xi_368_9 ++ (xi_368_10 ++ (xi_368_11 ++ (xi_368_12 ++ (xi_368_13 ++ (xi_368_14 ++ (xi_368_15 ++ (xi_368_16 ++ (xi_368_17)))))))))))))))))) = true := dl_all _ _ (by decide +kernel)
theorem xi_ok368_0 : xi_ok cX12_trees xi_368_0 = true := (xi_ap xi_w368).1
theorem xi_r368_1 : xi_ok cX12_trees (xi_368_1 ++ (xi_368_2 ++ (xi_368_3 ++ (xi_368_4 ++ (xi_368_5 ++ (xi_368_6 ++ (xi_368_7 ++ (xi_368_8 ++ (xi_368_9 ++ (xi_368_10 ++ (xi_368_11 ++ (xi_368_12 ++ (xi_368_13 ++ (xi_368_14 ++ (xi_368_15 ++ (xi_368_16 ++ (xi_368_17))))))))))))))))) = true := (xi_ap xi_w368).2
theorem xi_ok368_1 : xi_ok cX12_trees xi_368_1 = true := (xi_ap xi_r368_1).1
theorem xi_r368_2 : xi_ok cX12_trees (xi_368_2 ++ (xi_368_3 ++ (xi_368_4 ++ (xi_368_5 ++ (xi_368_6 ++ (xi_368_7 ++ (xi_368_8 ++ (xi_368_9 ++ (xi_368_10 ++ (xi_368_11 ++ (xi_368_12 ++ (xi_368_13 ++ (xi_368_14 ++ (xi_368_15 ++ (xi_368_16 ++ (xi_368_17)))))))))))))))) = true := (xi_ap xi_r368_1).2
theorem xi_ok368_2 : xi_ok cX12_trees xi_368_2 = true := (xi_ap xi_r368_2).1
theorem xi_r368_3 : xi_ok cX12_trees (xi_368_3 ++ (xi_368_4 ++ (xi_368_5 ++ (xi_368_6 ++ (xi_368_7 ++ (xi_368_8 ++ (xi_368_9 ++ (xi_368_10 ++ (xi_368_11 ++ (xi_368_12 ++ (xi_368_13 ++ (xi_368_14 ++ (xi_368_15 ++ (xi_368_16 ++ (xi_368_17))))))))))))))) = true := (xi_ap xi_r368_2).2
theorem xi_ok368_3 : xi_ok cX12_trees xi_368_3 = true := (xi_ap xi_r368_3).1
theorem xi_r368_4 : xi_ok cX12_trees (xi_368_4 ++ (xi_368_5 ++ (xi_368_6 ++ (xi_368_7 ++ (xi_368_8 ++ (xi_368_9 ++ (xi_368_10 ++ (xi_368_11 ++ (xi_368_12 ++ (xi_368_13 ++ (xi_368_14 ++ (xi_368_15 ++ (xi_368_16 ++ (xi_368_17)))))))))))))) = true := (xi_ap xi_r368_3).2
theorem xi_ok368_4 : xi_ok cX12_trees xi_368_4 = true := (xi_ap xi_r368_4).1
theorem xi_r368_5 : xi_ok cX12_trees (xi_368_5 ++ (xi_368_6 ++ (xi_368_7 ++ (xi_368_8 ++ (xi_368_9 ++ (xi_368_10 ++ (xi_368_11 ++ (xi_368_12 ++ (xi_368_13 ++ (xi_368_14 ++ (xi_368_15 ++ (xi_368_16 ++ (xi_368_17))))))))))))) = true := (xi_ap xi_r368_4).2
theorem xi_ok368_5 : xi_ok cX12_trees xi_368_5 = true := (xi_ap xi_r368_5).1
theorem xi_r368_6 : xi_ok cX12_trees (xi_368_6 ++ (xi_368_7 ++ (xi_368_8 ++ (xi_368_9 ++ (xi_368_10 ++ (xi_368_11 ++ (xi_368_12 ++ (xi_368_13 ++ (xi_368_14 ++ (xi_368_15 ++ (xi_368_16 ++ (xi_368_17)))))))))))) = true := (xi_ap xi_r368_5).2
theorem xi_ok368_6 : xi_ok cX12_trees xi_368_6 = true := (xi_ap xi_r368_6).1
theorem xi_r368_7 : xi_ok cX12_trees (xi_368_7 ++ (xi_368_8 ++ (xi_368_9 ++ (xi_368_10 ++ (xi_368_11 ++ (xi_368_12 ++ (xi_368_13 ++ (xi_368_14 ++ (xi_368_15 ++ (xi_368_16 ++ (xi_368_17))))))))))) = true := (xi_ap xi_r368_6).2
theorem xi_ok368_7 : xi_ok cX12_trees xi_368_7 = true := (xi_ap xi_r368_7).1
theorem xi_r368_8 : xi_ok cX12_trees (xi_368_8 ++ (xi_368_9 ++ (xi_368_10 ++ (xi_368_11 ++ (xi_368_12 ++ (xi_368_13 ++ (xi_368_14 ++ (xi_368_15 ++ (xi_368_16 ++ (xi_368_17)))))))))) = true := (xi_ap xi_r368_7).2
theorem xi_ok368_8 : xi_ok cX12_trees xi_368_8 = true := (xi_ap xi_r368_8).1
theorem xi_r368_9 : xi_ok cX12_trees (xi_368_9 ++ (xi_368_10 ++ (xi_368_11 ++ (xi_368_12 ++ (xi_368_13 ++ (xi_368_14 ++ (xi_368_15 ++ (xi_368_16 ++ (xi_368_17))))))))) = true := (xi_ap xi_r368_8).2
theorem xi_ok368_9 : xi_ok cX12_trees xi_368_9 = true := (xi_ap xi_r368_9).1
theorem xi_r368_10 : xi_ok cX12_trees (xi_368_10 ++ (xi_368_11 ++ (xi_368_12 ++ (xi_368_13 ++ (xi_368_14 ++ (xi_368_15 ++ (xi_368_16 ++ (xi_368_17)))))))) = true := (xi_ap xi_r368_9).2
theorem xi_ok368_10 : xi_ok cX12_trees xi_368_10 = true := (xi_ap xi_r368_10).1
theorem xi_r368_11 : xi_ok cX12_trees (xi_368_11 ++ (xi_368_12 ++ (xi_368_13 ++ (xi_368_14 ++ (xi_368_15 ++ (xi_368_16 ++ (xi_368_17))))))) = true := (xi_ap xi_r368_10).2
theorem xi_ok368_11 : xi_ok cX12_trees xi_368_11 = true := (xi_ap xi_r368_11).1
theorem xi_r368_12 : xi_ok cX12_trees (xi_368_12 ++ (xi_368_13 ++ (xi_368_14 ++ (xi_368_15 ++ (xi_368_16 ++ (xi_368_17)))))) = true := (xi_ap xi_r368_11).2
theorem xi_ok368_12 : xi_ok cX12_trees xi_368_12 = true := (xi_ap xi_r368_12).1
theorem xi_r368_13 : xi_ok cX12_trees (xi_368_13 ++ (xi_368_14 ++ (xi_368_15 ++ (xi_368_16 ++ (xi_368_17))))) = true := (xi_ap xi_r368_12).2
theorem xi_ok368_13 : xi_ok cX12_trees xi_368_13 = true := (xi_ap xi_r368_13).1
theorem xi_r368_14 : xi_ok cX12_trees (xi_368_14 ++ (xi_368_15 ++ (xi_368_16 ++ (xi_368_17)))) = true := (xi_ap xi_r368_13).2
theorem xi_ok368_14 : xi_ok cX12_trees xi_368_14 = true := (xi_ap xi_r368_14).1
theorem xi_r368_15 : xi_ok cX12_trees (xi_368_15 ++ (xi_368_16 ++ (xi_368_17))) = true := (xi_ap xi_r368_14).2
theorem xi_ok368_15 : xi_ok cX12_trees xi_368_15 = true := (xi_ap xi_r368_15).1
theorem xi_r368_16 : xi_ok cX12_trees (xi_368_16 ++ (xi_368_17)) = true := (xi_ap xi_r368_15).2
theorem xi_ok368_16 : xi_ok cX12_trees xi_368_16 = true := (xi_ap xi_r368_16).1
theorem xi_r368_17 : xi_ok cX12_trees (xi_368_17) = true := (xi_ap xi_r368_16).2
theorem xi_ok368_17 : xi_ok cX12_trees xi_368_17 = true := xi_r368_17
noncomputable def xi_368 (pc : Nat) : XIs := cond (Nat.blt pc 237) (cond (Nat.blt pc 102) (cond (Nat.blt pc 58) (cond (Nat.blt pc 28) (xi_368_0) (xi_368_1)) (cond (Nat.blt pc 83) (xi_368_2) (xi_368_3))) (cond (Nat.blt pc 152) (cond (Nat.blt pc 126) (xi_368_4) (xi_368_5)) (cond (Nat.blt pc 176) (xi_368_6) (cond (Nat.blt pc 206) (xi_368_7) (xi_368_8))))) (cond (Nat.blt pc 346) (cond (Nat.blt pc 292) (cond (Nat.blt pc 267) (xi_368_9) (xi_368_10)) (cond (Nat.blt pc 321) (xi_368_11) (xi_368_12))) (cond (Nat.blt pc 400) (cond (Nat.blt pc 374) (xi_368_13) (xi_368_14)) (cond (Nat.blt pc 430) (xi_368_15) (cond (Nat.blt pc 455) (xi_368_16) (xi_368_17)))))
theorem xi_ok368 (pc : Nat) : xi_ok cX12_trees (xi_368 pc) = true := xi_c (xi_c (xi_c (xi_c (xi_ok368_0) (xi_ok368_1)) (xi_c (xi_ok368_2) (xi_ok368_3))) (xi_c (xi_c (xi_ok368_4) (xi_ok368_5)) (xi_c (xi_ok368_6) (xi_c (xi_ok368_7) (xi_ok368_8))))) (xi_c (xi_c (xi_c (xi_ok368_9) (xi_ok368_10)) (xi_c (xi_ok368_11) (xi_ok368_12))) (xi_c (xi_c (xi_ok368_13) (xi_ok368_14)) (xi_c (xi_ok368_15) (xi_c (xi_ok368_16) (xi_ok368_17)))))
noncomputable def xi_369_0 : XIs := [(0, .aload_n 0, 1), (1, .aload_n 0, 1), (2, .iload_n 1, 1), (3, .invokevirtual 349, 3), (6, .ifCond .eq 19, 3), (9, .iload_n 2, 1), (10, .i2l, 1), (11, .lconst 0, 1), (12, .ldc2_w 582, 3), (15, .invokestatic 308, 3), (18, .ifCond .eq 7, 3), (21, .iconst 1, 1), (22, .goto 4, 3), (25, .iconst 0, 1), (26, .invokevirtual 334, 3), (29, .ifCond .eq 5, 3)]
noncomputable def xi_369_1 : XIs := [(32, .lconst 0, 1), (33, .lreturn, 1), (34, .iconst 0, 1), (35, .istore_n 3, 1), (36, .iload_n 3, 1), (37, .aload_n 0, 1), (38, .getfield 285, 3), (41, .if_icmp .ge 25, 3), (44, .aload_n 0, 1), (45, .getfield 172, 3), (48, .iload_n 3, 1), (49, .ldc2_w 584, 3), (52, .lastore, 1), (53, .aload_n 0, 1), (54, .getfield 178, 3), (57, .iload_n 3, 1)]
noncomputable def xi_369_2 : XIs := [(58, .iconst 0, 1), (59, .iastore, 1), (60, .iinc 3 1, 3), (63, .goto (-27), 3), (66, .aload_n 0, 1), (67, .getfield 288, 3), (70, .istore_n 3, 1), (71, .iload_n 3, 1), (72, .aload_n 0, 1), (73, .getfield 288, 3), (76, .sipush 160, 3), (79, .iadd, 1), (80, .if_icmp .ge 33, 3), (83, .aload_n 0, 1), (84, .getfield 16, 3), (87, .iload_n 3, 1)]
noncomputable def xi_369_3 : XIs := [(88, .baload, 1), (89, .ifCond .eq 18, 3), (92, .aload_n 0, 1), (93, .getfield 178, 3), (96, .aload_n 0, 1), (97, .getfield 20, 3), (100, .iload_n 3, 1), (101, .iaload, 1), (102, .dup2, 1), (103, .iaload, 1), (104, .iconst 1, 1), (105, .iadd, 1), (106, .iastore, 1), (107, .iinc 3 1, 3), (110, .goto (-39), 3), (113, .iconst 0, 1)]
noncomputable def xi_369_4 : XIs := [(114, .istore_n 3, 1), (115, .iload_n 3, 1), (116, .iload_n 2, 1), (117, .if_icmp .ge 207, 3), (120, .lconst 0, 1), (121, .lstore 4, 2), (123, .iconst 0, 1), (124, .istore 6, 2), (126, .iload 6, 2), (128, .aload_n 0, 1), (129, .getfield 285, 3), (132, .if_icmp .ge 29, 3), (135, .lload 4, 2), (137, .aload_n 0, 1), (138, .getfield 172, 3), (141, .iload 6, 2)]
noncomputable def xi_369_5 : XIs := [(143, .laload, 1), (144, .ladd, 1), (145, .lstore 4, 2), (147, .aload_n 0, 1), (148, .getfield 175, 3), (151, .iload 6, 2), (153, .lconst 0, 1), (154, .lastore, 1), (155, .iinc 6 1, 3), (158, .goto (-32), 3), (161, .aload_n 0, 1), (162, .getfield 288, 3), (165, .istore 6, 2), (167, .iload 6, 2), (169, .aload_n 0, 1), (170, .getfield 288, 3)]
noncomputable def xi_369_6 : XIs := [(173, .sipush 160, 3), (176, .iadd, 1), (177, .if_icmp .ge 79, 3), (180, .aload_n 0, 1), (181, .getfield 16, 3), (184, .iload 6, 2), (186, .baload, 1), (187, .ifCond .eq 63, 3), (190, .aload_n 0, 1), (191, .getfield 172, 3), (194, .aload_n 0, 1), (195, .getfield 20, 3), (198, .iload 6, 2), (200, .iaload, 1), (201, .laload, 1), (202, .ldc2_w 586, 3)]
noncomputable def xi_369_7 : XIs := [(205, .lmul, 1), (206, .ldc2_w 588, 3), (209, .aload_n 0, 1), (210, .getfield 178, 3), (213, .aload_n 0, 1), (214, .getfield 20, 3), (217, .iload 6, 2), (219, .iaload, 1), (220, .iaload, 1), (221, .i2l, 1), (222, .lmul, 1), (223, .ldiv, 1), (224, .lstore 7, 2), (226, .aload_n 0, 1), (227, .getfield 175, 3), (230, .aload_n 0, 1)]
noncomputable def xi_369_8 : XIs := [(231, .getfield 23, 3), (234, .iload 6, 2), (236, .iaload, 1), (237, .dup2, 1), (238, .laload, 1), (239, .lload 7, 2), (241, .ladd, 1), (242, .lastore, 1), (243, .lload 4, 2), (245, .lload 7, 2), (247, .lsub, 1), (248, .lstore 4, 2), (250, .iinc 6 1, 3), (253, .goto (-86), 3), (256, .iconst 0, 1), (257, .istore 6, 2)]
noncomputable def xi_369_9 : XIs := [(259, .iload 6, 2), (261, .aload_n 0, 1), (262, .getfield 285, 3), (265, .if_icmp .ge 53, 3), (268, .aload_n 0, 1), (269, .getfield 172, 3), (272, .iload 6, 2), (274, .aload_n 0, 1), (275, .getfield 175, 3), (278, .iload 6, 2), (280, .laload, 1), (281, .lload 4, 2), (283, .aload_n 0, 1), (284, .getfield 285, 3), (287, .i2l, 1), (288, .ldiv, 1)]
noncomputable def xi_369_10 : XIs := [(289, .ladd, 1), (290, .iload 6, 2), (292, .i2l, 1), (293, .lload 4, 2), (295, .aload_n 0, 1), (296, .getfield 285, 3), (299, .i2l, 1), (300, .lrem, 1), (301, .lcmp, 1), (302, .ifCond .ge 7, 3), (305, .lconst 1, 1), (306, .goto 4, 3), (309, .lconst 0, 1), (310, .ladd, 1), (311, .lastore, 1), (312, .iinc 6 1, 3)]
noncomputable def xi_369_11 : XIs := [(315, .goto (-56), 3), (318, .iinc 3 1, 3), (321, .goto (-206), 3), (324, .aload_n 0, 1), (325, .getfield 172, 3), (328, .iload_n 1, 1), (329, .laload, 1), (330, .lreturn, 1)]
set_option maxRecDepth 100000 in
theorem xi_w369 : xi_ok cX12_rank (xi_369_0 ++ (xi_369_1 ++ (xi_369_2 ++ (xi_369_3 ++ (xi_369_4 ++ (xi_369_5 ++ (xi_369_6 ++ (xi_369_7 ++ (xi_369_8 ++ (xi_369_9 ++ (xi_369_10 ++ (xi_369_11)))))))))))) = true := dl_all _ _ (by decide +kernel)
theorem xi_ok369_0 : xi_ok cX12_rank xi_369_0 = true := (xi_ap xi_w369).1
theorem xi_r369_1 : xi_ok cX12_rank (xi_369_1 ++ (xi_369_2 ++ (xi_369_3 ++ (xi_369_4 ++ (xi_369_5 ++ (xi_369_6 ++ (xi_369_7 ++ (xi_369_8 ++ (xi_369_9 ++ (xi_369_10 ++ (xi_369_11))))))))))) = true := (xi_ap xi_w369).2
theorem xi_ok369_1 : xi_ok cX12_rank xi_369_1 = true := (xi_ap xi_r369_1).1
theorem xi_r369_2 : xi_ok cX12_rank (xi_369_2 ++ (xi_369_3 ++ (xi_369_4 ++ (xi_369_5 ++ (xi_369_6 ++ (xi_369_7 ++ (xi_369_8 ++ (xi_369_9 ++ (xi_369_10 ++ (xi_369_11)))))))))) = true := (xi_ap xi_r369_1).2
theorem xi_ok369_2 : xi_ok cX12_rank xi_369_2 = true := (xi_ap xi_r369_2).1
theorem xi_r369_3 : xi_ok cX12_rank (xi_369_3 ++ (xi_369_4 ++ (xi_369_5 ++ (xi_369_6 ++ (xi_369_7 ++ (xi_369_8 ++ (xi_369_9 ++ (xi_369_10 ++ (xi_369_11))))))))) = true := (xi_ap xi_r369_2).2
theorem xi_ok369_3 : xi_ok cX12_rank xi_369_3 = true := (xi_ap xi_r369_3).1
theorem xi_r369_4 : xi_ok cX12_rank (xi_369_4 ++ (xi_369_5 ++ (xi_369_6 ++ (xi_369_7 ++ (xi_369_8 ++ (xi_369_9 ++ (xi_369_10 ++ (xi_369_11)))))))) = true := (xi_ap xi_r369_3).2
theorem xi_ok369_4 : xi_ok cX12_rank xi_369_4 = true := (xi_ap xi_r369_4).1
theorem xi_r369_5 : xi_ok cX12_rank (xi_369_5 ++ (xi_369_6 ++ (xi_369_7 ++ (xi_369_8 ++ (xi_369_9 ++ (xi_369_10 ++ (xi_369_11))))))) = true := (xi_ap xi_r369_4).2
theorem xi_ok369_5 : xi_ok cX12_rank xi_369_5 = true := (xi_ap xi_r369_5).1
theorem xi_r369_6 : xi_ok cX12_rank (xi_369_6 ++ (xi_369_7 ++ (xi_369_8 ++ (xi_369_9 ++ (xi_369_10 ++ (xi_369_11)))))) = true := (xi_ap xi_r369_5).2
theorem xi_ok369_6 : xi_ok cX12_rank xi_369_6 = true := (xi_ap xi_r369_6).1
theorem xi_r369_7 : xi_ok cX12_rank (xi_369_7 ++ (xi_369_8 ++ (xi_369_9 ++ (xi_369_10 ++ (xi_369_11))))) = true := (xi_ap xi_r369_6).2
theorem xi_ok369_7 : xi_ok cX12_rank xi_369_7 = true := (xi_ap xi_r369_7).1
theorem xi_r369_8 : xi_ok cX12_rank (xi_369_8 ++ (xi_369_9 ++ (xi_369_10 ++ (xi_369_11)))) = true := (xi_ap xi_r369_7).2
theorem xi_ok369_8 : xi_ok cX12_rank xi_369_8 = true := (xi_ap xi_r369_8).1
theorem xi_r369_9 : xi_ok cX12_rank (xi_369_9 ++ (xi_369_10 ++ (xi_369_11))) = true := (xi_ap xi_r369_8).2
theorem xi_ok369_9 : xi_ok cX12_rank xi_369_9 = true := (xi_ap xi_r369_9).1
theorem xi_r369_10 : xi_ok cX12_rank (xi_369_10 ++ (xi_369_11)) = true := (xi_ap xi_r369_9).2
theorem xi_ok369_10 : xi_ok cX12_rank xi_369_10 = true := (xi_ap xi_r369_10).1
theorem xi_r369_11 : xi_ok cX12_rank (xi_369_11) = true := (xi_ap xi_r369_10).2
theorem xi_ok369_11 : xi_ok cX12_rank xi_369_11 = true := xi_r369_11
noncomputable def xi_369 (pc : Nat) : XIs := cond (Nat.blt pc 173) (cond (Nat.blt pc 88) (cond (Nat.blt pc 32) (xi_369_0) (cond (Nat.blt pc 58) (xi_369_1) (xi_369_2))) (cond (Nat.blt pc 114) (xi_369_3) (cond (Nat.blt pc 143) (xi_369_4) (xi_369_5)))) (cond (Nat.blt pc 259) (cond (Nat.blt pc 205) (xi_369_6) (cond (Nat.blt pc 231) (xi_369_7) (xi_369_8))) (cond (Nat.blt pc 289) (xi_369_9) (cond (Nat.blt pc 315) (xi_369_10) (xi_369_11))))
theorem xi_ok369 (pc : Nat) : xi_ok cX12_rank (xi_369 pc) = true := xi_c (xi_c (xi_c (xi_ok369_0) (xi_c (xi_ok369_1) (xi_ok369_2))) (xi_c (xi_ok369_3) (xi_c (xi_ok369_4) (xi_ok369_5)))) (xi_c (xi_c (xi_ok369_6) (xi_c (xi_ok369_7) (xi_ok369_8))) (xi_c (xi_ok369_9) (xi_c (xi_ok369_10) (xi_ok369_11))))
