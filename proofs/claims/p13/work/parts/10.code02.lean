def xi_208_5 : XIs := [(136, .ifCond .ne 42, 3), (139, .aload_n 0, 1), (140, .aload_n 1, 1), (141, .iload 9, 2), (143, .iload_n 3, 1), (144, .iconst 1, 1), (145, .iload 9, 2), (147, .ishl, 1), (148, .ior, 1), (149, .iconst 3, 1), (150, .iload 4, 2), (152, .isub, 1), (153, .invokevirtual 177, 3), (156, .ifCond .eq 22, 3), (159, .aload_n 0, 1), (160, .aload_n 1, 1)]
set_option maxRecDepth 100000 in
theorem xi_ok208_5 : xi_ok cX10_gather xi_208_5 = true := by decide +kernel
def xi_208_6 : XIs := [(161, .iload 9, 2), (163, .iload_n 3, 1), (164, .iconst 1, 1), (165, .iload 9, 2), (167, .ishl, 1), (168, .ior, 1), (169, .iload 4, 2), (171, .iconst 1, 1), (172, .iadd, 1), (173, .lload 10, 2), (175, .invokevirtual 168, 3), (178, .iinc 7 1, 3), (181, .goto (-173), 3), (184, .return_, 1)]
set_option maxRecDepth 100000 in
theorem xi_ok208_6 : xi_ok cX10_gather xi_208_6 = true := by decide +kernel
def xi_208 (pc : Nat) : XIs := cond (Nat.blt pc 82) (cond (Nat.blt pc 28) (xi_208_0) (cond (Nat.blt pc 58) (xi_208_1) (xi_208_2))) (cond (Nat.blt pc 136) (cond (Nat.blt pc 112) (xi_208_3) (xi_208_4)) (cond (Nat.blt pc 161) (xi_208_5) (xi_208_6)))
theorem xi_ok208 (pc : Nat) : xi_ok cX10_gather (xi_208 pc) = true := xi_c (xi_c (xi_ok208_0) (xi_c (xi_ok208_1) (xi_ok208_2))) (xi_c (xi_c (xi_ok208_3) (xi_ok208_4)) (xi_c (xi_ok208_5) (xi_ok208_6)))
def xi_209_0 : XIs := [(0, .aload_n 1, 1), (1, .getfield 105, 3), (4, .aload_n 0, 1), (5, .getfield 165, 3), (8, .iaload, 1), (9, .istore 5, 2), (11, .iload 4, 2), (13, .iconst 1, 1), (14, .if_icmp .lt 14, 3), (17, .iload 5, 2), (19, .iload_n 2, 1), (20, .ishr, 1), (21, .iconst 1, 1), (22, .iand, 1), (23, .ifCond .eq 5, 3), (26, .iconst 1, 1)]
set_option maxRecDepth 100000 in
theorem xi_ok209_0 : xi_ok cX10_leads xi_209_0 = true := by decide +kernel
def xi_209_1 : XIs := [(27, .ireturn, 1), (28, .aload_n 1, 1), (29, .getfield 181, 3), (32, .iload_n 2, 1), (33, .iaload, 1), (34, .iload_n 3, 1), (35, .iconst (-1), 1), (36, .ixor, 1), (37, .iand, 1), (38, .istore 6, 2), (40, .iload 4, 2), (42, .iconst 2, 1), (43, .if_icmp .lt 13, 3), (46, .iload 6, 2), (48, .iload 5, 2), (50, .iand, 1)]
set_option maxRecDepth 100000 in
theorem xi_ok209_1 : xi_ok cX10_leads xi_209_1 = true := by decide +kernel
def xi_209_2 : XIs := [(51, .ifCond .eq 5, 3), (54, .iconst 1, 1), (55, .ireturn, 1), (56, .iload 6, 2), (58, .istore 7, 2), (60, .iload 4, 2), (62, .iconst 3, 1), (63, .if_icmp .lt 42, 3), (66, .iload 7, 2), (68, .ifCond .eq 37, 3), (71, .aload_n 1, 1), (72, .getfield 181, 3), (75, .iload 7, 2), (77, .invokestatic 112, 3), (80, .iaload, 1), (81, .iload_n 3, 1)]
set_option maxRecDepth 100000 in
theorem xi_ok209_2 : xi_ok cX10_leads xi_209_2 = true := by decide +kernel
def xi_209_3 : XIs := [(82, .iconst (-1), 1), (83, .ixor, 1), (84, .iand, 1), (85, .iload 5, 2), (87, .iand, 1), (88, .ifCond .eq 5, 3), (91, .iconst 1, 1), (92, .ireturn, 1), (93, .iload 7, 2), (95, .iload 7, 2), (97, .iconst 1, 1), (98, .isub, 1), (99, .iand, 1), (100, .istore 7, 2), (102, .goto (-42), 3), (105, .iconst 0, 1)]
set_option maxRecDepth 100000 in
theorem xi_ok209_3 : xi_ok cX10_leads xi_209_3 = true := by decide +kernel
def xi_209_4 : XIs := [(106, .ireturn, 1)]
set_option maxRecDepth 100000 in
theorem xi_ok209_4 : xi_ok cX10_leads xi_209_4 = true := by decide +kernel
def xi_209 (pc : Nat) : XIs := cond (Nat.blt pc 51) (cond (Nat.blt pc 27) (xi_209_0) (xi_209_1)) (cond (Nat.blt pc 82) (xi_209_2) (cond (Nat.blt pc 106) (xi_209_3) (xi_209_4)))
theorem xi_ok209 (pc : Nat) : xi_ok cX10_leads (xi_209 pc) = true := xi_c (xi_c (xi_ok209_0) (xi_ok209_1)) (xi_c (xi_ok209_2) (xi_c (xi_ok209_3) (xi_ok209_4)))
def xi_210 (pc : Nat) : XIs := []
theorem xi_ok210 (pc : Nat) : xi_ok cX10_sortKeys (xi_210 pc) = true := rfl
def xi_211 (pc : Nat) : XIs := []
theorem xi_ok211 (pc : Nat) : xi_ok cX11_init (xi_211 pc) = true := rfl
def xi_212_0 : XIs := [(0, .iload_n 1, 1), (1, .invokestatic 90, 3), (4, .invokestatic 94, 3), (7, .aload_n 0, 1), (8, .getfield 10, 3), (11, .getfield 98, 3), (14, .getfield 101, 3), (17, .bipush 32, 2), (19, .if_icmp .ge 17, 3), (22, .aload_n 0, 1), (23, .getfield 10, 3), (26, .invokevirtual 104, 3), (29, .ifCond .ne 7, 3), (32, .iconst 1, 1), (33, .goto 4, 3), (36, .iconst 0, 1)]
set_option maxRecDepth 100000 in
theorem xi_ok212_0 : xi_ok cX11_node xi_212_0 = true := by decide +kernel
def xi_212_1 : XIs := [(37, .invokestatic 108, 3), (40, .aload_n 0, 1), (41, .getfield 10, 3), (44, .iload_n 1, 1), (45, .invokevirtual 111, 3), (48, .ireturn, 1)]
set_option maxRecDepth 100000 in
theorem xi_ok212_1 : xi_ok cX11_node xi_212_1 = true := by decide +kernel
def xi_212 (pc : Nat) : XIs := cond (Nat.blt pc 37) (xi_212_0) (xi_212_1)
theorem xi_ok212 (pc : Nat) : xi_ok cX11_node (xi_212 pc) = true := xi_c (xi_ok212_0) (xi_ok212_1)
def xi_213_0 : XIs := [(0, .aload_n 0, 1), (1, .getfield 10, 3), (4, .iload_n 1, 1), (5, .iload_n 2, 1), (6, .iload_n 3, 1), (7, .iload 4, 2), (9, .iload 5, 2), (11, .invokevirtual 115, 3), (14, .invokestatic 94, 3), (17, .aload_n 0, 1), (18, .getfield 10, 3), (21, .invokevirtual 104, 3), (24, .ifCond .ne 7, 3), (27, .iconst 1, 1), (28, .goto 4, 3), (31, .iconst 0, 1)]
set_option maxRecDepth 100000 in
theorem xi_ok213_0 : xi_ok cX11_arc xi_213_0 = true := by decide +kernel
def xi_213_1 : XIs := [(32, .invokestatic 108, 3), (35, .aload_n 0, 1), (36, .getfield 10, 3), (39, .iload_n 1, 1), (40, .iload_n 2, 1), (41, .iload_n 3, 1), (42, .iload 4, 2), (44, .iload 5, 2), (46, .invokevirtual 119, 3), (49, .ireturn, 1)]
set_option maxRecDepth 100000 in
theorem xi_ok213_1 : xi_ok cX11_arc xi_213_1 = true := by decide +kernel
def xi_213 (pc : Nat) : XIs := cond (Nat.blt pc 32) (xi_213_0) (xi_213_1)
theorem xi_ok213 (pc : Nat) : xi_ok cX11_arc (xi_213 pc) = true := xi_c (xi_ok213_0) (xi_ok213_1)
def xi_214_0 : XIs := [(0, .aload_n 0, 1), (1, .getfield 10, 3), (4, .getfield 98, 3), (7, .iload_n 1, 1), (8, .invokevirtual 123, 3), (11, .invokestatic 94, 3), (14, .aload_n 0, 1), (15, .getfield 10, 3), (18, .invokevirtual 104, 3), (21, .ifCond .ne 7, 3), (24, .iconst 1, 1), (25, .goto 4, 3), (28, .iconst 0, 1), (29, .invokestatic 108, 3), (32, .aload_n 0, 1), (33, .getfield 10, 3)]
set_option maxRecDepth 100000 in
theorem xi_ok214_0 : xi_ok cX11_take xi_214_0 = true := by decide +kernel
def xi_214_1 : XIs := [(36, .iload_n 1, 1), (37, .invokevirtual 126, 3), (40, .aload_n 0, 1), (41, .getfield 10, 3), (44, .getfield 98, 3), (47, .getfield 130, 3), (50, .ireturn, 1)]
set_option maxRecDepth 100000 in
theorem xi_ok214_1 : xi_ok cX11_take xi_214_1 = true := by decide +kernel
def xi_214 (pc : Nat) : XIs := cond (Nat.blt pc 36) (xi_214_0) (xi_214_1)
theorem xi_ok214 (pc : Nat) : xi_ok cX11_take (xi_214 pc) = true := xi_c (xi_ok214_0) (xi_ok214_1)
def xi_215_0 : XIs := [(0, .aload_n 0, 1), (1, .getfield 10, 3), (4, .getfield 98, 3), (7, .iload_n 1, 1), (8, .invokevirtual 123, 3), (11, .ifCond .eq 15, 3), (14, .iload_n 2, 1), (15, .iload_n 3, 1), (16, .invokestatic 133, 3), (19, .ifCond .eq 7, 3), (22, .iconst 1, 1), (23, .goto 4, 3), (26, .iconst 0, 1), (27, .invokestatic 94, 3), (30, .aload_n 0, 1), (31, .getfield 10, 3)]
set_option maxRecDepth 100000 in
theorem xi_ok215_0 : xi_ok cX11_set xi_215_0 = true := by decide +kernel
def xi_215_1 : XIs := [(34, .invokevirtual 104, 3), (37, .ifCond .ne 7, 3), (40, .iconst 1, 1), (41, .goto 4, 3), (44, .iconst 0, 1), (45, .invokestatic 108, 3), (48, .aload_n 0, 1), (49, .getfield 10, 3), (52, .getfield 98, 3), (55, .iload_n 1, 1), (56, .iload_n 2, 1), (57, .invokevirtual 137, 3), (60, .istore 4, 2), (62, .aload_n 0, 1), (63, .getfield 10, 3), (66, .iload_n 1, 1)]
set_option maxRecDepth 100000 in
theorem xi_ok215_1 : xi_ok cX11_set xi_215_1 = true := by decide +kernel
def xi_215_2 : XIs := [(67, .iload_n 2, 1), (68, .iload_n 3, 1), (69, .invokevirtual 141, 3), (72, .iload 4, 2), (74, .ireturn, 1)]
set_option maxRecDepth 100000 in
theorem xi_ok215_2 : xi_ok cX11_set xi_215_2 = true := by decide +kernel
def xi_215 (pc : Nat) : XIs := cond (Nat.blt pc 34) (xi_215_0) (cond (Nat.blt pc 67) (xi_215_1) (xi_215_2))
theorem xi_ok215 (pc : Nat) : xi_ok cX11_set (xi_215 pc) = true := xi_c (xi_ok215_0) (xi_c (xi_ok215_1) (xi_ok215_2))
def xi_216_0 : XIs := [(0, .aload_n 0, 1), (1, .getfield 10, 3), (4, .getfield 98, 3), (7, .iload_n 1, 1), (8, .invokevirtual 145, 3), (11, .ifCond .eq 14, 3), (14, .iload_n 2, 1), (15, .invokestatic 90, 3), (18, .ifCond .eq 7, 3), (21, .iconst 1, 1), (22, .goto 4, 3), (25, .iconst 0, 1), (26, .invokestatic 94, 3), (29, .aload_n 0, 1), (30, .getfield 10, 3), (33, .invokevirtual 104, 3)]
set_option maxRecDepth 100000 in
theorem xi_ok216_0 : xi_ok cX11_label xi_216_0 = true := by decide +kernel
def xi_216_1 : XIs := [(36, .ifCond .ne 7, 3), (39, .iconst 1, 1), (40, .goto 4, 3), (43, .iconst 0, 1), (44, .invokestatic 108, 3), (47, .aload_n 0, 1), (48, .getfield 10, 3), (51, .getfield 98, 3), (54, .getfield 148, 3), (57, .iload_n 1, 1), (58, .iaload, 1), (59, .istore_n 3, 1), (60, .aload_n 0, 1), (61, .getfield 10, 3), (64, .iload_n 1, 1), (65, .iload_n 2, 1)]
set_option maxRecDepth 100000 in
theorem xi_ok216_1 : xi_ok cX11_label xi_216_1 = true := by decide +kernel
def xi_216_2 : XIs := [(66, .invokevirtual 152, 3), (69, .iload_n 3, 1), (70, .ireturn, 1)]
set_option maxRecDepth 100000 in
theorem xi_ok216_2 : xi_ok cX11_label xi_216_2 = true := by decide +kernel
def xi_216 (pc : Nat) : XIs := cond (Nat.blt pc 36) (xi_216_0) (cond (Nat.blt pc 66) (xi_216_1) (xi_216_2))
theorem xi_ok216 (pc : Nat) : xi_ok cX11_label (xi_216 pc) = true := xi_c (xi_ok216_0) (xi_c (xi_ok216_1) (xi_ok216_2))
def xi_217_0 : XIs := [(0, .iload_n 1, 1), (1, .iconst (-1), 1), (2, .if_icmp .lt 21, 3), (5, .iload_n 1, 1), (6, .aload_n 0, 1), (7, .getfield 10, 3), (10, .getfield 98, 3), (13, .getfield 130, 3), (16, .if_icmp .gt 7, 3), (19, .iconst 1, 1), (20, .goto 4, 3), (23, .iconst 0, 1), (24, .invokestatic 94, 3), (27, .aload_n 0, 1), (28, .iload_n 1, 1), (29, .putfield 23, 3)]
set_option maxRecDepth 100000 in
theorem xi_ok217_0 : xi_ok cX11_view xi_217_0 = true := by decide +kernel
def xi_217_1 : XIs := [(32, .iload_n 1, 1), (33, .iconst (-1), 1), (34, .if_icmp .eq 15, 3), (37, .aload_n 0, 1), (38, .getfield 10, 3), (41, .aload_n 0, 1), (42, .getfield 19, 3), (45, .iload_n 1, 1), (46, .invokevirtual 156, 3), (49, .aload_n 0, 1), (50, .invokevirtual 160, 3), (53, .getfield 130, 3), (56, .ireturn, 1)]
set_option maxRecDepth 100000 in
theorem xi_ok217_1 : xi_ok cX11_view xi_217_1 = true := by decide +kernel
def xi_217 (pc : Nat) : XIs := cond (Nat.blt pc 32) (xi_217_0) (xi_217_1)
theorem xi_ok217 (pc : Nat) : xi_ok cX11_view (xi_217 pc) = true := xi_c (xi_ok217_0) (xi_ok217_1)
def xi_218_0 : XIs := [(0, .aload_n 0, 1), (1, .getfield 10, 3), (4, .getfield 98, 3), (7, .getfield 130, 3), (10, .ireturn, 1)]
set_option maxRecDepth 100000 in
theorem xi_ok218_0 : xi_ok cX11_version xi_218_0 = true := by decide +kernel
def xi_218 (pc : Nat) : XIs := xi_218_0
theorem xi_ok218 (pc : Nat) : xi_ok cX11_version (xi_218 pc) = true := xi_ok218_0
def xi_219_0 : XIs := [(0, .iload_n 1, 1), (1, .ifCond .lt 12, 3), (4, .iload_n 1, 1), (5, .iconst 3, 1), (6, .if_icmp .gt 7, 3), (9, .iconst 1, 1), (10, .goto 4, 3), (13, .iconst 0, 1), (14, .invokestatic 94, 3), (17, .aload_n 0, 1), (18, .invokevirtual 160, 3), (21, .astore_n 2, 1), (22, .iload_n 1, 1), (23, .tableswitch 40 0 2 #[25, 30, 35], 25), (48, .aload_n 2, 1), (49, .getfield 101, 3)]
set_option maxRecDepth 100000 in
theorem xi_ok219_0 : xi_ok cX11_size xi_219_0 = true := by decide +kernel
def xi_219_1 : XIs := [(52, .ireturn, 1), (53, .aload_n 2, 1), (54, .getfield 164, 3), (57, .ireturn, 1), (58, .aload_n 2, 1), (59, .invokevirtual 167, 3), (62, .ireturn, 1), (63, .aload_n 2, 1), (64, .getfield 171, 3), (67, .iconst 1, 1), (68, .isub, 1), (69, .ireturn, 1)]
set_option maxRecDepth 100000 in
theorem xi_ok219_1 : xi_ok cX11_size xi_219_1 = true := by decide +kernel
def xi_219 (pc : Nat) : XIs := cond (Nat.blt pc 52) (xi_219_0) (xi_219_1)
theorem xi_ok219 (pc : Nat) : xi_ok cX11_size (xi_219 pc) = true := xi_c (xi_ok219_0) (xi_ok219_1)
def xi_220_0 : XIs := [(0, .iload_n 1, 1), (1, .ifCond .lt 23, 3), (4, .iload_n 1, 1), (5, .sipush 160, 3), (8, .if_icmp .ge 16, 3), (11, .iload_n 2, 1), (12, .ifCond .lt 12, 3), (15, .iload_n 2, 1), (16, .iconst 4, 1), (17, .if_icmp .gt 7, 3), (20, .iconst 1, 1), (21, .goto 4, 3), (24, .iconst 0, 1), (25, .invokestatic 94, 3), (28, .aload_n 0, 1), (29, .invokevirtual 160, 3)]
set_option maxRecDepth 100000 in
theorem xi_ok220_0 : xi_ok cX11_told xi_220_0 = true := by decide +kernel
def xi_220_1 : XIs := [(32, .astore_n 3, 1), (33, .aload_n 3, 1), (34, .iload_n 1, 1), (35, .invokevirtual 123, 3), (38, .ifCond .ne 7, 3), (41, .ldc2_w 174, 3), (44, .lreturn, 1), (45, .iload_n 2, 1), (46, .ifCond .ne 11, 3), (49, .aload_n 3, 1), (50, .getfield 176, 3), (53, .iload_n 1, 1), (54, .iaload, 1), (55, .i2l, 1), (56, .lreturn, 1), (57, .iload_n 2, 1)]
set_option maxRecDepth 100000 in
theorem xi_ok220_1 : xi_ok cX11_told xi_220_1 = true := by decide +kernel
def xi_220_2 : XIs := [(58, .iconst 1, 1), (59, .if_icmp .ne 13, 3), (62, .aload_n 3, 1), (63, .getfield 179, 3), (66, .iload_n 1, 1), (67, .iaload, 1), (68, .i2l, 1), (69, .goto 12, 3), (72, .aload_n 3, 1), (73, .iload_n 1, 1), (74, .iload_n 2, 1), (75, .iconst 2, 1), (76, .isub, 1), (77, .invokevirtual 137, 3), (80, .i2l, 1), (81, .lreturn, 1)]
set_option maxRecDepth 100000 in
theorem xi_ok220_2 : xi_ok cX11_told xi_220_2 = true := by decide +kernel
def xi_220 (pc : Nat) : XIs := cond (Nat.blt pc 32) (xi_220_0) (cond (Nat.blt pc 58) (xi_220_1) (xi_220_2))
theorem xi_ok220 (pc : Nat) : xi_ok cX11_told (xi_220 pc) = true := xi_c (xi_ok220_0) (xi_c (xi_ok220_1) (xi_ok220_2))
def xi_221_0 : XIs := [(0, .aload_n 0, 1), (1, .invokevirtual 160, 3), (4, .astore_n 2, 1), (5, .aload_n 2, 1), (6, .iload_n 1, 1), (7, .invokevirtual 145, 3), (10, .invokestatic 94, 3), (13, .aload_n 2, 1), (14, .getfield 148, 3), (17, .iload_n 1, 1), (18, .iaload, 1), (19, .ireturn, 1)]
set_option maxRecDepth 100000 in
theorem xi_ok221_0 : xi_ok cX11_labelOf xi_221_0 = true := by decide +kernel
def xi_221 (pc : Nat) : XIs := xi_221_0
theorem xi_ok221 (pc : Nat) : xi_ok cX11_labelOf (xi_221 pc) = true := xi_ok221_0
def xi_222 (pc : Nat) : XIs := []
theorem xi_ok222 (pc : Nat) : xi_ok cX11_arcAt (xi_222 pc) = true := rfl
def xi_223_0 : XIs := [(0, .iload_n 1, 1), (1, .bipush 32, 2), (3, .if_icmp .lt 13, 3), (6, .iload_n 1, 1), (7, .bipush 126, 2), (9, .if_icmp .gt 7, 3), (12, .iconst 1, 1), (13, .goto 4, 3), (16, .iconst 0, 1), (17, .invokestatic 94, 3), (20, .aload_n 0, 1), (21, .getfield 30, 3), (24, .getfield 203, 3), (27, .sipush 1000, 3), (30, .if_icmp .ge 7, 3), (33, .iconst 1, 1)]
set_option maxRecDepth 100000 in
theorem xi_ok223_0 : xi_ok cX11_type xi_223_0 = true := by decide +kernel
def xi_223_1 : XIs := [(34, .goto 4, 3), (37, .iconst 0, 1), (38, .invokestatic 108, 3), (41, .aload_n 0, 1), (42, .getfield 30, 3), (45, .getfield 206, 3), (48, .aload_n 0, 1), (49, .getfield 30, 3), (52, .getfield 203, 3), (55, .iload_n 1, 1), (56, .i2c, 1), (57, .castore, 1), (58, .aload_n 0, 1), (59, .getfield 30, 3), (62, .dup, 1), (63, .getfield 203, 3)]
set_option maxRecDepth 100000 in
theorem xi_ok223_1 : xi_ok cX11_type xi_223_1 = true := by decide +kernel
def xi_223_2 : XIs := [(66, .iconst 1, 1), (67, .iadd, 1), (68, .putfield 203, 3), (71, .aload_n 0, 1), (72, .getfield 30, 3), (75, .getfield 203, 3), (78, .ireturn, 1)]
set_option maxRecDepth 100000 in
theorem xi_ok223_2 : xi_ok cX11_type xi_223_2 = true := by decide +kernel
def xi_223 (pc : Nat) : XIs := cond (Nat.blt pc 34) (xi_223_0) (cond (Nat.blt pc 66) (xi_223_1) (xi_223_2))
theorem xi_ok223 (pc : Nat) : xi_ok cX11_type (xi_223 pc) = true := xi_c (xi_ok223_0) (xi_c (xi_ok223_1) (xi_ok223_2))
def xi_224_0 : XIs := [(0, .aload_n 0, 1), (1, .getfield 30, 3), (4, .getfield 203, 3), (7, .istore_n 1, 1), (8, .aload_n 0, 1), (9, .getfield 30, 3), (12, .iconst 0, 1), (13, .putfield 203, 3), (16, .iload_n 1, 1), (17, .ireturn, 1)]
set_option maxRecDepth 100000 in
theorem xi_ok224_0 : xi_ok cX11_wipe xi_224_0 = true := by decide +kernel
def xi_224 (pc : Nat) : XIs := xi_224_0
theorem xi_ok224 (pc : Nat) : xi_ok cX11_wipe (xi_224 pc) = true := xi_ok224_0
def xi_225_0 : XIs := [(0, .aload_n 0, 1), (1, .getfield 10, 3), (4, .aload_n 0, 1), (5, .getfield 30, 3), (8, .invokevirtual 210, 3), (11, .ireturn, 1)]
set_option maxRecDepth 100000 in
theorem xi_ok225_0 : xi_ok cX11_load xi_225_0 = true := by decide +kernel
def xi_225 (pc : Nat) : XIs := xi_225_0
theorem xi_ok225 (pc : Nat) : xi_ok cX11_load (xi_225 pc) = true := xi_ok225_0
def xi_226_0 : XIs := [(0, .iload_n 1, 1), (1, .ifCond .lt 12, 3), (4, .iload_n 1, 1), (5, .iconst 1, 1), (6, .if_icmp .gt 7, 3), (9, .iconst 1, 1), (10, .goto 4, 3), (13, .iconst 0, 1), (14, .invokestatic 94, 3), (17, .iload_n 1, 1), (18, .ifCond .ne 13, 3), (21, .aload_n 0, 1), (22, .getfield 30, 3), (25, .getfield 214, 3), (28, .goto 10, 3), (31, .aload_n 0, 1)]
set_option maxRecDepth 100000 in
theorem xi_ok226_0 : xi_ok cX11_fault xi_226_0 = true := by decide +kernel
def xi_226_1 : XIs := [(32, .getfield 30, 3), (35, .getfield 217, 3), (38, .ireturn, 1)]
set_option maxRecDepth 100000 in
theorem xi_ok226_1 : xi_ok cX11_fault xi_226_1 = true := by decide +kernel
def xi_226 (pc : Nat) : XIs := cond (Nat.blt pc 32) (xi_226_0) (xi_226_1)
theorem xi_ok226 (pc : Nat) : xi_ok cX11_fault (xi_226 pc) = true := xi_c (xi_ok226_0) (xi_ok226_1)
def xi_227_0 : XIs := [(0, .aload_n 0, 1), (1, .getfield 30, 3), (4, .aload_n 0, 1), (5, .invokevirtual 160, 3), (8, .invokevirtual 220, 3), (11, .ireturn, 1)]
set_option maxRecDepth 100000 in
theorem xi_ok227_0 : xi_ok cX11_print xi_227_0 = true := by decide +kernel
def xi_227 (pc : Nat) : XIs := xi_227_0
theorem xi_ok227 (pc : Nat) : xi_ok cX11_print (xi_227 pc) = true := xi_ok227_0
def xi_228_0 : XIs := [(0, .iload_n 1, 1), (1, .ifCond .lt 18, 3), (4, .iload_n 1, 1), (5, .aload_n 0, 1), (6, .getfield 30, 3), (9, .getfield 224, 3), (12, .if_icmp .ge 7, 3), (15, .iconst 1, 1), (16, .goto 4, 3), (19, .iconst 0, 1), (20, .invokestatic 94, 3), (23, .aload_n 0, 1), (24, .getfield 30, 3), (27, .getfield 227, 3), (30, .iload_n 1, 1), (31, .caload, 1)]
set_option maxRecDepth 100000 in
theorem xi_ok228_0 : xi_ok cX11_printed xi_228_0 = true := by decide +kernel
def xi_228_1 : XIs := [(32, .ireturn, 1)]
set_option maxRecDepth 100000 in
theorem xi_ok228_1 : xi_ok cX11_printed xi_228_1 = true := by decide +kernel
def xi_228 (pc : Nat) : XIs := cond (Nat.blt pc 32) (xi_228_0) (xi_228_1)
theorem xi_ok228 (pc : Nat) : xi_ok cX11_printed (xi_228 pc) = true := xi_c (xi_ok228_0) (xi_ok228_1)
def xi_229_0 : XIs := [(0, .aload_n 0, 1), (1, .invokevirtual 160, 3), (4, .astore_n 3, 1), (5, .aload_n 3, 1), (6, .iload_n 1, 1), (7, .invokevirtual 145, 3), (10, .ifCond .eq 15, 3), (13, .aload_n 3, 1), (14, .iload_n 2, 1), (15, .invokevirtual 145, 3), (18, .ifCond .eq 7, 3), (21, .iconst 1, 1), (22, .goto 4, 3), (25, .iconst 0, 1), (26, .invokestatic 94, 3), (29, .aload_n 0, 1)]
set_option maxRecDepth 100000 in
theorem xi_ok229_0 : xi_ok cX11_distance xi_229_0 = true := by decide +kernel
def xi_229_1 : XIs := [(30, .getfield 37, 3), (33, .aload_n 3, 1), (34, .iload_n 1, 1), (35, .iload_n 2, 1), (36, .invokevirtual 230, 3), (39, .lreturn, 1)]
set_option maxRecDepth 100000 in
theorem xi_ok229_1 : xi_ok cX11_distance xi_229_1 = true := by decide +kernel
def xi_229 (pc : Nat) : XIs := cond (Nat.blt pc 30) (xi_229_0) (xi_229_1)
theorem xi_ok229 (pc : Nat) : xi_ok cX11_distance (xi_229 pc) = true := xi_c (xi_ok229_0) (xi_ok229_1)
def xi_230_0 : XIs := [(0, .aload_n 0, 1), (1, .invokevirtual 160, 3), (4, .astore 4, 2), (6, .aload 4, 2), (8, .iload_n 1, 1), (9, .invokevirtual 145, 3), (12, .ifCond .eq 20, 3), (15, .aload 4, 2), (17, .iload_n 2, 1), (18, .invokevirtual 145, 3), (21, .ifCond .eq 11, 3), (24, .iload_n 3, 1), (25, .ifCond .lt 7, 3), (28, .iconst 1, 1), (29, .goto 4, 3), (32, .iconst 0, 1)]
set_option maxRecDepth 100000 in
theorem xi_ok230_0 : xi_ok cX11_way xi_230_0 = true := by decide +kernel
def xi_230_1 : XIs := [(33, .invokestatic 94, 3), (36, .aload_n 0, 1), (37, .getfield 37, 3), (40, .aload 4, 2), (42, .iload_n 1, 1), (43, .iload_n 2, 1), (44, .iload_n 3, 1), (45, .invokevirtual 234, 3), (48, .ireturn, 1)]
set_option maxRecDepth 100000 in
theorem xi_ok230_1 : xi_ok cX11_way xi_230_1 = true := by decide +kernel
def xi_230 (pc : Nat) : XIs := cond (Nat.blt pc 33) (xi_230_0) (xi_230_1)
theorem xi_ok230 (pc : Nat) : xi_ok cX11_way (xi_230 pc) = true := xi_c (xi_ok230_0) (xi_ok230_1)
def xi_231_0 : XIs := [(0, .aload_n 0, 1), (1, .invokevirtual 160, 3), (4, .astore_n 3, 1), (5, .aload_n 3, 1), (6, .iload_n 1, 1), (7, .invokevirtual 145, 3), (10, .ifCond .eq 15, 3), (13, .aload_n 3, 1), (14, .iload_n 2, 1), (15, .invokevirtual 145, 3), (18, .ifCond .eq 7, 3), (21, .iconst 1, 1), (22, .goto 4, 3), (25, .iconst 0, 1), (26, .invokestatic 94, 3), (29, .aload_n 0, 1)]
set_option maxRecDepth 100000 in
theorem xi_ok231_0 : xi_ok cX11_width xi_231_0 = true := by decide +kernel
def xi_231_1 : XIs := [(30, .getfield 37, 3), (33, .aload_n 3, 1), (34, .iload_n 1, 1), (35, .iload_n 2, 1), (36, .invokevirtual 238, 3), (39, .ireturn, 1)]
set_option maxRecDepth 100000 in
theorem xi_ok231_1 : xi_ok cX11_width xi_231_1 = true := by decide +kernel
def xi_231 (pc : Nat) : XIs := cond (Nat.blt pc 30) (xi_231_0) (xi_231_1)
theorem xi_ok231 (pc : Nat) : xi_ok cX11_width (xi_231 pc) = true := xi_c (xi_ok231_0) (xi_ok231_1)
def xi_232_0 : XIs := [(0, .aload_n 0, 1), (1, .invokevirtual 160, 3), (4, .astore_n 3, 1), (5, .aload_n 3, 1), (6, .iload_n 1, 1), (7, .iload_n 2, 1), (8, .invokevirtual 242, 3), (11, .invokestatic 94, 3), (14, .aload_n 0, 1), (15, .getfield 37, 3), (18, .aload_n 3, 1), (19, .iload_n 1, 1), (20, .iload_n 2, 1), (21, .invokevirtual 245, 3), (24, .ireturn, 1)]
set_option maxRecDepth 100000 in
theorem xi_ok232_0 : xi_ok cX11_shorts xi_232_0 = true := by decide +kernel
def xi_232 (pc : Nat) : XIs := xi_232_0
theorem xi_ok232 (pc : Nat) : xi_ok cX11_shorts (xi_232 pc) = true := xi_ok232_0
def xi_233_0 : XIs := [(0, .aload_n 0, 1), (1, .invokevirtual 160, 3), (4, .astore 5, 2), (6, .aload 5, 2), (8, .iload_n 1, 1), (9, .iload_n 2, 1), (10, .invokevirtual 242, 3), (13, .ifCond .eq 16, 3), (16, .iload_n 3, 1), (17, .ifCond .lt 12, 3), (20, .iload 4, 2), (22, .ifCond .lt 7, 3), (25, .iconst 1, 1), (26, .goto 4, 3), (29, .iconst 0, 1), (30, .invokestatic 94, 3)]
set_option maxRecDepth 100000 in
theorem xi_ok233_0 : xi_ok cX11_shortArc xi_233_0 = true := by decide +kernel
def xi_233_1 : XIs := [(33, .aload_n 0, 1), (34, .getfield 37, 3), (37, .aload 5, 2), (39, .iload_n 1, 1), (40, .iload_n 2, 1), (41, .iload_n 3, 1), (42, .iload 4, 2), (44, .invokevirtual 248, 3), (47, .ireturn, 1)]
set_option maxRecDepth 100000 in
theorem xi_ok233_1 : xi_ok cX11_shortArc xi_233_1 = true := by decide +kernel
def xi_233 (pc : Nat) : XIs := cond (Nat.blt pc 33) (xi_233_0) (xi_233_1)
theorem xi_ok233 (pc : Nat) : xi_ok cX11_shortArc (xi_233 pc) = true := xi_c (xi_ok233_0) (xi_ok233_1)
def xi_234_0 : XIs := [(0, .aload_n 0, 1), (1, .invokevirtual 160, 3), (4, .astore_n 3, 1), (5, .iload_n 1, 1), (6, .ifCond .lt 20, 3), (9, .iload_n 1, 1), (10, .iconst 1, 1), (11, .if_icmp .gt 15, 3), (14, .aload_n 3, 1), (15, .iload_n 2, 1), (16, .invokevirtual 145, 3), (19, .ifCond .eq 7, 3), (22, .iconst 1, 1), (23, .goto 4, 3), (26, .iconst 0, 1), (27, .invokestatic 94, 3)]
set_option maxRecDepth 100000 in
theorem xi_ok234_0 : xi_ok cX11_part xi_234_0 = true := by decide +kernel
def xi_234_1 : XIs := [(30, .iload_n 1, 1), (31, .ifCond .ne 15, 3), (34, .aload_n 0, 1), (35, .getfield 44, 3), (38, .aload_n 3, 1), (39, .iload_n 2, 1), (40, .invokevirtual 252, 3), (43, .goto 12, 3), (46, .aload_n 0, 1), (47, .getfield 44, 3), (50, .aload_n 3, 1), (51, .iload_n 2, 1), (52, .invokevirtual 256, 3), (55, .ireturn, 1)]
set_option maxRecDepth 100000 in
theorem xi_ok234_1 : xi_ok cX11_part xi_234_1 = true := by decide +kernel
def xi_234 (pc : Nat) : XIs := cond (Nat.blt pc 30) (xi_234_0) (xi_234_1)
theorem xi_ok234 (pc : Nat) : xi_ok cX11_part (xi_234 pc) = true := xi_c (xi_ok234_0) (xi_ok234_1)
def xi_235_0 : XIs := [(0, .aload_n 0, 1), (1, .invokevirtual 160, 3), (4, .astore_n 2, 1), (5, .aload_n 2, 1), (6, .iload_n 1, 1), (7, .invokevirtual 123, 3), (10, .invokestatic 94, 3), (13, .aload_n 0, 1), (14, .getfield 44, 3), (17, .aload_n 2, 1), (18, .iload_n 1, 1), (19, .invokevirtual 259, 3), (22, .ireturn, 1)]
set_option maxRecDepth 100000 in
theorem xi_ok235_0 : xi_ok cX11_bridge xi_235_0 = true := by decide +kernel
def xi_235 (pc : Nat) : XIs := xi_235_0
theorem xi_ok235 (pc : Nat) : xi_ok cX11_bridge (xi_235 pc) = true := xi_ok235_0
def xi_236_0 : XIs := [(0, .aload_n 0, 1), (1, .invokevirtual 160, 3), (4, .astore_n 2, 1), (5, .aload_n 2, 1), (6, .iload_n 1, 1), (7, .invokevirtual 145, 3), (10, .invokestatic 94, 3), (13, .aload_n 0, 1), (14, .getfield 44, 3), (17, .aload_n 2, 1), (18, .iload_n 1, 1), (19, .invokevirtual 263, 3), (22, .ireturn, 1)]
set_option maxRecDepth 100000 in
theorem xi_ok236_0 : xi_ok cX11_cut xi_236_0 = true := by decide +kernel
def xi_236 (pc : Nat) : XIs := xi_236_0
theorem xi_ok236 (pc : Nat) : xi_ok cX11_cut (xi_236 pc) = true := xi_ok236_0
def xi_237_0 : XIs := [(0, .iload_n 1, 1), (1, .ifCond .lt 7, 3), (4, .iconst 1, 1), (5, .goto 4, 3), (8, .iconst 0, 1), (9, .invokestatic 94, 3), (12, .aload_n 0, 1), (13, .getfield 44, 3), (16, .aload_n 0, 1), (17, .invokevirtual 160, 3), (20, .iload_n 1, 1), (21, .invokevirtual 266, 3), (24, .ireturn, 1)]
set_option maxRecDepth 100000 in
theorem xi_ok237_0 : xi_ok cX11_order xi_237_0 = true := by decide +kernel
def xi_237 (pc : Nat) : XIs := xi_237_0
theorem xi_ok237 (pc : Nat) : xi_ok cX11_order (xi_237 pc) = true := xi_ok237_0
def xi_238_0 : XIs := [(0, .aload_n 0, 1), (1, .invokevirtual 160, 3), (4, .astore_n 2, 1), (5, .aload_n 2, 1), (6, .iload_n 1, 1), (7, .invokevirtual 145, 3), (10, .invokestatic 94, 3), (13, .aload_n 0, 1), (14, .getfield 44, 3), (17, .aload_n 2, 1), (18, .iload_n 1, 1), (19, .invokevirtual 269, 3), (22, .ireturn, 1)]
set_option maxRecDepth 100000 in
theorem xi_ok238_0 : xi_ok cX11_core xi_238_0 = true := by decide +kernel
def xi_238 (pc : Nat) : XIs := xi_238_0
theorem xi_ok238 (pc : Nat) : xi_ok cX11_core (xi_238 pc) = true := xi_ok238_0
def xi_239_0 : XIs := [(0, .iload_n 1, 1), (1, .ifCond .lt 7, 3), (4, .iconst 1, 1), (5, .goto 4, 3), (8, .iconst 0, 1), (9, .invokestatic 94, 3), (12, .aload_n 0, 1), (13, .getfield 51, 3), (16, .aload_n 0, 1), (17, .invokevirtual 160, 3), (20, .invokevirtual 272, 3), (23, .istore_n 2, 1), (24, .iload_n 1, 1), (25, .iload_n 2, 1), (26, .invokestatic 275, 3), (29, .if_icmp .lt 5, 3)]
set_option maxRecDepth 100000 in
theorem xi_ok239_0 : xi_ok cX11_clique xi_239_0 = true := by decide +kernel
def xi_239_1 : XIs := [(32, .iconst (-1), 1), (33, .ireturn, 1), (34, .iconst 0, 1), (35, .istore_n 3, 1), (36, .iload_n 3, 1), (37, .iload_n 1, 1), (38, .if_icmp .ge 15, 3), (41, .iload_n 2, 1), (42, .iload_n 2, 1), (43, .iconst 1, 1), (44, .isub, 1), (45, .iand, 1), (46, .istore_n 2, 1), (47, .iinc 3 1, 3), (50, .goto (-14), 3), (53, .iload_n 2, 1)]
set_option maxRecDepth 100000 in
theorem xi_ok239_1 : xi_ok cX11_clique xi_239_1 = true := by decide +kernel
def xi_239_2 : XIs := [(54, .invokestatic 280, 3), (57, .ireturn, 1)]
set_option maxRecDepth 100000 in
theorem xi_ok239_2 : xi_ok cX11_clique xi_239_2 = true := by decide +kernel
def xi_239 (pc : Nat) : XIs := cond (Nat.blt pc 32) (xi_239_0) (cond (Nat.blt pc 54) (xi_239_1) (xi_239_2))
theorem xi_ok239 (pc : Nat) : xi_ok cX11_clique (xi_239 pc) = true := xi_c (xi_ok239_0) (xi_c (xi_ok239_1) (xi_ok239_2))
def xi_240_0 : XIs := [(0, .aload_n 0, 1), (1, .invokevirtual 160, 3), (4, .astore_n 2, 1), (5, .aload_n 2, 1), (6, .iload_n 1, 1), (7, .invokevirtual 145, 3), (10, .invokestatic 94, 3), (13, .aload_n 0, 1), (14, .getfield 51, 3), (17, .aload_n 2, 1), (18, .iload_n 1, 1), (19, .invokevirtual 283, 3), (22, .ireturn, 1)]
set_option maxRecDepth 100000 in
theorem xi_ok240_0 : xi_ok cX11_colour xi_240_0 = true := by decide +kernel
def xi_240 (pc : Nat) : XIs := xi_240_0
theorem xi_ok240 (pc : Nat) : xi_ok cX11_colour (xi_240 pc) = true := xi_ok240_0
def xi_241_0 : XIs := [(0, .aload_n 0, 1), (1, .invokevirtual 160, 3), (4, .astore_n 3, 1), (5, .aload_n 3, 1), (6, .iload_n 1, 1), (7, .iload_n 2, 1), (8, .invokevirtual 242, 3), (11, .invokestatic 94, 3), (14, .aload_n 0, 1), (15, .getfield 58, 3), (18, .aload_n 3, 1), (19, .iload_n 1, 1), (20, .iload_n 2, 1), (21, .invokevirtual 286, 3), (24, .lreturn, 1)]
set_option maxRecDepth 100000 in
theorem xi_ok241_0 : xi_ok cX11_flow xi_241_0 = true := by decide +kernel
def xi_241 (pc : Nat) : XIs := xi_241_0
theorem xi_ok241 (pc : Nat) : xi_ok cX11_flow (xi_241 pc) = true := xi_ok241_0
def xi_242_0 : XIs := [(0, .aload_n 0, 1), (1, .invokevirtual 160, 3), (4, .astore 4, 2), (6, .aload 4, 2), (8, .iload_n 1, 1), (9, .iload_n 2, 1), (10, .invokevirtual 242, 3), (13, .ifCond .eq 16, 3), (16, .aload 4, 2), (18, .iload_n 3, 1), (19, .invokevirtual 145, 3), (22, .ifCond .eq 7, 3), (25, .iconst 1, 1), (26, .goto 4, 3), (29, .iconst 0, 1), (30, .invokestatic 94, 3)]
set_option maxRecDepth 100000 in
theorem xi_ok242_0 : xi_ok cX11_side xi_242_0 = true := by decide +kernel
def xi_242_1 : XIs := [(33, .aload_n 0, 1), (34, .getfield 58, 3), (37, .aload 4, 2), (39, .iload_n 1, 1), (40, .iload_n 2, 1), (41, .invokevirtual 286, 3), (44, .pop2, 1), (45, .aload_n 0, 1), (46, .getfield 58, 3), (49, .getfield 289, 3), (52, .iload_n 3, 1), (53, .ishr, 1), (54, .iconst 1, 1), (55, .iand, 1), (56, .ifCond .eq 7, 3), (59, .iconst 1, 1)]
set_option maxRecDepth 100000 in
theorem xi_ok242_1 : xi_ok cX11_side xi_242_1 = true := by decide +kernel
def xi_242_2 : XIs := [(60, .goto 4, 3), (63, .iconst 0, 1), (64, .ireturn, 1)]
set_option maxRecDepth 100000 in
theorem xi_ok242_2 : xi_ok cX11_side xi_242_2 = true := by decide +kernel
def xi_242 (pc : Nat) : XIs := cond (Nat.blt pc 33) (xi_242_0) (cond (Nat.blt pc 60) (xi_242_1) (xi_242_2))
theorem xi_ok242 (pc : Nat) : xi_ok cX11_side (xi_242 pc) = true := xi_c (xi_ok242_0) (xi_c (xi_ok242_1) (xi_ok242_2))
def xi_243_0 : XIs := [(0, .aload_n 0, 1), (1, .invokevirtual 160, 3), (4, .astore 4, 2), (6, .aload 4, 2), (8, .iload_n 1, 1), (9, .iload_n 2, 1), (10, .invokevirtual 242, 3), (13, .ifCond .eq 18, 3), (16, .iload_n 3, 1), (17, .ifCond .lt 14, 3), (20, .iload_n 3, 1), (21, .ldc_w 292, 3), (24, .if_icmp .gt 7, 3), (27, .iconst 1, 1), (28, .goto 4, 3), (31, .iconst 0, 1)]
set_option maxRecDepth 100000 in
theorem xi_ok243_0 : xi_ok cX11_cost xi_243_0 = true := by decide +kernel
def xi_243_1 : XIs := [(32, .invokestatic 94, 3), (35, .aload_n 0, 1), (36, .getfield 58, 3), (39, .aload 4, 2), (41, .iload_n 1, 1), (42, .iload_n 2, 1), (43, .iload_n 3, 1), (44, .invokevirtual 293, 3), (47, .lreturn, 1)]
set_option maxRecDepth 100000 in
theorem xi_ok243_1 : xi_ok cX11_cost xi_243_1 = true := by decide +kernel
def xi_243 (pc : Nat) : XIs := cond (Nat.blt pc 32) (xi_243_0) (xi_243_1)
theorem xi_ok243 (pc : Nat) : xi_ok cX11_cost (xi_243 pc) = true := xi_c (xi_ok243_0) (xi_ok243_1)
def xi_244_0 : XIs := [(0, .iload_n 1, 1), (1, .ifCond .lt 12, 3), (4, .iload_n 1, 1), (5, .iconst 1, 1), (6, .if_icmp .gt 7, 3), (9, .iconst 1, 1), (10, .goto 4, 3), (13, .iconst 0, 1), (14, .invokestatic 94, 3), (17, .aload_n 0, 1), (18, .getfield 58, 3), (21, .aload_n 0, 1), (22, .invokevirtual 160, 3), (25, .invokevirtual 297, 3), (28, .iload_n 1, 1), (29, .ifCond .ne 14, 3)]
set_option maxRecDepth 100000 in
theorem xi_ok244_0 : xi_ok cX11_pairing xi_244_0 = true := by decide +kernel
def xi_244_1 : XIs := [(32, .aload_n 0, 1), (33, .getfield 58, 3), (36, .getfield 301, 3), (39, .i2l, 1), (40, .goto 10, 3), (43, .aload_n 0, 1), (44, .getfield 58, 3), (47, .getfield 304, 3), (50, .lreturn, 1)]
set_option maxRecDepth 100000 in
theorem xi_ok244_1 : xi_ok cX11_pairing xi_244_1 = true := by decide +kernel
def xi_244 (pc : Nat) : XIs := cond (Nat.blt pc 32) (xi_244_0) (xi_244_1)
theorem xi_ok244 (pc : Nat) : xi_ok cX11_pairing (xi_244 pc) = true := xi_c (xi_ok244_0) (xi_ok244_1)
def xi_245_0 : XIs := [(0, .aload_n 0, 1), (1, .invokevirtual 160, 3), (4, .astore_n 2, 1), (5, .aload_n 2, 1), (6, .iload_n 1, 1), (7, .invokevirtual 145, 3), (10, .invokestatic 94, 3), (13, .aload_n 0, 1), (14, .getfield 65, 3), (17, .aload_n 2, 1), (18, .iload_n 1, 1), (19, .invokevirtual 308, 3), (22, .lreturn, 1)]
set_option maxRecDepth 100000 in
theorem xi_ok245_0 : xi_ok cX11_tree xi_245_0 = true := by decide +kernel
def xi_245 (pc : Nat) : XIs := xi_245_0
theorem xi_ok245 (pc : Nat) : xi_ok cX11_tree (xi_245 pc) = true := xi_ok245_0
def xi_246_0 : XIs := [(0, .aload_n 0, 1), (1, .invokevirtual 160, 3), (4, .astore_n 2, 1), (5, .aload_n 2, 1), (6, .iload_n 1, 1), (7, .invokevirtual 123, 3), (10, .invokestatic 94, 3), (13, .aload_n 0, 1), (14, .getfield 65, 3), (17, .aload_n 2, 1), (18, .iload_n 1, 1), (19, .invokevirtual 312, 3), (22, .ireturn, 1)]
set_option maxRecDepth 100000 in
theorem xi_ok246_0 : xi_ok cX11_span xi_246_0 = true := by decide +kernel
def xi_246 (pc : Nat) : XIs := xi_246_0
theorem xi_ok246 (pc : Nat) : xi_ok cX11_span (xi_246 pc) = true := xi_ok246_0
def xi_247_0 : XIs := [(0, .aload_n 0, 1), (1, .getfield 65, 3), (4, .aload_n 0, 1), (5, .invokevirtual 160, 3), (8, .invokevirtual 315, 3), (11, .ireturn, 1)]
set_option maxRecDepth 100000 in
theorem xi_ok247_0 : xi_ok cX11_trees xi_247_0 = true := by decide +kernel
def xi_247 (pc : Nat) : XIs := xi_247_0
theorem xi_ok247 (pc : Nat) : xi_ok cX11_trees (xi_247 pc) = true := xi_ok247_0
def xi_248_0 : XIs := [(0, .aload_n 0, 1), (1, .invokevirtual 160, 3), (4, .astore_n 3, 1), (5, .aload_n 3, 1), (6, .iload_n 1, 1), (7, .invokevirtual 145, 3), (10, .ifCond .eq 17, 3), (13, .iload_n 2, 1), (14, .ifCond .lt 13, 3), (17, .iload_n 2, 1), (18, .bipush 40, 2), (20, .if_icmp .gt 7, 3), (23, .iconst 1, 1), (24, .goto 4, 3), (27, .iconst 0, 1), (28, .invokestatic 94, 3)]
set_option maxRecDepth 100000 in
theorem xi_ok248_0 : xi_ok cX11_rank xi_248_0 = true := by decide +kernel
def xi_248_1 : XIs := [(31, .aload_n 0, 1), (32, .getfield 72, 3), (35, .aload_n 3, 1), (36, .iload_n 1, 1), (37, .iload_n 2, 1), (38, .invokevirtual 318, 3), (41, .lreturn, 1)]
set_option maxRecDepth 100000 in
theorem xi_ok248_1 : xi_ok cX11_rank xi_248_1 = true := by decide +kernel
def xi_248 (pc : Nat) : XIs := cond (Nat.blt pc 31) (xi_248_0) (xi_248_1)
theorem xi_ok248 (pc : Nat) : xi_ok cX11_rank (xi_248 pc) = true := xi_c (xi_ok248_0) (xi_ok248_1)
def xi_249_0 : XIs := [(0, .aload_n 0, 1), (1, .invokevirtual 160, 3), (4, .astore 5, 2), (6, .aload 5, 2), (8, .iload_n 1, 1), (9, .invokevirtual 145, 3), (12, .ifCond .eq 35, 3), (15, .aload 5, 2), (17, .iload_n 2, 1), (18, .invokevirtual 145, 3), (21, .ifCond .eq 26, 3), (24, .iload_n 3, 1), (25, .ifCond .lt 22, 3), (28, .iload_n 3, 1), (29, .iconst 2, 1), (30, .if_icmp .gt 17, 3)]
set_option maxRecDepth 100000 in
theorem xi_ok249_0 : xi_ok cX11_shortest xi_249_0 = true := by decide +kernel
def xi_249_1 : XIs := [(33, .aload 5, 2), (35, .iload 4, 2), (37, .invokevirtual 145, 3), (40, .ifCond .eq 7, 3), (43, .iconst 1, 1), (44, .goto 4, 3), (47, .iconst 0, 1), (48, .invokestatic 94, 3), (51, .iload_n 3, 1), (52, .ifCond .ne 15, 3), (55, .aload_n 0, 1), (56, .getfield 37, 3), (59, .aload 5, 2), (61, .iload_n 1, 1), (62, .iload_n 2, 1), (63, .invokevirtual 321, 3)]
set_option maxRecDepth 100000 in
theorem xi_ok249_1 : xi_ok cX11_shortest xi_249_1 = true := by decide +kernel
def xi_249_2 : XIs := [(66, .ireturn, 1), (67, .iload_n 3, 1), (68, .iconst 1, 1), (69, .if_icmp .ne 18, 3), (72, .aload_n 0, 1), (73, .getfield 37, 3), (76, .aload 5, 2), (78, .iload_n 1, 1), (79, .iload_n 2, 1), (80, .iload_n 1, 1), (81, .invokevirtual 324, 3), (84, .goto 16, 3), (87, .aload_n 0, 1), (88, .getfield 37, 3), (91, .aload 5, 2), (93, .iload_n 1, 1)]
set_option maxRecDepth 100000 in
theorem xi_ok249_2 : xi_ok cX11_shortest xi_249_2 = true := by decide +kernel
def xi_249_3 : XIs := [(94, .iload_n 2, 1), (95, .iload 4, 2), (97, .invokevirtual 324, 3), (100, .ireturn, 1)]
set_option maxRecDepth 100000 in
theorem xi_ok249_3 : xi_ok cX11_shortest xi_249_3 = true := by decide +kernel
def xi_249 (pc : Nat) : XIs := cond (Nat.blt pc 66) (cond (Nat.blt pc 33) (xi_249_0) (xi_249_1)) (cond (Nat.blt pc 94) (xi_249_2) (xi_249_3))
theorem xi_ok249 (pc : Nat) : xi_ok cX11_shortest (xi_249 pc) = true := xi_c (xi_c (xi_ok249_0) (xi_ok249_1)) (xi_c (xi_ok249_2) (xi_ok249_3))
def xi_250_0 : XIs := [(0, .aload_n 0, 1), (1, .invokevirtual 160, 3), (4, .astore_n 2, 1), (5, .aload_n 2, 1), (6, .iload_n 1, 1), (7, .invokevirtual 145, 3), (10, .invokestatic 94, 3), (13, .aload_n 0, 1), (14, .getfield 72, 3), (17, .aload_n 2, 1), (18, .iload_n 1, 1), (19, .invokevirtual 327, 3), (22, .ireturn, 1)]
set_option maxRecDepth 100000 in
theorem xi_ok250_0 : xi_ok cX11_group xi_250_0 = true := by decide +kernel
def xi_250 (pc : Nat) : XIs := xi_250_0
theorem xi_ok250 (pc : Nat) : xi_ok cX11_group (xi_250 pc) = true := xi_ok250_0
def xi_251_0 : XIs := [(0, .aload_n 0, 1), (1, .getfield 72, 3), (4, .aload_n 0, 1), (5, .invokevirtual 160, 3), (8, .invokevirtual 330, 3), (11, .lreturn, 1)]
set_option maxRecDepth 100000 in
theorem xi_ok251_0 : xi_ok cX11_gain xi_251_0 = true := by decide +kernel
def xi_251 (pc : Nat) : XIs := xi_251_0
theorem xi_ok251 (pc : Nat) : xi_ok cX11_gain (xi_251 pc) = true := xi_ok251_0
def xi_252_0 : XIs := [(0, .iload_n 1, 1), (1, .ifCond .lt 12, 3), (4, .iload_n 1, 1), (5, .iconst 1, 1), (6, .if_icmp .gt 7, 3), (9, .iconst 1, 1), (10, .goto 4, 3), (13, .iconst 0, 1), (14, .invokestatic 94, 3), (17, .iload_n 1, 1), (18, .ifCond .ne 17, 3), (21, .aload_n 0, 1), (22, .getfield 44, 3), (25, .aload_n 0, 1), (26, .invokevirtual 160, 3), (29, .invokevirtual 334, 3)]
set_option maxRecDepth 100000 in
theorem xi_ok252_0 : xi_ok cX11_figures xi_252_0 = true := by decide +kernel
def xi_252_1 : XIs := [(32, .goto 14, 3), (35, .aload_n 0, 1), (36, .getfield 44, 3), (39, .aload_n 0, 1), (40, .invokevirtual 160, 3), (43, .invokevirtual 337, 3), (46, .lreturn, 1)]
set_option maxRecDepth 100000 in
theorem xi_ok252_1 : xi_ok cX11_figures xi_252_1 = true := by decide +kernel
def xi_252 (pc : Nat) : XIs := cond (Nat.blt pc 32) (xi_252_0) (xi_252_1)
theorem xi_ok252 (pc : Nat) : xi_ok cX11_figures (xi_252 pc) = true := xi_c (xi_ok252_0) (xi_ok252_1)
def xi_253_0 : XIs := [(0, .aload_n 0, 1), (1, .getfield 79, 3), (4, .aload_n 0, 1), (5, .getfield 30, 3), (8, .invokevirtual 340, 3), (11, .ifCond .eq 7, 3), (14, .iconst 0, 1), (15, .goto 5, 3), (18, .bipush (-4), 2), (20, .ireturn, 1)]
set_option maxRecDepth 100000 in
theorem xi_ok253_0 : xi_ok cX11_pattern xi_253_0 = true := by decide +kernel
def xi_253 (pc : Nat) : XIs := xi_253_0
theorem xi_ok253 (pc : Nat) : xi_ok cX11_pattern (xi_253 pc) = true := xi_ok253_0
def xi_254_0 : XIs := [(0, .aload_n 0, 1), (1, .invokevirtual 160, 3), (4, .astore_n 3, 1), (5, .aload_n 3, 1), (6, .iload_n 1, 1), (7, .invokevirtual 145, 3), (10, .ifCond .eq 15, 3), (13, .aload_n 3, 1), (14, .iload_n 2, 1), (15, .invokevirtual 145, 3), (18, .ifCond .eq 7, 3), (21, .iconst 1, 1), (22, .goto 4, 3), (25, .iconst 0, 1), (26, .invokestatic 94, 3), (29, .aload_n 0, 1)]
set_option maxRecDepth 100000 in
theorem xi_ok254_0 : xi_ok cX11_fits xi_254_0 = true := by decide +kernel
def xi_254_1 : XIs := [(30, .getfield 79, 3), (33, .aload_n 3, 1), (34, .iload_n 1, 1), (35, .iload_n 2, 1), (36, .invokevirtual 344, 3), (39, .ireturn, 1)]
set_option maxRecDepth 100000 in
theorem xi_ok254_1 : xi_ok cX11_fits xi_254_1 = true := by decide +kernel
def xi_254 (pc : Nat) : XIs := cond (Nat.blt pc 30) (xi_254_0) (xi_254_1)
theorem xi_ok254 (pc : Nat) : xi_ok cX11_fits (xi_254 pc) = true := xi_c (xi_ok254_0) (xi_ok254_1)
def xi_255_0 : XIs := [(0, .aload_n 0, 1), (1, .getfield 86, 3), (4, .aload_n 0, 1), (5, .getfield 30, 3), (8, .invokevirtual 347, 3), (11, .ifCond .eq 7, 3), (14, .iconst 0, 1), (15, .goto 5, 3), (18, .bipush (-4), 2), (20, .ireturn, 1)]
set_option maxRecDepth 100000 in
theorem xi_ok255_0 : xi_ok cX11_program xi_255_0 = true := by decide +kernel
def xi_255 (pc : Nat) : XIs := xi_255_0
theorem xi_ok255 (pc : Nat) : xi_ok cX11_program (xi_255 pc) = true := xi_ok255_0
def xi_256_0 : XIs := [(0, .iload_n 1, 1), (1, .ifCond .lt 34, 3), (4, .iload_n 1, 1), (5, .sipush 200, 3), (8, .if_icmp .gt 27, 3), (11, .iload_n 2, 1), (12, .iconst 1, 1), (13, .if_icmp .lt 22, 3), (16, .iload_n 2, 1), (17, .iconst 4, 1), (18, .if_icmp .gt 17, 3), (21, .iload_n 3, 1), (22, .ifCond .lt 13, 3), (25, .iload_n 3, 1), (26, .bipush 90, 2), (28, .if_icmp .gt 7, 3)]
set_option maxRecDepth 100000 in
theorem xi_ok256_0 : xi_ok cX11_run xi_256_0 = true := by decide +kernel
def xi_256_1 : XIs := [(31, .iconst 1, 1), (32, .goto 4, 3), (35, .iconst 0, 1), (36, .invokestatic 94, 3), (39, .aload_n 0, 1), (40, .invokevirtual 160, 3), (43, .astore 6, 2), (45, .aload_n 0, 1), (46, .getfield 86, 3), (49, .aload 6, 2), (51, .iload_n 1, 1), (52, .invokevirtual 348, 3), (55, .istore 7, 2), (57, .aload_n 0, 1), (58, .getfield 86, 3), (61, .aload 6, 2)]
set_option maxRecDepth 100000 in
theorem xi_ok256_1 : xi_ok cX11_run xi_256_1 = true := by decide +kernel
def xi_256_2 : XIs := [(63, .iload 7, 2), (65, .iload_n 2, 1), (66, .iload_n 3, 1), (67, .lload 4, 2), (69, .invokevirtual 351, 3), (72, .iload 7, 2), (74, .ireturn, 1)]
set_option maxRecDepth 100000 in
theorem xi_ok256_2 : xi_ok cX11_run xi_256_2 = true := by decide +kernel
def xi_256 (pc : Nat) : XIs := cond (Nat.blt pc 31) (xi_256_0) (cond (Nat.blt pc 63) (xi_256_1) (xi_256_2))
theorem xi_ok256 (pc : Nat) : xi_ok cX11_run (xi_256 pc) = true := xi_c (xi_ok256_0) (xi_c (xi_ok256_1) (xi_ok256_2))
def xi_257_0 : XIs := [(0, .iload_n 1, 1), (1, .ifCond .lt 18, 3), (4, .iload_n 1, 1), (5, .aload_n 0, 1), (6, .getfield 86, 3), (9, .getfield 355, 3), (12, .if_icmp .ge 7, 3), (15, .iconst 1, 1), (16, .goto 4, 3), (19, .iconst 0, 1), (20, .invokestatic 94, 3), (23, .aload_n 0, 1), (24, .getfield 86, 3), (27, .getfield 356, 3), (30, .iload_n 1, 1), (31, .laload, 1)]
set_option maxRecDepth 100000 in
theorem xi_ok257_0 : xi_ok cX11_state xi_257_0 = true := by decide +kernel
def xi_257_1 : XIs := [(32, .lreturn, 1)]
set_option maxRecDepth 100000 in
theorem xi_ok257_1 : xi_ok cX11_state xi_257_1 = true := by decide +kernel
def xi_257 (pc : Nat) : XIs := cond (Nat.blt pc 32) (xi_257_0) (xi_257_1)
theorem xi_ok257 (pc : Nat) : xi_ok cX11_state (xi_257 pc) = true := xi_c (xi_ok257_0) (xi_ok257_1)
def xi_258_0 : XIs := [(0, .iload_n 1, 1), (1, .ifCond .lt 12, 3), (4, .iload_n 1, 1), (5, .iconst 2, 1), (6, .if_icmp .gt 7, 3), (9, .iconst 1, 1), (10, .goto 4, 3), (13, .iconst 0, 1), (14, .invokestatic 94, 3), (17, .iload_n 1, 1), (18, .ifCond .ne 11, 3), (21, .aload_n 0, 1), (22, .getfield 86, 3), (25, .getfield 360, 3), (28, .ireturn, 1), (29, .iload_n 1, 1)]
set_option maxRecDepth 100000 in
theorem xi_ok258_0 : xi_ok cX11_letters xi_258_0 = true := by decide +kernel
def xi_258_1 : XIs := [(30, .iconst 1, 1), (31, .if_icmp .ne 13, 3), (34, .aload_n 0, 1), (35, .getfield 86, 3), (38, .getfield 363, 3), (41, .goto 10, 3), (44, .aload_n 0, 1), (45, .getfield 86, 3), (48, .getfield 366, 3), (51, .ireturn, 1)]
set_option maxRecDepth 100000 in
theorem xi_ok258_1 : xi_ok cX11_letters xi_258_1 = true := by decide +kernel
def xi_258 (pc : Nat) : XIs := cond (Nat.blt pc 30) (xi_258_0) (xi_258_1)
theorem xi_ok258 (pc : Nat) : xi_ok cX11_letters (xi_258 pc) = true := xi_c (xi_ok258_0) (xi_ok258_1)
def xi_259_0 : XIs := [(0, .aload_n 0, 1), (1, .getfield 23, 3), (4, .iconst (-1), 1), (5, .if_icmp .ne 13, 3), (8, .aload_n 0, 1), (9, .getfield 10, 3), (12, .getfield 98, 3), (15, .goto 7, 3), (18, .aload_n 0, 1), (19, .getfield 19, 3), (22, .areturn, 1)]
set_option maxRecDepth 100000 in
theorem xi_ok259_0 : xi_ok cX11_graph xi_259_0 = true := by decide +kernel
def xi_259 (pc : Nat) : XIs := xi_259_0
theorem xi_ok259 (pc : Nat) : xi_ok cX11_graph (xi_259 pc) = true := xi_ok259_0
def xi_260_0 : XIs := [(0, .iload_n 0, 1), (1, .ifCond .lt 13, 3), (4, .iload_n 0, 1), (5, .bipush 26, 2), (7, .if_icmp .ge 7, 3), (10, .iconst 1, 1), (11, .goto 4, 3), (14, .iconst 0, 1), (15, .ireturn, 1)]
set_option maxRecDepth 100000 in
theorem xi_ok260_0 : xi_ok cX11_isLetter xi_260_0 = true := by decide +kernel
def xi_260 (pc : Nat) : XIs := xi_260_0
theorem xi_ok260 (pc : Nat) : xi_ok cX11_isLetter (xi_260 pc) = true := xi_ok260_0
def xi_261_0 : XIs := [(0, .iload_n 0, 1), (1, .ldc_w 375, 3), (4, .if_icmp .lt 14, 3), (7, .iload_n 0, 1), (8, .ldc_w 376, 3), (11, .if_icmp .gt 7, 3), (14, .iconst 1, 1), (15, .goto 4, 3), (18, .iconst 0, 1), (19, .ireturn, 1)]
set_option maxRecDepth 100000 in
theorem xi_ok261_0 : xi_ok cX11_isWeight xi_261_0 = true := by decide +kernel
def xi_261 (pc : Nat) : XIs := xi_261_0
theorem xi_ok261 (pc : Nat) : xi_ok cX11_isWeight (xi_261 pc) = true := xi_ok261_0
def xi_262_0 : XIs := [(0, .iload_n 0, 1), (1, .ifCond .lt 14, 3), (4, .iload_n 0, 1), (5, .ldc_w 376, 3), (8, .if_icmp .gt 7, 3), (11, .iconst 1, 1), (12, .goto 4, 3), (15, .iconst 0, 1), (16, .ireturn, 1)]
set_option maxRecDepth 100000 in
theorem xi_ok262_0 : xi_ok cX11_isRoom xi_262_0 = true := by decide +kernel
def xi_262 (pc : Nat) : XIs := xi_262_0
theorem xi_ok262 (pc : Nat) : xi_ok cX11_isRoom (xi_262 pc) = true := xi_ok262_0
def xi_263_0 : XIs := [(0, .iload_n 0, 1), (1, .ifCond .ne 8, 3), (4, .iload_n 1, 1), (5, .invokestatic 377, 3), (8, .ireturn, 1), (9, .iload_n 0, 1), (10, .iconst 1, 1), (11, .if_icmp .ne 8, 3), (14, .iload_n 1, 1), (15, .invokestatic 380, 3), (18, .ireturn, 1), (19, .iload_n 0, 1), (20, .iconst 2, 1), (21, .if_icmp .ne 14, 3), (24, .iload_n 1, 1), (25, .invokestatic 90, 3)]
set_option maxRecDepth 100000 in
theorem xi_ok263_0 : xi_ok cX11_isGoodValue xi_263_0 = true := by decide +kernel
def xi_263_1 : XIs := [(28, .ifCond .eq 7, 3), (31, .iconst 1, 1), (32, .goto 4, 3), (35, .iconst 0, 1), (36, .ireturn, 1)]
set_option maxRecDepth 100000 in
theorem xi_ok263_1 : xi_ok cX11_isGoodValue xi_263_1 = true := by decide +kernel
def xi_263 (pc : Nat) : XIs := cond (Nat.blt pc 28) (xi_263_0) (xi_263_1)
theorem xi_ok263 (pc : Nat) : xi_ok cX11_isGoodValue (xi_263 pc) = true := xi_c (xi_ok263_0) (xi_ok263_1)
def xi_264_0 : XIs := [(0, .iload_n 0, 1), (1, .iload_n 0, 1), (2, .ineg, 1), (3, .iand, 1), (4, .iconst 1, 1), (5, .isub, 1), (6, .invokestatic 275, 3), (9, .ireturn, 1)]
set_option maxRecDepth 100000 in
theorem xi_ok264_0 : xi_ok cX11_lowest xi_264_0 = true := by decide +kernel
def xi_264 (pc : Nat) : XIs := xi_264_0
theorem xi_ok264 (pc : Nat) : xi_ok cX11_lowest (xi_264 pc) = true := xi_ok264_0
def xi_265_0 : XIs := [(0, .lload_n 0, 1), (1, .lload_n 0, 1), (2, .lneg, 1), (3, .land, 1), (4, .lconst 1, 1), (5, .lsub, 1), (6, .invokestatic 383, 3), (9, .ireturn, 1)]
set_option maxRecDepth 100000 in
theorem xi_ok265_0 : xi_ok cX11_lowestOfLong xi_265_0 = true := by decide +kernel
def xi_265 (pc : Nat) : XIs := xi_265_0
theorem xi_ok265 (pc : Nat) : xi_ok cX11_lowestOfLong (xi_265 pc) = true := xi_ok265_0
def xi_266_0 : XIs := [(0, .iload_n 1, 1), (1, .istore_n 3, 1), (2, .iload_n 1, 1), (3, .istore 4, 2), (5, .iconst 0, 1), (6, .istore 5, 2), (8, .iload 5, 2), (10, .bipush 32, 2), (12, .if_icmp .ge 50, 3), (15, .iload 4, 2), (17, .ifCond .eq 45, 3), (20, .aload_n 0, 1), (21, .iload 4, 2), (23, .invokestatic 280, 3), (26, .iaload, 1), (27, .iload_n 2, 1)]
set_option maxRecDepth 100000 in
theorem xi_ok266_0 : xi_ok cX11_flood xi_266_0 = true := by decide +kernel
def xi_266_1 : XIs := [(28, .iand, 1), (29, .iload_n 3, 1), (30, .iconst (-1), 1), (31, .ixor, 1), (32, .iand, 1), (33, .istore 6, 2), (35, .iload 4, 2), (37, .iload 4, 2), (39, .iconst 1, 1), (40, .isub, 1), (41, .iand, 1), (42, .istore 4, 2), (44, .iload 4, 2), (46, .iload 6, 2), (48, .ior, 1), (49, .istore 4, 2)]
set_option maxRecDepth 100000 in
theorem xi_ok266_1 : xi_ok cX11_flood xi_266_1 = true := by decide +kernel
def xi_266_2 : XIs := [(51, .iload_n 3, 1), (52, .iload 6, 2), (54, .ior, 1), (55, .istore_n 3, 1), (56, .iinc 5 1, 3), (59, .goto (-51), 3), (62, .iload_n 3, 1), (63, .ireturn, 1)]
set_option maxRecDepth 100000 in
theorem xi_ok266_2 : xi_ok cX11_flood xi_266_2 = true := by decide +kernel
def xi_266 (pc : Nat) : XIs := cond (Nat.blt pc 28) (xi_266_0) (cond (Nat.blt pc 51) (xi_266_1) (xi_266_2))
theorem xi_ok266 (pc : Nat) : xi_ok cX11_flood (xi_266 pc) = true := xi_c (xi_ok266_0) (xi_c (xi_ok266_1) (xi_ok266_2))
def xi_267 (pc : Nat) : XIs := []
theorem xi_ok267 (pc : Nat) : xi_ok cX12_init (xi_267 pc) = true := rfl
def xi_268_0 : XIs := [(0, .aload_n 0, 1), (1, .getfield 278, 3), (4, .ireturn, 1)]
set_option maxRecDepth 100000 in
theorem xi_ok268_0 : xi_ok cX12_thrown xi_268_0 = true := by decide +kernel
def xi_268 (pc : Nat) : XIs := xi_268_0
theorem xi_ok268 (pc : Nat) : xi_ok cX12_thrown (xi_268 pc) = true := xi_ok268_0
def xi_269_0 : XIs := [(0, .lload_n 0, 1), (1, .lload_n 2, 1), (2, .lcmp, 1), (3, .ifCond .lt 14, 3), (6, .lload_n 0, 1), (7, .lload 4, 2), (9, .lcmp, 1), (10, .ifCond .gt 7, 3), (13, .iconst 1, 1), (14, .goto 4, 3), (17, .iconst 0, 1), (18, .ireturn, 1)]
set_option maxRecDepth 100000 in
theorem xi_ok269_0 : xi_ok cX12_in xi_269_0 = true := by decide +kernel
def xi_269 (pc : Nat) : XIs := xi_269_0
theorem xi_ok269 (pc : Nat) : xi_ok cX12_in (xi_269 pc) = true := xi_ok269_0
def xi_270_0 : XIs := [(0, .aload_n 0, 1), (1, .iload_n 1, 1), (2, .ifCond .ne 7, 3), (5, .iconst 1, 1), (6, .goto 12, 3), (9, .iload_n 2, 1), (10, .ifCond .ne 7, 3), (13, .iconst 2, 1), (14, .goto 4, 3), (17, .iconst 0, 1), (18, .putfield 278, 3), (21, .aload_n 0, 1), (22, .getfield 278, 3), (25, .ifCond .le 7, 3), (28, .iconst 1, 1), (29, .goto 4, 3)]
set_option maxRecDepth 100000 in
theorem xi_ok270_0 : xi_ok cX12_fails xi_270_0 = true := by decide +kernel
def xi_270_1 : XIs := [(32, .iconst 0, 1), (33, .ireturn, 1)]
set_option maxRecDepth 100000 in
theorem xi_ok270_1 : xi_ok cX12_fails xi_270_1 = true := by decide +kernel
def xi_270 (pc : Nat) : XIs := cond (Nat.blt pc 32) (xi_270_0) (xi_270_1)
theorem xi_ok270 (pc : Nat) : xi_ok cX12_fails (xi_270 pc) = true := xi_c (xi_ok270_0) (xi_ok270_1)
def xi_271_0 : XIs := [(0, .aload_n 0, 1), (1, .iload_n 1, 1), (2, .iconst 1, 1), (3, .invokevirtual 281, 3), (6, .ireturn, 1)]
set_option maxRecDepth 100000 in
theorem xi_ok271_0 : xi_ok cX12_wrongArgument xi_271_0 = true := by decide +kernel
def xi_271 (pc : Nat) : XIs := xi_271_0
theorem xi_ok271 (pc : Nat) : xi_ok cX12_wrongArgument (xi_271 pc) = true := xi_ok271_0
def xi_272_0 : XIs := [(0, .iload_n 1, 1), (1, .ifCond .lt 15, 3), (4, .iload_n 1, 1), (5, .aload_n 0, 1), (6, .getfield 285, 3), (9, .if_icmp .ge 7, 3), (12, .iconst 1, 1), (13, .goto 4, 3), (16, .iconst 0, 1), (17, .ireturn, 1)]
set_option maxRecDepth 100000 in
theorem xi_ok272_0 : xi_ok cX12_isNode xi_272_0 = true := by decide +kernel
def xi_272 (pc : Nat) : XIs := xi_272_0
theorem xi_ok272 (pc : Nat) : xi_ok cX12_isNode (xi_272 pc) = true := xi_ok272_0
def xi_273_0 : XIs := [(0, .iload_n 1, 1), (1, .ifCond .lt 28, 3), (4, .iload_n 1, 1), (5, .sipush 160, 3), (8, .if_icmp .ge 21, 3), (11, .aload_n 0, 1), (12, .getfield 16, 3), (15, .aload_n 0, 1), (16, .getfield 288, 3), (19, .iload_n 1, 1), (20, .iadd, 1), (21, .baload, 1), (22, .ifCond .eq 7, 3), (25, .iconst 1, 1), (26, .goto 4, 3), (29, .iconst 0, 1)]
set_option maxRecDepth 100000 in
theorem xi_ok273_0 : xi_ok cX12_isArc xi_273_0 = true := by decide +kernel
def xi_273_1 : XIs := [(30, .ireturn, 1)]
set_option maxRecDepth 100000 in
theorem xi_ok273_1 : xi_ok cX12_isArc xi_273_1 = true := by decide +kernel
def xi_273 (pc : Nat) : XIs := cond (Nat.blt pc 30) (xi_273_0) (xi_273_1)
theorem xi_ok273 (pc : Nat) : xi_ok cX12_isArc (xi_273 pc) = true := xi_c (xi_ok273_0) (xi_ok273_1)
def xi_274 (pc : Nat) : XIs := []
theorem xi_ok274 (pc : Nat) : xi_ok cX12_make (xi_274 pc) = true := rfl
def xi_275 (pc : Nat) : XIs := []
theorem xi_ok275 (pc : Nat) : xi_ok cX12_apply (xi_275 pc) = true := rfl
def xi_276_0 : XIs := [(0, .aload_n 0, 1), (1, .aload_n 0, 1), (2, .getfield 56, 3), (5, .ifCond .ge 7, 3), (8, .iconst 0, 1), (9, .goto 4, 3), (12, .iconst 1, 1), (13, .putfield 301, 3), (16, .aload_n 0, 1), (17, .sipush 160, 3), (20, .aload_n 0, 1), (21, .getfield 301, 3), (24, .imul, 1), (25, .putfield 288, 3), (28, .aload_n 0, 1), (29, .aload_n 0, 1)]
set_option maxRecDepth 100000 in
theorem xi_ok276_0 : xi_ok cX12_look xi_276_0 = true := by decide +kernel
def xi_276_1 : XIs := [(30, .getfield 7, 3), (33, .aload_n 0, 1), (34, .getfield 301, 3), (37, .iaload, 1), (38, .putfield 285, 3), (41, .return_, 1)]
set_option maxRecDepth 100000 in
theorem xi_ok276_1 : xi_ok cX12_look xi_276_1 = true := by decide +kernel
def xi_276 (pc : Nat) : XIs := cond (Nat.blt pc 30) (xi_276_0) (xi_276_1)
theorem xi_ok276 (pc : Nat) : xi_ok cX12_look (xi_276 pc) = true := xi_c (xi_ok276_0) (xi_ok276_1)
def xi_277_0 : XIs := [(0, .iload_n 1, 1), (1, .ifCond .lt 17, 3), (4, .iload_n 1, 1), (5, .aload_n 0, 1), (6, .getfield 7, 3), (9, .iconst 0, 1), (10, .iaload, 1), (11, .if_icmp .ge 7, 3), (14, .iconst 1, 1), (15, .goto 4, 3), (18, .iconst 0, 1), (19, .ireturn, 1)]
set_option maxRecDepth 100000 in
theorem xi_ok277_0 : xi_ok cX12_isNewNode xi_277_0 = true := by decide +kernel
def xi_277 (pc : Nat) : XIs := xi_277_0
theorem xi_ok277 (pc : Nat) : xi_ok cX12_isNewNode (xi_277 pc) = true := xi_ok277_0
def xi_278_0 : XIs := [(0, .iload_n 1, 1), (1, .ifCond .lt 23, 3), (4, .iload_n 1, 1), (5, .sipush 160, 3), (8, .if_icmp .ge 16, 3), (11, .aload_n 0, 1), (12, .getfield 16, 3), (15, .iload_n 1, 1), (16, .baload, 1), (17, .ifCond .eq 7, 3), (20, .iconst 1, 1), (21, .goto 4, 3), (24, .iconst 0, 1), (25, .ireturn, 1)]
set_option maxRecDepth 100000 in
theorem xi_ok278_0 : xi_ok cX12_isNewArc xi_278_0 = true := by decide +kernel
def xi_278 (pc : Nat) : XIs := xi_278_0
theorem xi_ok278 (pc : Nat) : xi_ok cX12_isNewArc (xi_278 pc) = true := xi_ok278_0
def xi_279_0 : XIs := [(0, .iload_n 0, 1), (1, .i2l, 1), (2, .ldc2_w 304, 3), (5, .ldc2_w 306, 3), (8, .invokestatic 308, 3), (11, .ireturn, 1)]
set_option maxRecDepth 100000 in
theorem xi_ok279_0 : xi_ok cX12_isWeight xi_279_0 = true := by decide +kernel
def xi_279 (pc : Nat) : XIs := xi_279_0
theorem xi_ok279 (pc : Nat) : xi_ok cX12_isWeight (xi_279 pc) = true := xi_ok279_0
def xi_280_0 : XIs := [(0, .iconst 0, 1), (1, .istore_n 2, 1), (2, .iload_n 2, 1), (3, .sipush 160, 3), (6, .if_icmp .ge 24, 3), (9, .aload_n 0, 1), (10, .getfield 16, 3), (13, .sipush 160, 3), (16, .iload_n 1, 1), (17, .imul, 1), (18, .iload_n 2, 1), (19, .iadd, 1), (20, .baload, 1), (21, .ifCond .eq 9, 3), (24, .iinc 2 1, 3), (27, .goto (-25), 3)]
set_option maxRecDepth 100000 in
theorem xi_ok280_0 : xi_ok cX12_freePlace xi_280_0 = true := by decide +kernel
def xi_280_1 : XIs := [(30, .iload_n 2, 1), (31, .ireturn, 1)]
set_option maxRecDepth 100000 in
theorem xi_ok280_1 : xi_ok cX12_freePlace xi_280_1 = true := by decide +kernel
def xi_280 (pc : Nat) : XIs := cond (Nat.blt pc 30) (xi_280_0) (xi_280_1)
theorem xi_ok280 (pc : Nat) : xi_ok cX12_freePlace (xi_280 pc) = true := xi_c (xi_ok280_0) (xi_ok280_1)
def xi_281_0 : XIs := [(0, .aload_n 0, 1), (1, .iload_n 1, 1), (2, .i2l, 1), (3, .lconst 0, 1), (4, .ldc2_w 312, 3), (7, .invokestatic 308, 3), (10, .aload_n 0, 1), (11, .getfield 7, 3), (14, .iconst 0, 1), (15, .iaload, 1), (16, .bipush 32, 2), (18, .if_icmp .ge 17, 3), (21, .aload_n 0, 1), (22, .getfield 291, 3), (25, .sipush 4000, 3), (28, .if_icmp .ge 7, 3)]
set_option maxRecDepth 100000 in
theorem xi_ok281_0 : xi_ok cX12_node xi_281_0 = true := by decide +kernel
def xi_281_1 : XIs := [(31, .iconst 1, 1), (32, .goto 4, 3), (35, .iconst 0, 1), (36, .invokevirtual 281, 3), (39, .ifCond .eq 5, 3), (42, .iconst 0, 1), (43, .ireturn, 1), (44, .aload_n 0, 1), (45, .iconst 0, 1), (46, .iload_n 1, 1), (47, .iconst 0, 1), (48, .iconst 0, 1), (49, .iconst 0, 1), (50, .iconst 0, 1), (51, .iconst 0, 1), (52, .invokevirtual 314, 3)]
set_option maxRecDepth 100000 in
theorem xi_ok281_1 : xi_ok cX12_node xi_281_1 = true := by decide +kernel
def xi_281_2 : XIs := [(55, .aload_n 0, 1), (56, .getfield 7, 3), (59, .iconst 0, 1), (60, .iaload, 1), (61, .iconst 1, 1), (62, .isub, 1), (63, .ireturn, 1)]
set_option maxRecDepth 100000 in
theorem xi_ok281_2 : xi_ok cX12_node xi_281_2 = true := by decide +kernel
def xi_281 (pc : Nat) : XIs := cond (Nat.blt pc 31) (xi_281_0) (cond (Nat.blt pc 55) (xi_281_1) (xi_281_2))
theorem xi_ok281 (pc : Nat) : xi_ok cX12_node (xi_281 pc) = true := xi_c (xi_ok281_0) (xi_c (xi_ok281_1) (xi_ok281_2))
def xi_282_0 : XIs := [(0, .aload_n 0, 1), (1, .aload_n 0, 1), (2, .iload_n 1, 1), (3, .invokevirtual 318, 3), (6, .ifCond .eq 48, 3), (9, .aload_n 0, 1), (10, .iload_n 2, 1), (11, .invokevirtual 318, 3), (14, .ifCond .eq 40, 3), (17, .iload_n 3, 1), (18, .invokestatic 322, 3), (21, .ifCond .eq 33, 3), (24, .iload 4, 2), (26, .i2l, 1), (27, .lconst 0, 1), (28, .ldc2_w 306, 3)]
set_option maxRecDepth 100000 in
theorem xi_ok282_0 : xi_ok cX12_arc xi_282_0 = true := by decide +kernel
def xi_282_1 : XIs := [(31, .invokestatic 308, 3), (34, .ifCond .eq 20, 3), (37, .iload 5, 2), (39, .i2l, 1), (40, .lconst 0, 1), (41, .ldc2_w 312, 3), (44, .invokestatic 308, 3), (47, .ifCond .eq 7, 3), (50, .iconst 1, 1), (51, .goto 4, 3), (54, .iconst 0, 1), (55, .aload_n 0, 1), (56, .getfield 291, 3), (59, .sipush 4000, 3), (62, .if_icmp .ge 7, 3), (65, .iconst 1, 1)]
set_option maxRecDepth 100000 in
theorem xi_ok282_1 : xi_ok cX12_arc xi_282_1 = true := by decide +kernel
def xi_282_2 : XIs := [(66, .goto 4, 3), (69, .iconst 0, 1), (70, .invokevirtual 281, 3), (73, .ifCond .eq 5, 3), (76, .iconst 0, 1), (77, .ireturn, 1), (78, .aload_n 0, 1), (79, .iconst 0, 1), (80, .invokevirtual 325, 3), (83, .istore 6, 2), (85, .iload 6, 2), (87, .sipush 160, 3), (90, .if_icmp .ne 6, 3), (93, .bipush (-3), 2), (95, .ireturn, 1), (96, .aload_n 0, 1)]
set_option maxRecDepth 100000 in
theorem xi_ok282_2 : xi_ok cX12_arc xi_282_2 = true := by decide +kernel
def xi_282_3 : XIs := [(97, .iconst 1, 1), (98, .iload 6, 2), (100, .iload_n 1, 1), (101, .iload_n 2, 1), (102, .iload_n 3, 1), (103, .iload 4, 2), (105, .iload 5, 2), (107, .invokevirtual 314, 3), (110, .iload 6, 2), (112, .ireturn, 1)]
set_option maxRecDepth 100000 in
theorem xi_ok282_3 : xi_ok cX12_arc xi_282_3 = true := by decide +kernel
def xi_282 (pc : Nat) : XIs := cond (Nat.blt pc 66) (cond (Nat.blt pc 31) (xi_282_0) (xi_282_1)) (cond (Nat.blt pc 97) (xi_282_2) (xi_282_3))
theorem xi_ok282 (pc : Nat) : xi_ok cX12_arc (xi_282 pc) = true := xi_c (xi_c (xi_ok282_0) (xi_ok282_1)) (xi_c (xi_ok282_2) (xi_ok282_3))
def xi_283_0 : XIs := [(0, .aload_n 0, 1), (1, .aload_n 0, 1), (2, .iload_n 1, 1), (3, .invokevirtual 329, 3), (6, .aload_n 0, 1), (7, .getfield 291, 3), (10, .sipush 4000, 3), (13, .if_icmp .ge 7, 3), (16, .iconst 1, 1), (17, .goto 4, 3), (20, .iconst 0, 1), (21, .invokevirtual 281, 3), (24, .ifCond .eq 5, 3), (27, .iconst 0, 1), (28, .ireturn, 1), (29, .aload_n 0, 1)]
set_option maxRecDepth 100000 in
theorem xi_ok283_0 : xi_ok cX12_take xi_283_0 = true := by decide +kernel
def xi_283_1 : XIs := [(30, .iconst 2, 1), (31, .iload_n 1, 1), (32, .iconst 0, 1), (33, .iconst 0, 1), (34, .iconst 0, 1), (35, .iconst 0, 1), (36, .iconst 0, 1), (37, .invokevirtual 314, 3), (40, .aload_n 0, 1), (41, .getfield 291, 3), (44, .ireturn, 1)]
set_option maxRecDepth 100000 in
theorem xi_ok283_1 : xi_ok cX12_take xi_283_1 = true := by decide +kernel
def xi_283 (pc : Nat) : XIs := cond (Nat.blt pc 30) (xi_283_0) (xi_283_1)
theorem xi_ok283 (pc : Nat) : xi_ok cX12_take (xi_283 pc) = true := xi_c (xi_ok283_0) (xi_ok283_1)
def xi_284_0 : XIs := [(0, .iload_n 2, 1), (1, .ifCond .ne 10, 3), (4, .iload_n 3, 1), (5, .invokestatic 322, 3), (8, .goto 42, 3), (11, .iload_n 2, 1), (12, .iconst 1, 1), (13, .if_icmp .ne 15, 3), (16, .iload_n 3, 1), (17, .i2l, 1), (18, .lconst 0, 1), (19, .ldc2_w 306, 3), (22, .invokestatic 308, 3), (25, .goto 25, 3), (28, .iload_n 2, 1), (29, .iconst 2, 1)]
set_option maxRecDepth 100000 in
theorem xi_ok284_0 : xi_ok cX12_set xi_284_0 = true := by decide +kernel
def xi_284_1 : XIs := [(30, .if_icmp .ne 19, 3), (33, .iload_n 3, 1), (34, .i2l, 1), (35, .lconst 0, 1), (36, .ldc2_w 312, 3), (39, .invokestatic 308, 3), (42, .ifCond .eq 7, 3), (45, .iconst 1, 1), (46, .goto 4, 3), (49, .iconst 0, 1), (50, .istore 4, 2), (52, .aload_n 0, 1), (53, .aload_n 0, 1), (54, .iload_n 1, 1), (55, .invokevirtual 329, 3), (58, .ifCond .eq 12, 3)]
set_option maxRecDepth 100000 in
theorem xi_ok284_1 : xi_ok cX12_set xi_284_1 = true := by decide +kernel
def xi_284_2 : XIs := [(61, .iload 4, 2), (63, .ifCond .eq 7, 3), (66, .iconst 1, 1), (67, .goto 4, 3), (70, .iconst 0, 1), (71, .aload_n 0, 1), (72, .getfield 291, 3), (75, .sipush 4000, 3), (78, .if_icmp .ge 7, 3), (81, .iconst 1, 1), (82, .goto 4, 3), (85, .iconst 0, 1), (86, .invokevirtual 281, 3), (89, .ifCond .eq 5, 3), (92, .iconst 0, 1), (93, .ireturn, 1)]
set_option maxRecDepth 100000 in
theorem xi_ok284_2 : xi_ok cX12_set xi_284_2 = true := by decide +kernel
def xi_284_3 : XIs := [(94, .iload_n 2, 1), (95, .ifCond .ne 12, 3), (98, .aload_n 0, 1), (99, .getfield 26, 3), (102, .iload_n 1, 1), (103, .iaload, 1), (104, .goto 23, 3), (107, .iload_n 2, 1), (108, .iconst 1, 1), (109, .if_icmp .ne 12, 3), (112, .aload_n 0, 1), (113, .getfield 29, 3), (116, .iload_n 1, 1), (117, .iaload, 1), (118, .goto 9, 3), (121, .aload_n 0, 1)]
set_option maxRecDepth 100000 in
theorem xi_ok284_3 : xi_ok cX12_set xi_284_3 = true := by decide +kernel
def xi_284_4 : XIs := [(122, .getfield 32, 3), (125, .iload_n 1, 1), (126, .iaload, 1), (127, .istore 5, 2), (129, .aload_n 0, 1), (130, .iconst 3, 1), (131, .iload_n 1, 1), (132, .iload_n 2, 1), (133, .iload_n 3, 1), (134, .iconst 0, 1), (135, .iconst 0, 1), (136, .iconst 0, 1), (137, .invokevirtual 314, 3), (140, .iload 5, 2), (142, .ireturn, 1)]
set_option maxRecDepth 100000 in
theorem xi_ok284_4 : xi_ok cX12_set xi_284_4 = true := by decide +kernel
def xi_284 (pc : Nat) : XIs := cond (Nat.blt pc 61) (cond (Nat.blt pc 30) (xi_284_0) (xi_284_1)) (cond (Nat.blt pc 94) (xi_284_2) (cond (Nat.blt pc 122) (xi_284_3) (xi_284_4)))
theorem xi_ok284 (pc : Nat) : xi_ok cX12_set (xi_284 pc) = true := xi_c (xi_c (xi_ok284_0) (xi_ok284_1)) (xi_c (xi_ok284_2) (xi_c (xi_ok284_3) (xi_ok284_4)))
def xi_285_0 : XIs := [(0, .aload_n 0, 1), (1, .aload_n 0, 1), (2, .iload_n 1, 1), (3, .invokevirtual 318, 3), (6, .ifCond .eq 19, 3), (9, .iload_n 2, 1), (10, .i2l, 1), (11, .lconst 0, 1), (12, .ldc2_w 312, 3), (15, .invokestatic 308, 3), (18, .ifCond .eq 7, 3), (21, .iconst 1, 1), (22, .goto 4, 3), (25, .iconst 0, 1), (26, .aload_n 0, 1), (27, .getfield 291, 3)]
set_option maxRecDepth 100000 in
theorem xi_ok285_0 : xi_ok cX12_label xi_285_0 = true := by decide +kernel
def xi_285_1 : XIs := [(30, .sipush 4000, 3), (33, .if_icmp .ge 7, 3), (36, .iconst 1, 1), (37, .goto 4, 3), (40, .iconst 0, 1), (41, .invokevirtual 281, 3), (44, .ifCond .eq 5, 3), (47, .iconst 0, 1), (48, .ireturn, 1), (49, .aload_n 0, 1), (50, .getfield 13, 3), (53, .iload_n 1, 1), (54, .iaload, 1), (55, .istore_n 3, 1), (56, .aload_n 0, 1), (57, .iconst 4, 1)]
set_option maxRecDepth 100000 in
theorem xi_ok285_1 : xi_ok cX12_label xi_285_1 = true := by decide +kernel
def xi_285_2 : XIs := [(58, .iload_n 1, 1), (59, .iload_n 2, 1), (60, .iconst 0, 1), (61, .iconst 0, 1), (62, .iconst 0, 1), (63, .iconst 0, 1), (64, .invokevirtual 314, 3), (67, .iload_n 3, 1), (68, .ireturn, 1)]
set_option maxRecDepth 100000 in
theorem xi_ok285_2 : xi_ok cX12_label xi_285_2 = true := by decide +kernel
def xi_285 (pc : Nat) : XIs := cond (Nat.blt pc 30) (xi_285_0) (cond (Nat.blt pc 58) (xi_285_1) (xi_285_2))
theorem xi_ok285 (pc : Nat) : xi_ok cX12_label (xi_285 pc) = true := xi_c (xi_ok285_0) (xi_c (xi_ok285_1) (xi_ok285_2))
def xi_286_0 : XIs := [(0, .aload_n 0, 1), (1, .iload_n 1, 1), (2, .i2l, 1), (3, .ldc2_w 332, 3), (6, .aload_n 0, 1), (7, .getfield 291, 3), (10, .i2l, 1), (11, .invokestatic 308, 3), (14, .invokevirtual 334, 3), (17, .ifCond .eq 5, 3), (20, .iconst 0, 1), (21, .ireturn, 1), (22, .aload_n 0, 1), (23, .iload_n 1, 1), (24, .putfield 56, 3), (27, .iload_n 1, 1)]
set_option maxRecDepth 100000 in
theorem xi_ok286_0 : xi_ok cX12_view xi_286_0 = true := by decide +kernel
def xi_286_1 : XIs := [(28, .ifCond .lt 55, 3), (31, .aload_n 0, 1), (32, .getfield 7, 3), (35, .iconst 1, 1), (36, .iconst 0, 1), (37, .iastore, 1), (38, .iconst 0, 1), (39, .istore_n 2, 1), (40, .iload_n 2, 1), (41, .sipush 160, 3), (44, .if_icmp .ge 20, 3), (47, .aload_n 0, 1), (48, .getfield 16, 3), (51, .sipush 160, 3), (54, .iload_n 2, 1), (55, .iadd, 1)]
set_option maxRecDepth 100000 in
theorem xi_ok286_1 : xi_ok cX12_view xi_286_1 = true := by decide +kernel
def xi_286_2 : XIs := [(56, .iconst 0, 1), (57, .bastore, 1), (58, .iinc 2 1, 3), (61, .goto (-21), 3), (64, .iconst 0, 1), (65, .istore_n 2, 1), (66, .iload_n 2, 1), (67, .iload_n 1, 1), (68, .if_icmp .ge 15, 3), (71, .aload_n 0, 1), (72, .iload_n 2, 1), (73, .iconst 1, 1), (74, .invokevirtual 294, 3), (77, .iinc 2 1, 3), (80, .goto (-14), 3), (83, .aload_n 0, 1)]
set_option maxRecDepth 100000 in
theorem xi_ok286_2 : xi_ok cX12_view xi_286_2 = true := by decide +kernel
def xi_286_3 : XIs := [(84, .invokevirtual 298, 3), (87, .iload_n 1, 1), (88, .ifCond .ge 10, 3), (91, .aload_n 0, 1), (92, .getfield 291, 3), (95, .goto 4, 3), (98, .iload_n 1, 1), (99, .ireturn, 1)]
set_option maxRecDepth 100000 in
theorem xi_ok286_3 : xi_ok cX12_view xi_286_3 = true := by decide +kernel
def xi_286 (pc : Nat) : XIs := cond (Nat.blt pc 56) (cond (Nat.blt pc 28) (xi_286_0) (xi_286_1)) (cond (Nat.blt pc 84) (xi_286_2) (xi_286_3))
theorem xi_ok286 (pc : Nat) : xi_ok cX12_view (xi_286 pc) = true := xi_c (xi_c (xi_ok286_0) (xi_ok286_1)) (xi_c (xi_ok286_2) (xi_ok286_3))
def xi_287_0 : XIs := [(0, .aload_n 0, 1), (1, .iconst 0, 1), (2, .putfield 278, 3), (5, .aload_n 0, 1), (6, .getfield 291, 3), (9, .ireturn, 1)]
set_option maxRecDepth 100000 in
theorem xi_ok287_0 : xi_ok cX12_version xi_287_0 = true := by decide +kernel
def xi_287 (pc : Nat) : XIs := xi_287_0
theorem xi_ok287 (pc : Nat) : xi_ok cX12_version (xi_287 pc) = true := xi_ok287_0
def xi_288_0 : XIs := [(0, .aload_n 0, 1), (1, .getfield 16, 3), (4, .aload_n 0, 1), (5, .getfield 288, 3), (8, .iload_n 1, 1), (9, .iadd, 1), (10, .baload, 1), (11, .ifCond .eq 32, 3), (14, .aload_n 0, 1), (15, .getfield 20, 3), (18, .aload_n 0, 1), (19, .getfield 288, 3), (22, .iload_n 1, 1), (23, .iadd, 1), (24, .iaload, 1), (25, .aload_n 0, 1)]
set_option maxRecDepth 100000 in
theorem xi_ok288_0 : xi_ok cX12_isJoint xi_288_0 = true := by decide +kernel
def xi_288_1 : XIs := [(26, .getfield 23, 3), (29, .aload_n 0, 1), (30, .getfield 288, 3), (33, .iload_n 1, 1), (34, .iadd, 1), (35, .iaload, 1), (36, .if_icmp .eq 7, 3), (39, .iconst 1, 1), (40, .goto 4, 3), (43, .iconst 0, 1), (44, .ireturn, 1)]
set_option maxRecDepth 100000 in
theorem xi_ok288_1 : xi_ok cX12_isJoint xi_288_1 = true := by decide +kernel
def xi_288 (pc : Nat) : XIs := cond (Nat.blt pc 26) (xi_288_0) (xi_288_1)
theorem xi_ok288 (pc : Nat) : xi_ok cX12_isJoint (xi_288 pc) = true := xi_c (xi_ok288_0) (xi_ok288_1)
def xi_289_0 : XIs := [(0, .aload_n 0, 1), (1, .iload_n 1, 1), (2, .i2l, 1), (3, .lconst 0, 1), (4, .ldc2_w 338, 3), (7, .invokestatic 308, 3), (10, .invokevirtual 334, 3), (13, .ifCond .eq 5, 3), (16, .iconst 0, 1), (17, .ireturn, 1), (18, .iconst 0, 1), (19, .istore_n 2, 1), (20, .iconst 0, 1), (21, .istore_n 3, 1), (22, .iconst (-1), 1), (23, .istore 4, 2)]
set_option maxRecDepth 100000 in
theorem xi_ok289_0 : xi_ok cX12_size xi_289_0 = true := by decide +kernel
def xi_289_1 : XIs := [(25, .iconst 0, 1), (26, .istore 5, 2), (28, .iload 5, 2), (30, .sipush 160, 3), (33, .if_icmp .ge 73, 3), (36, .iload_n 2, 1), (37, .aload_n 0, 1), (38, .getfield 16, 3), (41, .aload_n 0, 1), (42, .getfield 288, 3), (45, .iload 5, 2), (47, .iadd, 1), (48, .baload, 1), (49, .ifCond .eq 7, 3), (52, .iconst 1, 1), (53, .goto 4, 3)]
set_option maxRecDepth 100000 in
theorem xi_ok289_1 : xi_ok cX12_size xi_289_1 = true := by decide +kernel
def xi_289_2 : XIs := [(56, .iconst 0, 1), (57, .iadd, 1), (58, .istore_n 2, 1), (59, .iload_n 3, 1), (60, .aload_n 0, 1), (61, .iload 5, 2), (63, .invokevirtual 340, 3), (66, .ifCond .eq 7, 3), (69, .iconst 1, 1), (70, .goto 4, 3), (73, .iconst 0, 1), (74, .iadd, 1), (75, .istore_n 3, 1), (76, .aload_n 0, 1), (77, .getfield 16, 3), (80, .aload_n 0, 1)]
set_option maxRecDepth 100000 in
theorem xi_ok289_2 : xi_ok cX12_size xi_289_2 = true := by decide +kernel
def xi_289_3 : XIs := [(81, .getfield 288, 3), (84, .iload 5, 2), (86, .iadd, 1), (87, .baload, 1), (88, .ifCond .eq 8, 3), (91, .iload 5, 2), (93, .goto 5, 3), (96, .iload 4, 2), (98, .istore 4, 2), (100, .iinc 5 1, 3), (103, .goto (-75), 3), (106, .iload_n 1, 1), (107, .ifCond .ne 10, 3), (110, .aload_n 0, 1), (111, .getfield 285, 3), (114, .goto 23, 3)]
set_option maxRecDepth 100000 in
theorem xi_ok289_3 : xi_ok cX12_size xi_289_3 = true := by decide +kernel
def xi_289_4 : XIs := [(117, .iload_n 1, 1), (118, .iconst 1, 1), (119, .if_icmp .ne 7, 3), (122, .iload_n 2, 1), (123, .goto 14, 3), (126, .iload_n 1, 1), (127, .iconst 2, 1), (128, .if_icmp .ne 7, 3), (131, .iload_n 3, 1), (132, .goto 5, 3), (135, .iload 4, 2), (137, .ireturn, 1)]
set_option maxRecDepth 100000 in
theorem xi_ok289_4 : xi_ok cX12_size xi_289_4 = true := by decide +kernel
def xi_289 (pc : Nat) : XIs := cond (Nat.blt pc 56) (cond (Nat.blt pc 25) (xi_289_0) (xi_289_1)) (cond (Nat.blt pc 81) (xi_289_2) (cond (Nat.blt pc 117) (xi_289_3) (xi_289_4)))
theorem xi_ok289 (pc : Nat) : xi_ok cX12_size (xi_289 pc) = true := xi_c (xi_c (xi_ok289_0) (xi_ok289_1)) (xi_c (xi_ok289_2) (xi_c (xi_ok289_3) (xi_ok289_4)))
def xi_290_0 : XIs := [(0, .aload_n 0, 1), (1, .iload_n 1, 1), (2, .i2l, 1), (3, .lconst 0, 1), (4, .ldc2_w 343, 3), (7, .invokestatic 308, 3), (10, .ifCond .eq 19, 3), (13, .iload_n 2, 1), (14, .i2l, 1), (15, .lconst 0, 1), (16, .ldc2_w 345, 3), (19, .invokestatic 308, 3), (22, .ifCond .eq 7, 3), (25, .iconst 1, 1), (26, .goto 4, 3), (29, .iconst 0, 1)]
set_option maxRecDepth 100000 in
theorem xi_ok290_0 : xi_ok cX12_told xi_290_0 = true := by decide +kernel
def xi_290_1 : XIs := [(30, .invokevirtual 334, 3), (33, .ifCond .eq 5, 3), (36, .lconst 0, 1), (37, .lreturn, 1), (38, .aload_n 0, 1), (39, .getfield 288, 3), (42, .iload_n 1, 1), (43, .iadd, 1), (44, .istore_n 3, 1), (45, .aload_n 0, 1), (46, .getfield 16, 3), (49, .iload_n 3, 1), (50, .baload, 1), (51, .ifCond .ne 7, 3), (54, .ldc2_w 347, 3), (57, .lreturn, 1)]
set_option maxRecDepth 100000 in
theorem xi_ok290_1 : xi_ok cX12_told xi_290_1 = true := by decide +kernel
def xi_290_2 : XIs := [(58, .iload_n 2, 1), (59, .ifCond .ne 13, 3), (62, .aload_n 0, 1), (63, .getfield 20, 3), (66, .iload_n 3, 1), (67, .iaload, 1), (68, .i2l, 1), (69, .goto 55, 3), (72, .iload_n 2, 1), (73, .iconst 1, 1), (74, .if_icmp .ne 13, 3), (77, .aload_n 0, 1), (78, .getfield 23, 3), (81, .iload_n 3, 1), (82, .iaload, 1), (83, .i2l, 1)]
set_option maxRecDepth 100000 in
theorem xi_ok290_2 : xi_ok cX12_told xi_290_2 = true := by decide +kernel
def xi_290_3 : XIs := [(84, .goto 40, 3), (87, .iload_n 2, 1), (88, .iconst 2, 1), (89, .if_icmp .ne 13, 3), (92, .aload_n 0, 1), (93, .getfield 26, 3), (96, .iload_n 3, 1), (97, .iaload, 1), (98, .i2l, 1), (99, .goto 25, 3), (102, .iload_n 2, 1), (103, .iconst 3, 1), (104, .if_icmp .ne 13, 3), (107, .aload_n 0, 1), (108, .getfield 29, 3), (111, .iload_n 3, 1)]
set_option maxRecDepth 100000 in
theorem xi_ok290_3 : xi_ok cX12_told xi_290_3 = true := by decide +kernel
def xi_290_4 : XIs := [(112, .iaload, 1), (113, .i2l, 1), (114, .goto 10, 3), (117, .aload_n 0, 1), (118, .getfield 32, 3), (121, .iload_n 3, 1), (122, .iaload, 1), (123, .i2l, 1), (124, .lreturn, 1)]
set_option maxRecDepth 100000 in
theorem xi_ok290_4 : xi_ok cX12_told xi_290_4 = true := by decide +kernel
def xi_290 (pc : Nat) : XIs := cond (Nat.blt pc 58) (cond (Nat.blt pc 30) (xi_290_0) (xi_290_1)) (cond (Nat.blt pc 84) (xi_290_2) (cond (Nat.blt pc 112) (xi_290_3) (xi_290_4)))
theorem xi_ok290 (pc : Nat) : xi_ok cX12_told (xi_290 pc) = true := xi_c (xi_c (xi_ok290_0) (xi_ok290_1)) (xi_c (xi_ok290_2) (xi_c (xi_ok290_3) (xi_ok290_4)))
def xi_291_0 : XIs := [(0, .aload_n 0, 1), (1, .aload_n 0, 1), (2, .iload_n 1, 1), (3, .invokevirtual 349, 3), (6, .invokevirtual 334, 3), (9, .ifCond .eq 7, 3), (12, .iconst 0, 1), (13, .goto 17, 3), (16, .aload_n 0, 1), (17, .getfield 13, 3), (20, .bipush 32, 2), (22, .aload_n 0, 1), (23, .getfield 301, 3), (26, .imul, 1), (27, .iload_n 1, 1), (28, .iadd, 1)]
set_option maxRecDepth 100000 in
theorem xi_ok291_0 : xi_ok cX12_labelOf xi_291_0 = true := by decide +kernel
def xi_291_1 : XIs := [(29, .iaload, 1), (30, .ireturn, 1)]
set_option maxRecDepth 100000 in
theorem xi_ok291_1 : xi_ok cX12_labelOf xi_291_1 = true := by decide +kernel
def xi_291 (pc : Nat) : XIs := cond (Nat.blt pc 29) (xi_291_0) (xi_291_1)
theorem xi_ok291 (pc : Nat) : xi_ok cX12_labelOf (xi_291 pc) = true := xi_c (xi_ok291_0) (xi_ok291_1)
def xi_292_0 : XIs := [(0, .aload_n 0, 1), (1, .aload_n 0, 1), (2, .iload_n 1, 1), (3, .invokevirtual 349, 3), (6, .ifCond .eq 21, 3), (9, .iload_n 2, 1), (10, .i2l, 1), (11, .lconst 0, 1), (12, .lconst 1, 1), (13, .invokestatic 308, 3), (16, .ifCond .eq 11, 3), (19, .iload_n 3, 1), (20, .ifCond .lt 7, 3), (23, .iconst 1, 1), (24, .goto 4, 3), (27, .iconst 0, 1)]
set_option maxRecDepth 100000 in
theorem xi_ok292_0 : xi_ok cX12_arcAt xi_292_0 = true := by decide +kernel
def xi_292_1 : XIs := [(28, .invokevirtual 334, 3), (31, .ifCond .eq 5, 3), (34, .iconst 0, 1), (35, .ireturn, 1), (36, .iconst 0, 1), (37, .istore 4, 2), (39, .iconst 0, 1), (40, .istore 5, 2), (42, .iload 5, 2), (44, .sipush 160, 3), (47, .if_icmp .ge 71, 3), (50, .aload_n 0, 1), (51, .getfield 16, 3), (54, .aload_n 0, 1), (55, .getfield 288, 3), (58, .iload 5, 2)]
set_option maxRecDepth 100000 in
theorem xi_ok292_1 : xi_ok cX12_arcAt xi_292_1 = true := by decide +kernel
def xi_292_2 : XIs := [(60, .iadd, 1), (61, .baload, 1), (62, .ifCond .eq 50, 3), (65, .iload_n 2, 1), (66, .ifCond .ne 18, 3), (69, .aload_n 0, 1), (70, .getfield 20, 3), (73, .aload_n 0, 1), (74, .getfield 288, 3), (77, .iload 5, 2), (79, .iadd, 1), (80, .iaload, 1), (81, .goto 15, 3), (84, .aload_n 0, 1), (85, .getfield 23, 3), (88, .aload_n 0, 1)]
set_option maxRecDepth 100000 in
theorem xi_ok292_2 : xi_ok cX12_arcAt xi_292_2 = true := by decide +kernel
def xi_292_3 : XIs := [(89, .getfield 288, 3), (92, .iload 5, 2), (94, .iadd, 1), (95, .iaload, 1), (96, .iload_n 1, 1), (97, .if_icmp .ne 15, 3), (100, .iload 4, 2), (102, .iload_n 3, 1), (103, .if_icmp .ne 6, 3), (106, .iload 5, 2), (108, .ireturn, 1), (109, .iinc 4 1, 3), (112, .iinc 5 1, 3), (115, .goto (-73), 3), (118, .iconst (-1), 1), (119, .ireturn, 1)]
set_option maxRecDepth 100000 in
theorem xi_ok292_3 : xi_ok cX12_arcAt xi_292_3 = true := by decide +kernel
def xi_292 (pc : Nat) : XIs := cond (Nat.blt pc 60) (cond (Nat.blt pc 28) (xi_292_0) (xi_292_1)) (cond (Nat.blt pc 89) (xi_292_2) (xi_292_3))
theorem xi_ok292 (pc : Nat) : xi_ok cX12_arcAt (xi_292 pc) = true := xi_c (xi_c (xi_ok292_0) (xi_ok292_1)) (xi_c (xi_ok292_2) (xi_ok292_3))
def xi_293_0 : XIs := [(0, .aload_n 0, 1), (1, .iload_n 1, 1), (2, .i2l, 1), (3, .ldc2_w 352, 3), (6, .ldc2_w 354, 3), (9, .invokestatic 308, 3), (12, .aload_n 0, 1), (13, .getfield 356, 3), (16, .sipush 1000, 3), (19, .if_icmp .ge 7, 3), (22, .iconst 1, 1), (23, .goto 4, 3), (26, .iconst 0, 1), (27, .invokevirtual 281, 3), (30, .ifCond .eq 5, 3), (33, .iconst 0, 1)]
set_option maxRecDepth 100000 in
theorem xi_ok293_0 : xi_ok cX12_type xi_293_0 = true := by decide +kernel
def xi_293_1 : XIs := [(34, .ireturn, 1), (35, .aload_n 0, 1), (36, .getfield 60, 3), (39, .aload_n 0, 1), (40, .getfield 356, 3), (43, .iload_n 1, 1), (44, .iastore, 1), (45, .aload_n 0, 1), (46, .dup, 1), (47, .getfield 356, 3), (50, .iconst 1, 1), (51, .iadd, 1), (52, .putfield 356, 3), (55, .aload_n 0, 1), (56, .getfield 356, 3), (59, .ireturn, 1)]
set_option maxRecDepth 100000 in
theorem xi_ok293_1 : xi_ok cX12_type xi_293_1 = true := by decide +kernel
def xi_293 (pc : Nat) : XIs := cond (Nat.blt pc 34) (xi_293_0) (xi_293_1)
theorem xi_ok293 (pc : Nat) : xi_ok cX12_type (xi_293 pc) = true := xi_c (xi_ok293_0) (xi_ok293_1)
def xi_294_0 : XIs := [(0, .aload_n 0, 1), (1, .iconst 0, 1), (2, .putfield 278, 3), (5, .aload_n 0, 1), (6, .getfield 356, 3), (9, .istore_n 1, 1), (10, .aload_n 0, 1), (11, .iconst 0, 1), (12, .putfield 356, 3), (15, .iload_n 1, 1), (16, .ireturn, 1)]
set_option maxRecDepth 100000 in
theorem xi_ok294_0 : xi_ok cX12_wipe xi_294_0 = true := by decide +kernel
def xi_294 (pc : Nat) : XIs := xi_294_0
theorem xi_ok294 (pc : Nat) : xi_ok cX12_wipe (xi_294 pc) = true := xi_ok294_0
def xi_295_0 : XIs := [(0, .aload_n 0, 1), (1, .iload_n 1, 1), (2, .i2l, 1), (3, .lconst 0, 1), (4, .lconst 1, 1), (5, .invokestatic 308, 3), (8, .invokevirtual 334, 3), (11, .ifCond .eq 5, 3), (14, .iconst 0, 1), (15, .ireturn, 1), (16, .aload_n 0, 1), (17, .getfield 359, 3), (20, .ifCond .ne 7, 3), (23, .iconst (-1), 1), (24, .goto 18, 3), (27, .iload_n 1, 1)]
set_option maxRecDepth 100000 in
theorem xi_ok295_0 : xi_ok cX12_fault xi_295_0 = true := by decide +kernel
def xi_295_1 : XIs := [(28, .ifCond .ne 10, 3), (31, .aload_n 0, 1), (32, .getfield 359, 3), (35, .goto 7, 3), (38, .aload_n 0, 1), (39, .getfield 362, 3), (42, .ireturn, 1)]
set_option maxRecDepth 100000 in
theorem xi_ok295_1 : xi_ok cX12_fault xi_295_1 = true := by decide +kernel
def xi_295 (pc : Nat) : XIs := cond (Nat.blt pc 28) (xi_295_0) (xi_295_1)
theorem xi_ok295 (pc : Nat) : xi_ok cX12_fault (xi_295 pc) = true := xi_c (xi_ok295_0) (xi_ok295_1)
def xi_296_0 : XIs := [(0, .iload_n 0, 1), (1, .bipush 97, 2), (3, .if_icmp .lt 13, 3), (6, .iload_n 0, 1), (7, .bipush 122, 2), (9, .if_icmp .gt 7, 3), (12, .iconst 1, 1), (13, .goto 4, 3), (16, .iconst 0, 1), (17, .ireturn, 1)]
set_option maxRecDepth 100000 in
theorem xi_ok296_0 : xi_ok cX12_isLetter xi_296_0 = true := by decide +kernel
def xi_296 (pc : Nat) : XIs := xi_296_0
theorem xi_ok296 (pc : Nat) : xi_ok cX12_isLetter (xi_296 pc) = true := xi_ok296_0
def xi_297_0 : XIs := [(0, .iload_n 0, 1), (1, .bipush 48, 2), (3, .if_icmp .lt 13, 3), (6, .iload_n 0, 1), (7, .bipush 57, 2), (9, .if_icmp .gt 7, 3), (12, .iconst 1, 1), (13, .goto 4, 3), (16, .iconst 0, 1), (17, .ireturn, 1)]
set_option maxRecDepth 100000 in
theorem xi_ok297_0 : xi_ok cX12_isDigit xi_297_0 = true := by decide +kernel
def xi_297 (pc : Nat) : XIs := xi_297_0
theorem xi_ok297 (pc : Nat) : xi_ok cX12_isDigit (xi_297 pc) = true := xi_ok297_0
def xi_298_0 : XIs := [(0, .aload_n 0, 1), (1, .getfield 359, 3), (4, .ifCond .ne 13, 3), (7, .aload_n 0, 1), (8, .iload_n 1, 1), (9, .putfield 359, 3), (12, .aload_n 0, 1), (13, .iload_n 2, 1), (14, .putfield 362, 3), (17, .return_, 1)]
set_option maxRecDepth 100000 in
theorem xi_ok298_0 : xi_ok cX12_blame xi_298_0 = true := by decide +kernel
def xi_298 (pc : Nat) : XIs := xi_298_0
theorem xi_ok298 (pc : Nat) : xi_ok cX12_blame (xi_298 pc) = true := xi_ok298_0
def xi_299_0 : XIs := [(0, .aload_n 0, 1), (1, .getfield 365, 3), (4, .aload_n 0, 1), (5, .getfield 356, 3), (8, .if_icmp .ge 30, 3), (11, .aload_n 0, 1), (12, .getfield 60, 3), (15, .aload_n 0, 1), (16, .getfield 365, 3), (19, .iaload, 1), (20, .bipush 32, 2), (22, .if_icmp .ne 16, 3), (25, .aload_n 0, 1), (26, .dup, 1), (27, .getfield 365, 3), (30, .iconst 1, 1)]
set_option maxRecDepth 100000 in
theorem xi_ok299_0 : xi_ok cX12_nextToken xi_299_0 = true := by decide +kernel
def xi_299_1 : XIs := [(31, .iadd, 1), (32, .putfield 365, 3), (35, .goto (-35), 3), (38, .aload_n 0, 1), (39, .aload_n 0, 1), (40, .getfield 365, 3), (43, .putfield 368, 3), (46, .aload_n 0, 1), (47, .getfield 365, 3), (50, .aload_n 0, 1), (51, .getfield 356, 3), (54, .if_icmp .ne 9, 3), (57, .aload_n 0, 1), (58, .iconst 0, 1), (59, .putfield 371, 3), (62, .return_, 1)]
set_option maxRecDepth 100000 in
theorem xi_ok299_1 : xi_ok cX12_nextToken xi_299_1 = true := by decide +kernel
def xi_299_2 : XIs := [(63, .aload_n 0, 1), (64, .getfield 60, 3), (67, .aload_n 0, 1), (68, .getfield 365, 3), (71, .iaload, 1), (72, .istore_n 1, 1), (73, .aload_n 0, 1), (74, .iload_n 1, 1), (75, .putfield 374, 3), (78, .iload_n 1, 1), (79, .bipush 45, 2), (81, .if_icmp .ne 37, 3), (84, .aload_n 0, 1), (85, .getfield 365, 3), (88, .iconst 1, 1), (89, .iadd, 1)]
set_option maxRecDepth 100000 in
theorem xi_ok299_2 : xi_ok cX12_nextToken xi_299_2 = true := by decide +kernel
def xi_299_3 : XIs := [(90, .aload_n 0, 1), (91, .getfield 356, 3), (94, .if_icmp .ge 24, 3), (97, .aload_n 0, 1), (98, .getfield 60, 3), (101, .aload_n 0, 1), (102, .getfield 365, 3), (105, .iconst 1, 1), (106, .iadd, 1), (107, .iaload, 1), (108, .invokestatic 377, 3), (111, .ifCond .eq 7, 3), (114, .iconst 1, 1), (115, .goto 4, 3), (118, .iconst 0, 1), (119, .istore_n 2, 1)]
set_option maxRecDepth 100000 in
theorem xi_ok299_3 : xi_ok cX12_nextToken xi_299_3 = true := by decide +kernel
def xi_299_4 : XIs := [(120, .iload_n 1, 1), (121, .invokestatic 377, 3), (124, .ifCond .ne 7, 3), (127, .iload_n 2, 1), (128, .ifCond .eq 53, 3), (131, .aload_n 0, 1), (132, .iconst 2, 1), (133, .putfield 371, 3), (136, .aload_n 0, 1), (137, .dup, 1), (138, .getfield 365, 3), (141, .iload_n 2, 1), (142, .ifCond .eq 7, 3), (145, .iconst 1, 1), (146, .goto 4, 3), (149, .iconst 0, 1)]
set_option maxRecDepth 100000 in
theorem xi_ok299_4 : xi_ok cX12_nextToken xi_299_4 = true := by decide +kernel
def xi_299_5 : XIs := [(150, .iadd, 1), (151, .putfield 365, 3), (154, .aload_n 0, 1), (155, .bipush 7, 2), (157, .invokevirtual 380, 3), (160, .aload_n 0, 1), (161, .iload_n 2, 1), (162, .ifCond .eq 11, 3), (165, .aload_n 0, 1), (166, .getfield 384, 3), (169, .lneg, 1), (170, .goto 7, 3), (173, .aload_n 0, 1), (174, .getfield 384, 3), (177, .putfield 384, 3), (180, .return_, 1)]
set_option maxRecDepth 100000 in
theorem xi_ok299_5 : xi_ok cX12_nextToken xi_299_5 = true := by decide +kernel
def xi_299_6 : XIs := [(181, .aload_n 0, 1), (182, .iload_n 1, 1), (183, .invokestatic 388, 3), (186, .ifCond .eq 7, 3), (189, .iconst 1, 1), (190, .goto 4, 3), (193, .iconst 3, 1), (194, .putfield 371, 3), (197, .aload_n 0, 1), (198, .getfield 371, 3), (201, .iconst 3, 1), (202, .if_icmp .ne 18, 3), (205, .iload_n 1, 1), (206, .bipush 59, 2), (208, .if_icmp .eq 12, 3), (211, .aload_n 0, 1)]
set_option maxRecDepth 100000 in
theorem xi_ok299_6 : xi_ok cX12_nextToken xi_299_6 = true := by decide +kernel
def xi_299_7 : XIs := [(212, .iconst 1, 1), (213, .aload_n 0, 1), (214, .getfield 368, 3), (217, .invokevirtual 391, 3), (220, .aload_n 0, 1), (221, .dup, 1), (222, .getfield 365, 3), (225, .iconst 1, 1), (226, .iadd, 1), (227, .putfield 365, 3), (230, .return_, 1)]
set_option maxRecDepth 100000 in
theorem xi_ok299_7 : xi_ok cX12_nextToken xi_299_7 = true := by decide +kernel
def xi_299 (pc : Nat) : XIs := cond (Nat.blt pc 120) (cond (Nat.blt pc 63) (cond (Nat.blt pc 31) (xi_299_0) (xi_299_1)) (cond (Nat.blt pc 90) (xi_299_2) (xi_299_3))) (cond (Nat.blt pc 181) (cond (Nat.blt pc 150) (xi_299_4) (xi_299_5)) (cond (Nat.blt pc 212) (xi_299_6) (xi_299_7)))
theorem xi_ok299 (pc : Nat) : xi_ok cX12_nextToken (xi_299 pc) = true := xi_c (xi_c (xi_c (xi_ok299_0) (xi_ok299_1)) (xi_c (xi_ok299_2) (xi_ok299_3))) (xi_c (xi_c (xi_ok299_4) (xi_ok299_5)) (xi_c (xi_ok299_6) (xi_ok299_7)))
def xi_300_0 : XIs := [(0, .aload_n 0, 1), (1, .getfield 365, 3), (4, .istore_n 2, 1), (5, .aload_n 0, 1), (6, .lconst 0, 1), (7, .putfield 384, 3), (10, .aload_n 0, 1), (11, .getfield 365, 3), (14, .aload_n 0, 1), (15, .getfield 356, 3), (18, .if_icmp .ge 75, 3), (21, .aload_n 0, 1), (22, .getfield 60, 3), (25, .aload_n 0, 1), (26, .getfield 365, 3), (29, .iaload, 1)]
set_option maxRecDepth 100000 in
theorem xi_ok300_0 : xi_ok cX12_readNumber xi_300_0 = true := by decide +kernel
def xi_300_1 : XIs := [(30, .invokestatic 377, 3), (33, .ifCond .eq 60, 3), (36, .aload_n 0, 1), (37, .aload_n 0, 1), (38, .getfield 365, 3), (41, .iload_n 2, 1), (42, .isub, 1), (43, .iload_n 1, 1), (44, .if_icmp .ge 29, 3), (47, .ldc2_w 394, 3), (50, .aload_n 0, 1), (51, .getfield 384, 3), (54, .lmul, 1), (55, .aload_n 0, 1), (56, .getfield 60, 3), (59, .aload_n 0, 1)]
set_option maxRecDepth 100000 in
theorem xi_ok300_1 : xi_ok cX12_readNumber xi_300_1 = true := by decide +kernel
def xi_300_2 : XIs := [(60, .getfield 365, 3), (63, .iaload, 1), (64, .i2l, 1), (65, .ladd, 1), (66, .ldc2_w 396, 3), (69, .lsub, 1), (70, .goto 7, 3), (73, .aload_n 0, 1), (74, .getfield 384, 3), (77, .putfield 384, 3), (80, .aload_n 0, 1), (81, .dup, 1), (82, .getfield 365, 3), (85, .iconst 1, 1), (86, .iadd, 1), (87, .putfield 365, 3)]
set_option maxRecDepth 100000 in
theorem xi_ok300_2 : xi_ok cX12_readNumber xi_300_2 = true := by decide +kernel
def xi_300_3 : XIs := [(90, .goto (-80), 3), (93, .aload_n 0, 1), (94, .getfield 365, 3), (97, .iload_n 2, 1), (98, .isub, 1), (99, .iload_n 1, 1), (100, .if_icmp .le 22, 3), (103, .aload_n 0, 1), (104, .iload_n 1, 1), (105, .bipush 7, 2), (107, .if_icmp .ne 7, 3), (110, .iconst 3, 1), (111, .goto 4, 3), (114, .iconst 4, 1), (115, .aload_n 0, 1), (116, .getfield 368, 3)]
set_option maxRecDepth 100000 in
theorem xi_ok300_3 : xi_ok cX12_readNumber xi_300_3 = true := by decide +kernel
def xi_300_4 : XIs := [(119, .invokevirtual 391, 3), (122, .return_, 1)]
set_option maxRecDepth 100000 in
theorem xi_ok300_4 : xi_ok cX12_readNumber xi_300_4 = true := by decide +kernel
def xi_300 (pc : Nat) : XIs := cond (Nat.blt pc 60) (cond (Nat.blt pc 30) (xi_300_0) (xi_300_1)) (cond (Nat.blt pc 90) (xi_300_2) (cond (Nat.blt pc 119) (xi_300_3) (xi_300_4)))
theorem xi_ok300 (pc : Nat) : xi_ok cX12_readNumber (xi_300 pc) = true := xi_c (xi_c (xi_ok300_0) (xi_ok300_1)) (xi_c (xi_ok300_2) (xi_c (xi_ok300_3) (xi_ok300_4)))
def xi_301_0 : XIs := [(0, .iload_n 1, 1), (1, .lookupswitch 76 #[(97, 45), (110, 35), (116, 65)], 35), (36, .iload_n 2, 1), (37, .ifCond .ne 7, 3), (40, .iconst 1, 1), (41, .goto 4, 3), (44, .iconst 3, 1), (45, .ireturn, 1), (46, .iload_n 2, 1), (47, .iconst 4, 1), (48, .if_icmp .ge 7, 3), (51, .iconst 2, 1), (52, .goto 13, 3), (55, .iload_n 2, 1), (56, .iconst 4, 1), (57, .if_icmp .ne 7, 3)]
set_option maxRecDepth 100000 in
theorem xi_ok301_0 : xi_ok cX12_shape xi_301_0 = true := by decide +kernel
def xi_301_1 : XIs := [(60, .iconst 1, 1), (61, .goto 4, 3), (64, .iconst 3, 1), (65, .ireturn, 1), (66, .iload_n 2, 1), (67, .iconst 1, 1), (68, .if_icmp .ge 7, 3), (71, .iconst 2, 1), (72, .goto 4, 3), (75, .iconst 3, 1), (76, .ireturn, 1), (77, .iload_n 2, 1), (78, .iconst 2, 1), (79, .if_icmp .ge 7, 3), (82, .iconst 2, 1), (83, .goto 4, 3)]
set_option maxRecDepth 100000 in
theorem xi_ok301_1 : xi_ok cX12_shape xi_301_1 = true := by decide +kernel
def xi_301_2 : XIs := [(86, .iconst 3, 1), (87, .ireturn, 1)]
set_option maxRecDepth 100000 in
theorem xi_ok301_2 : xi_ok cX12_shape xi_301_2 = true := by decide +kernel
def xi_301 (pc : Nat) : XIs := cond (Nat.blt pc 60) (xi_301_0) (cond (Nat.blt pc 86) (xi_301_1) (xi_301_2))
theorem xi_ok301 (pc : Nat) : xi_ok cX12_shape (xi_301 pc) = true := xi_c (xi_ok301_0) (xi_c (xi_ok301_1) (xi_ok301_2))
def xi_302 (pc : Nat) : XIs := []
theorem xi_ok302 (pc : Nat) : xi_ok cX12_load (xi_302 pc) = true := rfl
def xi_303_0 : XIs := [(0, .aload_n 0, 1), (1, .getfield 7, 3), (4, .iconst 2, 1), (5, .aload_n 0, 1), (6, .getfield 7, 3), (9, .iconst 0, 1), (10, .iaload, 1), (11, .iastore, 1), (12, .iconst 0, 1), (13, .istore_n 1, 1), (14, .iload_n 1, 1), (15, .sipush 160, 3), (18, .if_icmp .ge 25, 3), (21, .aload_n 0, 1), (22, .getfield 16, 3), (25, .sipush 320, 3)]
set_option maxRecDepth 100000 in
theorem xi_ok303_0 : xi_ok cX12_copyGraph xi_303_0 = true := by decide +kernel
def xi_303_1 : XIs := [(28, .iload_n 1, 1), (29, .iadd, 1), (30, .aload_n 0, 1), (31, .getfield 16, 3), (34, .iload_n 1, 1), (35, .baload, 1), (36, .bastore, 1), (37, .iinc 1 1, 3), (40, .goto (-26), 3), (43, .return_, 1)]
set_option maxRecDepth 100000 in
theorem xi_ok303_1 : xi_ok cX12_copyGraph xi_303_1 = true := by decide +kernel
def xi_303 (pc : Nat) : XIs := cond (Nat.blt pc 28) (xi_303_0) (xi_303_1)
theorem xi_ok303 (pc : Nat) : xi_ok cX12_copyGraph (xi_303 pc) = true := xi_c (xi_ok303_0) (xi_ok303_1)
def xi_304 (pc : Nat) : XIs := []
theorem xi_ok304 (pc : Nat) : xi_ok cX12_command (xi_304 pc) = true := rfl
def xi_305 (pc : Nat) : XIs := []
theorem xi_ok305 (pc : Nat) : xi_ok cX12_isDone (xi_305 pc) = true := rfl
def xi_306_0 : XIs := [(0, .aload_n 0, 1), (1, .getfield 63, 3), (4, .aload_n 0, 1), (5, .getfield 418, 3), (8, .iload_n 1, 1), (9, .iastore, 1), (10, .aload_n 0, 1), (11, .dup, 1), (12, .getfield 418, 3), (15, .iconst 1, 1), (16, .iadd, 1), (17, .putfield 418, 3), (20, .return_, 1)]
set_option maxRecDepth 100000 in
theorem xi_ok306_0 : xi_ok cX12_put xi_306_0 = true := by decide +kernel
def xi_306 (pc : Nat) : XIs := xi_306_0
theorem xi_ok306 (pc : Nat) : xi_ok cX12_put (xi_306 pc) = true := xi_ok306_0
def xi_307 (pc : Nat) : XIs := []
theorem xi_ok307 (pc : Nat) : xi_ok cX12_putNumber (xi_307 pc) = true := rfl
def xi_308 (pc : Nat) : XIs := []
theorem xi_ok308 (pc : Nat) : xi_ok cX12_print (xi_308 pc) = true := rfl
def xi_309_0 : XIs := [(0, .aload_n 0, 1), (1, .iload_n 1, 1), (2, .ifCond .lt 15, 3), (5, .iload_n 1, 1), (6, .aload_n 0, 1), (7, .getfield 418, 3), (10, .if_icmp .ge 7, 3), (13, .iconst 1, 1), (14, .goto 4, 3), (17, .iconst 0, 1), (18, .invokevirtual 334, 3), (21, .ifCond .eq 7, 3), (24, .iconst 0, 1), (25, .goto 9, 3), (28, .aload_n 0, 1), (29, .getfield 63, 3)]
set_option maxRecDepth 100000 in
theorem xi_ok309_0 : xi_ok cX12_printed xi_309_0 = true := by decide +kernel
def xi_309_1 : XIs := [(32, .iload_n 1, 1), (33, .iaload, 1), (34, .ireturn, 1)]
set_option maxRecDepth 100000 in
theorem xi_ok309_1 : xi_ok cX12_printed xi_309_1 = true := by decide +kernel
def xi_309 (pc : Nat) : XIs := cond (Nat.blt pc 32) (xi_309_0) (xi_309_1)
theorem xi_ok309 (pc : Nat) : xi_ok cX12_printed (xi_309 pc) = true := xi_c (xi_ok309_0) (xi_ok309_1)
def xi_310_0 : XIs := [(0, .iconst 0, 1), (1, .istore 4, 2), (3, .iload 4, 2), (5, .aload_n 0, 1), (6, .getfield 285, 3), (9, .if_icmp .ge 30, 3), (12, .aload_n 0, 1), (13, .getfield 72, 3), (16, .iload 4, 2), (18, .iload 4, 2), (20, .iload_n 3, 1), (21, .if_icmp .ne 7, 3), (24, .iconst 0, 1), (25, .goto 7, 3), (28, .iconst 1, 1), (29, .iload 4, 2)]
set_option maxRecDepth 100000 in
theorem xi_ok310_0 : xi_ok cX12_close xi_310_0 = true := by decide +kernel
def xi_310_1 : XIs := [(31, .ishl, 1), (32, .iastore, 1), (33, .iinc 4 1, 3), (36, .goto (-33), 3), (39, .iconst 0, 1), (40, .istore 4, 2), (42, .iload 4, 2), (44, .sipush 160, 3), (47, .if_icmp .ge 106, 3), (50, .aload_n 0, 1), (51, .getfield 20, 3), (54, .aload_n 0, 1), (55, .getfield 288, 3), (58, .iload 4, 2), (60, .iadd, 1), (61, .iaload, 1)]
set_option maxRecDepth 100000 in
theorem xi_ok310_1 : xi_ok cX12_close xi_310_1 = true := by decide +kernel
def xi_310_2 : XIs := [(62, .istore 5, 2), (64, .aload_n 0, 1), (65, .getfield 23, 3), (68, .aload_n 0, 1), (69, .getfield 288, 3), (72, .iload 4, 2), (74, .iadd, 1), (75, .iaload, 1), (76, .istore 6, 2), (78, .aload_n 0, 1), (79, .getfield 16, 3), (82, .aload_n 0, 1), (83, .getfield 288, 3), (86, .iload 4, 2), (88, .iadd, 1), (89, .baload, 1)]
set_option maxRecDepth 100000 in
theorem xi_ok310_2 : xi_ok cX12_close xi_310_2 = true := by decide +kernel
def xi_310_3 : XIs := [(90, .ifCond .eq 57, 3), (93, .iload 4, 2), (95, .iload_n 2, 1), (96, .if_icmp .eq 51, 3), (99, .iload 5, 2), (101, .iload_n 3, 1), (102, .if_icmp .eq 45, 3), (105, .iload 6, 2), (107, .iload_n 3, 1), (108, .if_icmp .eq 39, 3), (111, .aload_n 0, 1), (112, .getfield 72, 3), (115, .iload 5, 2), (117, .dup2, 1), (118, .iaload, 1), (119, .iconst 1, 1)]
set_option maxRecDepth 100000 in
theorem xi_ok310_3 : xi_ok cX12_close xi_310_3 = true := by decide +kernel
def xi_310_4 : XIs := [(120, .iload 6, 2), (122, .ishl, 1), (123, .ior, 1), (124, .iastore, 1), (125, .aload_n 0, 1), (126, .getfield 72, 3), (129, .iload 6, 2), (131, .dup2, 1), (132, .iaload, 1), (133, .iload_n 1, 1), (134, .ifCond .eq 10, 3), (137, .iconst 1, 1), (138, .iload 5, 2), (140, .ishl, 1), (141, .goto 4, 3), (144, .iconst 0, 1)]
set_option maxRecDepth 100000 in
theorem xi_ok310_4 : xi_ok cX12_close xi_310_4 = true := by decide +kernel
def xi_310_5 : XIs := [(145, .ior, 1), (146, .iastore, 1), (147, .iinc 4 1, 3), (150, .goto (-108), 3), (153, .iconst 0, 1), (154, .istore 4, 2), (156, .iload 4, 2), (158, .aload_n 0, 1), (159, .getfield 285, 3), (162, .if_icmp .ge 64, 3), (165, .iconst 0, 1), (166, .istore 5, 2), (168, .iload 5, 2), (170, .aload_n 0, 1), (171, .getfield 285, 3), (174, .if_icmp .ge 46, 3)]
set_option maxRecDepth 100000 in
theorem xi_ok310_5 : xi_ok cX12_close xi_310_5 = true := by decide +kernel
def xi_310_6 : XIs := [(177, .aload_n 0, 1), (178, .getfield 72, 3), (181, .iload 5, 2), (183, .dup2, 1), (184, .iaload, 1), (185, .aload_n 0, 1), (186, .getfield 72, 3), (189, .iload 5, 2), (191, .iaload, 1), (192, .iload 4, 2), (194, .ishr, 1), (195, .iconst 1, 1), (196, .iand, 1), (197, .iconst 1, 1), (198, .if_icmp .ne 13, 3), (201, .aload_n 0, 1)]
set_option maxRecDepth 100000 in
theorem xi_ok310_6 : xi_ok cX12_close xi_310_6 = true := by decide +kernel
def xi_310_7 : XIs := [(202, .getfield 72, 3), (205, .iload 4, 2), (207, .iaload, 1), (208, .goto 4, 3), (211, .iconst 0, 1), (212, .ior, 1), (213, .iastore, 1), (214, .iinc 5 1, 3), (217, .goto (-49), 3), (220, .iinc 4 1, 3), (223, .goto (-67), 3), (226, .return_, 1)]
set_option maxRecDepth 100000 in
theorem xi_ok310_7 : xi_ok cX12_close xi_310_7 = true := by decide +kernel
def xi_310 (pc : Nat) : XIs := cond (Nat.blt pc 120) (cond (Nat.blt pc 62) (cond (Nat.blt pc 31) (xi_310_0) (xi_310_1)) (cond (Nat.blt pc 90) (xi_310_2) (xi_310_3))) (cond (Nat.blt pc 177) (cond (Nat.blt pc 145) (xi_310_4) (xi_310_5)) (cond (Nat.blt pc 202) (xi_310_6) (xi_310_7)))
theorem xi_ok310 (pc : Nat) : xi_ok cX12_close (xi_310 pc) = true := xi_c (xi_c (xi_c (xi_ok310_0) (xi_ok310_1)) (xi_c (xi_ok310_2) (xi_ok310_3))) (xi_c (xi_c (xi_ok310_4) (xi_ok310_5)) (xi_c (xi_ok310_6) (xi_ok310_7)))
def xi_311_0 : XIs := [(0, .iload_n 0, 1), (1, .iload_n 1, 1), (2, .ishr, 1), (3, .iconst 1, 1), (4, .iand, 1), (5, .iconst 1, 1), (6, .if_icmp .ne 7, 3), (9, .iconst 1, 1), (10, .goto 4, 3), (13, .iconst 0, 1), (14, .ireturn, 1)]
set_option maxRecDepth 100000 in
theorem xi_ok311_0 : xi_ok cX12_has xi_311_0 = true := by decide +kernel
def xi_311 (pc : Nat) : XIs := xi_311_0
theorem xi_ok311 (pc : Nat) : xi_ok cX12_has (xi_311 pc) = true := xi_ok311_0
def xi_312_0 : XIs := [(0, .iconst 0, 1), (1, .istore_n 3, 1), (2, .iload_n 3, 1), (3, .aload_n 0, 1), (4, .getfield 285, 3), (7, .if_icmp .ge 25, 3), (10, .aload_n 0, 1), (11, .getfield 75, 3), (14, .iload_n 3, 1), (15, .ldc2_w 347, 3), (18, .lastore, 1), (19, .aload_n 0, 1), (20, .getfield 79, 3), (23, .iload_n 3, 1), (24, .iconst 0, 1), (25, .iastore, 1)]
set_option maxRecDepth 100000 in
theorem xi_ok312_0 : xi_ok cX12_toGoal xi_312_0 = true := by decide +kernel
def xi_312_1 : XIs := [(26, .iinc 3 1, 3), (29, .goto (-27), 3), (32, .aload_n 0, 1), (33, .getfield 75, 3), (36, .iload_n 1, 1), (37, .lconst 0, 1), (38, .lastore, 1), (39, .iconst 1, 1), (40, .istore_n 3, 1), (41, .iconst 0, 1), (42, .istore 4, 2), (44, .iload 4, 2), (46, .aload_n 0, 1), (47, .getfield 285, 3), (50, .if_icmp .gt 184, 3), (53, .iload_n 3, 1)]
set_option maxRecDepth 100000 in
theorem xi_ok312_1 : xi_ok cX12_toGoal xi_312_1 = true := by decide +kernel
def xi_312_2 : XIs := [(54, .ifCond .eq 180, 3), (57, .iconst 0, 1), (58, .istore_n 3, 1), (59, .aload_n 0, 1), (60, .getfield 288, 3), (63, .istore 5, 2), (65, .iload 5, 2), (67, .aload_n 0, 1), (68, .getfield 288, 3), (71, .sipush 160, 3), (74, .iadd, 1), (75, .if_icmp .ge 153, 3), (78, .aload_n 0, 1), (79, .getfield 16, 3), (82, .iload 5, 2), (84, .baload, 1)]
set_option maxRecDepth 100000 in
theorem xi_ok312_2 : xi_ok cX12_toGoal xi_312_2 = true := by decide +kernel
def xi_312_3 : XIs := [(85, .ifCond .eq 137, 3), (88, .iload_n 2, 1), (89, .aload_n 0, 1), (90, .getfield 20, 3), (93, .iload 5, 2), (95, .iaload, 1), (96, .invokestatic 427, 3), (99, .ifCond .eq 123, 3), (102, .iload_n 2, 1), (103, .aload_n 0, 1), (104, .getfield 23, 3), (107, .iload 5, 2), (109, .iaload, 1), (110, .invokestatic 427, 3), (113, .ifCond .eq 109, 3), (116, .aload_n 0, 1)]
set_option maxRecDepth 100000 in
theorem xi_ok312_3 : xi_ok cX12_toGoal xi_312_3 = true := by decide +kernel
def xi_312_4 : XIs := [(117, .getfield 75, 3), (120, .aload_n 0, 1), (121, .getfield 23, 3), (124, .iload 5, 2), (126, .iaload, 1), (127, .laload, 1), (128, .ldc2_w 347, 3), (131, .lcmp, 1), (132, .ifCond .ge 90, 3), (135, .aload_n 0, 1), (136, .getfield 75, 3), (139, .aload_n 0, 1), (140, .getfield 23, 3), (143, .iload 5, 2), (145, .iaload, 1), (146, .laload, 1)]
set_option maxRecDepth 100000 in
theorem xi_ok312_4 : xi_ok cX12_toGoal xi_312_4 = true := by decide +kernel
def xi_312_5 : XIs := [(147, .aload_n 0, 1), (148, .getfield 26, 3), (151, .iload 5, 2), (153, .iaload, 1), (154, .i2l, 1), (155, .ladd, 1), (156, .lstore 6, 2), (158, .aload_n 0, 1), (159, .getfield 79, 3), (162, .aload_n 0, 1), (163, .getfield 23, 3), (166, .iload 5, 2), (168, .iaload, 1), (169, .iaload, 1), (170, .iconst 1, 1), (171, .iadd, 1)]
set_option maxRecDepth 100000 in
theorem xi_ok312_5 : xi_ok cX12_toGoal xi_312_5 = true := by decide +kernel
def xi_312_6 : XIs := [(172, .istore 8, 2), (174, .lload 6, 2), (176, .aload_n 0, 1), (177, .getfield 75, 3), (180, .aload_n 0, 1), (181, .getfield 20, 3), (184, .iload 5, 2), (186, .iaload, 1), (187, .laload, 1), (188, .lcmp, 1), (189, .ifCond .ge 33, 3), (192, .aload_n 0, 1), (193, .getfield 75, 3), (196, .aload_n 0, 1), (197, .getfield 20, 3), (200, .iload 5, 2)]
set_option maxRecDepth 100000 in
theorem xi_ok312_6 : xi_ok cX12_toGoal xi_312_6 = true := by decide +kernel
def xi_312_7 : XIs := [(202, .iaload, 1), (203, .lload 6, 2), (205, .lastore, 1), (206, .aload_n 0, 1), (207, .getfield 79, 3), (210, .aload_n 0, 1), (211, .getfield 20, 3), (214, .iload 5, 2), (216, .iaload, 1), (217, .iload 8, 2), (219, .iastore, 1), (220, .iconst 1, 1), (221, .istore_n 3, 1), (222, .iinc 5 1, 3), (225, .goto (-160), 3), (228, .iinc 4 1, 3)]
set_option maxRecDepth 100000 in
theorem xi_ok312_7 : xi_ok cX12_toGoal xi_312_7 = true := by decide +kernel
def xi_312_8 : XIs := [(231, .goto (-187), 3), (234, .iload_n 3, 1), (235, .ifCond .eq 5, 3), (238, .iconst 0, 1), (239, .ireturn, 1), (240, .aload_n 0, 1), (241, .iload_n 1, 1), (242, .iload_n 2, 1), (243, .invokevirtual 430, 3), (246, .iconst 1, 1), (247, .ireturn, 1)]
set_option maxRecDepth 100000 in
theorem xi_ok312_8 : xi_ok cX12_toGoal xi_312_8 = true := by decide +kernel
def xi_312 (pc : Nat) : XIs := cond (Nat.blt pc 117) (cond (Nat.blt pc 54) (cond (Nat.blt pc 26) (xi_312_0) (xi_312_1)) (cond (Nat.blt pc 85) (xi_312_2) (xi_312_3))) (cond (Nat.blt pc 172) (cond (Nat.blt pc 147) (xi_312_4) (xi_312_5)) (cond (Nat.blt pc 202) (xi_312_6) (cond (Nat.blt pc 231) (xi_312_7) (xi_312_8))))
theorem xi_ok312 (pc : Nat) : xi_ok cX12_toGoal (xi_312 pc) = true := xi_c (xi_c (xi_c (xi_ok312_0) (xi_ok312_1)) (xi_c (xi_ok312_2) (xi_ok312_3))) (xi_c (xi_c (xi_ok312_4) (xi_ok312_5)) (xi_c (xi_ok312_6) (xi_c (xi_ok312_7) (xi_ok312_8))))
def xi_313_0 : XIs := [(0, .iconst 0, 1), (1, .istore_n 3, 1), (2, .iload_n 3, 1), (3, .aload_n 0, 1), (4, .getfield 285, 3), (7, .if_icmp .ge 27, 3), (10, .aload_n 0, 1), (11, .getfield 79, 3), (14, .iload_n 3, 1), (15, .iload_n 3, 1), (16, .iload_n 1, 1), (17, .if_icmp .ne 7, 3), (20, .iconst 0, 1), (21, .goto 6, 3), (24, .sipush 1000, 3), (27, .iastore, 1)]
set_option maxRecDepth 100000 in
theorem xi_ok313_0 : xi_ok cX12_fewest xi_313_0 = true := by decide +kernel
def xi_313_1 : XIs := [(28, .iinc 3 1, 3), (31, .goto (-29), 3), (34, .iconst 0, 1), (35, .istore_n 3, 1), (36, .iload_n 3, 1), (37, .aload_n 0, 1), (38, .getfield 285, 3), (41, .if_icmp .ge 190, 3), (44, .aload_n 0, 1), (45, .getfield 288, 3), (48, .istore 4, 2), (50, .iload 4, 2), (52, .aload_n 0, 1), (53, .getfield 288, 3), (56, .sipush 160, 3), (59, .iadd, 1)]
set_option maxRecDepth 100000 in
theorem xi_ok313_1 : xi_ok cX12_fewest xi_313_1 = true := by decide +kernel
def xi_313_2 : XIs := [(60, .if_icmp .ge 165, 3), (63, .aload_n 0, 1), (64, .getfield 16, 3), (67, .iload 4, 2), (69, .baload, 1), (70, .ifCond .eq 149, 3), (73, .iload_n 2, 1), (74, .aload_n 0, 1), (75, .getfield 20, 3), (78, .iload 4, 2), (80, .iaload, 1), (81, .invokestatic 427, 3), (84, .ifCond .eq 135, 3), (87, .iload_n 2, 1), (88, .aload_n 0, 1), (89, .getfield 23, 3)]
set_option maxRecDepth 100000 in
theorem xi_ok313_2 : xi_ok cX12_fewest xi_313_2 = true := by decide +kernel
def xi_313_3 : XIs := [(92, .iload 4, 2), (94, .iaload, 1), (95, .invokestatic 427, 3), (98, .ifCond .eq 121, 3), (101, .aload_n 0, 1), (102, .getfield 75, 3), (105, .aload_n 0, 1), (106, .getfield 23, 3), (109, .iload 4, 2), (111, .iaload, 1), (112, .laload, 1), (113, .ldc2_w 347, 3), (116, .lcmp, 1), (117, .ifCond .ge 102, 3), (120, .aload_n 0, 1), (121, .getfield 75, 3)]
set_option maxRecDepth 100000 in
theorem xi_ok313_3 : xi_ok cX12_fewest xi_313_3 = true := by decide +kernel
def xi_313_4 : XIs := [(124, .aload_n 0, 1), (125, .getfield 20, 3), (128, .iload 4, 2), (130, .iaload, 1), (131, .laload, 1), (132, .aload_n 0, 1), (133, .getfield 75, 3), (136, .aload_n 0, 1), (137, .getfield 23, 3), (140, .iload 4, 2), (142, .iaload, 1), (143, .laload, 1), (144, .aload_n 0, 1), (145, .getfield 26, 3), (148, .iload 4, 2), (150, .iaload, 1)]
set_option maxRecDepth 100000 in
theorem xi_ok313_4 : xi_ok cX12_fewest xi_313_4 = true := by decide +kernel
def xi_313_5 : XIs := [(151, .i2l, 1), (152, .ladd, 1), (153, .lcmp, 1), (154, .ifCond .ne 65, 3), (157, .aload_n 0, 1), (158, .getfield 79, 3), (161, .aload_n 0, 1), (162, .getfield 23, 3), (165, .iload 4, 2), (167, .iaload, 1), (168, .iaload, 1), (169, .iconst 1, 1), (170, .iadd, 1), (171, .istore 5, 2), (173, .aload_n 0, 1), (174, .getfield 79, 3)]
set_option maxRecDepth 100000 in
theorem xi_ok313_5 : xi_ok cX12_fewest xi_313_5 = true := by decide +kernel
def xi_313_6 : XIs := [(177, .aload_n 0, 1), (178, .getfield 20, 3), (181, .iload 4, 2), (183, .iaload, 1), (184, .iload 5, 2), (186, .aload_n 0, 1), (187, .getfield 79, 3), (190, .aload_n 0, 1), (191, .getfield 20, 3), (194, .iload 4, 2), (196, .iaload, 1), (197, .iaload, 1), (198, .if_icmp .ge 8, 3), (201, .iload 5, 2), (203, .goto 15, 3), (206, .aload_n 0, 1)]
set_option maxRecDepth 100000 in
theorem xi_ok313_6 : xi_ok cX12_fewest xi_313_6 = true := by decide +kernel
def xi_313_7 : XIs := [(207, .getfield 79, 3), (210, .aload_n 0, 1), (211, .getfield 20, 3), (214, .iload 4, 2), (216, .iaload, 1), (217, .iaload, 1), (218, .iastore, 1), (219, .iinc 4 1, 3), (222, .goto (-172), 3), (225, .iinc 3 1, 3), (228, .goto (-192), 3), (231, .return_, 1)]
set_option maxRecDepth 100000 in
theorem xi_ok313_7 : xi_ok cX12_fewest xi_313_7 = true := by decide +kernel
def xi_313 (pc : Nat) : XIs := cond (Nat.blt pc 124) (cond (Nat.blt pc 60) (cond (Nat.blt pc 28) (xi_313_0) (xi_313_1)) (cond (Nat.blt pc 92) (xi_313_2) (xi_313_3))) (cond (Nat.blt pc 177) (cond (Nat.blt pc 151) (xi_313_4) (xi_313_5)) (cond (Nat.blt pc 207) (xi_313_6) (xi_313_7)))
theorem xi_ok313 (pc : Nat) : xi_ok cX12_fewest (xi_313 pc) = true := xi_c (xi_c (xi_c (xi_ok313_0) (xi_ok313_1)) (xi_c (xi_ok313_2) (xi_ok313_3))) (xi_c (xi_c (xi_ok313_4) (xi_ok313_5)) (xi_c (xi_ok313_6) (xi_ok313_7)))
def xi_314_0 : XIs := [(0, .aload_n 0, 1), (1, .iconst 0, 1), (2, .iconst (-1), 1), (3, .iconst (-1), 1), (4, .invokevirtual 433, 3), (7, .iconst 0, 1), (8, .istore_n 3, 1), (9, .iconst 0, 1), (10, .istore 4, 2), (12, .iload 4, 2), (14, .aload_n 0, 1), (15, .getfield 285, 3), (18, .if_icmp .ge 48, 3), (21, .iload_n 3, 1), (22, .aload_n 0, 1), (23, .getfield 72, 3)]
set_option maxRecDepth 100000 in
theorem xi_ok314_0 : xi_ok cX12_between xi_314_0 = true := by decide +kernel
def xi_314_1 : XIs := [(26, .iload_n 1, 1), (27, .iaload, 1), (28, .iload 4, 2), (30, .invokestatic 427, 3), (33, .ifCond .eq 24, 3), (36, .aload_n 0, 1), (37, .getfield 72, 3), (40, .iload 4, 2), (42, .iaload, 1), (43, .iload_n 2, 1), (44, .invokestatic 427, 3), (47, .ifCond .eq 10, 3), (50, .iconst 1, 1), (51, .iload 4, 2), (53, .ishl, 1), (54, .goto 4, 3)]
set_option maxRecDepth 100000 in
theorem xi_ok314_1 : xi_ok cX12_between xi_314_1 = true := by decide +kernel
def xi_314_2 : XIs := [(57, .iconst 0, 1), (58, .ior, 1), (59, .istore_n 3, 1), (60, .iinc 4 1, 3), (63, .goto (-51), 3), (66, .iload_n 3, 1), (67, .ireturn, 1)]
set_option maxRecDepth 100000 in
theorem xi_ok314_2 : xi_ok cX12_between xi_314_2 = true := by decide +kernel
def xi_314 (pc : Nat) : XIs := cond (Nat.blt pc 26) (xi_314_0) (cond (Nat.blt pc 57) (xi_314_1) (xi_314_2))
theorem xi_ok314 (pc : Nat) : xi_ok cX12_between (xi_314 pc) = true := xi_c (xi_ok314_0) (xi_c (xi_ok314_1) (xi_ok314_2))
def xi_315_0 : XIs := [(0, .aload_n 0, 1), (1, .aload_n 0, 1), (2, .iload_n 1, 1), (3, .invokevirtual 349, 3), (6, .ifCond .eq 15, 3), (9, .aload_n 0, 1), (10, .iload_n 2, 1), (11, .invokevirtual 349, 3), (14, .ifCond .eq 7, 3), (17, .iconst 1, 1), (18, .goto 4, 3), (21, .iconst 0, 1), (22, .invokevirtual 334, 3), (25, .ifCond .eq 5, 3), (28, .lconst 0, 1), (29, .lreturn, 1)]
set_option maxRecDepth 100000 in
theorem xi_ok315_0 : xi_ok cX12_distance xi_315_0 = true := by decide +kernel
def xi_315_1 : XIs := [(30, .aload_n 0, 1), (31, .iload_n 1, 1), (32, .iload_n 2, 1), (33, .invokevirtual 437, 3), (36, .istore_n 3, 1), (37, .iload_n 3, 1), (38, .ifCond .ne 9, 3), (41, .ldc2_w 347, 3), (44, .goto 24, 3), (47, .aload_n 0, 1), (48, .iload_n 2, 1), (49, .iload_n 3, 1), (50, .invokevirtual 440, 3), (53, .ifCond .eq 12, 3), (56, .aload_n 0, 1), (57, .getfield 75, 3)]
set_option maxRecDepth 100000 in
theorem xi_ok315_1 : xi_ok cX12_distance xi_315_1 = true := by decide +kernel
def xi_315_2 : XIs := [(60, .iload_n 1, 1), (61, .laload, 1), (62, .goto 6, 3), (65, .ldc2_w 443, 3), (68, .lreturn, 1)]
set_option maxRecDepth 100000 in
theorem xi_ok315_2 : xi_ok cX12_distance xi_315_2 = true := by decide +kernel
def xi_315 (pc : Nat) : XIs := cond (Nat.blt pc 30) (xi_315_0) (cond (Nat.blt pc 60) (xi_315_1) (xi_315_2))
theorem xi_ok315 (pc : Nat) : xi_ok cX12_distance (xi_315 pc) = true := xi_c (xi_ok315_0) (xi_c (xi_ok315_1) (xi_ok315_2))
def xi_316 (pc : Nat) : XIs := []
theorem xi_ok316 (pc : Nat) : xi_ok cX12_way (xi_316 pc) = true := rfl
def xi_317_0 : XIs := [(0, .aload_n 0, 1), (1, .aload_n 0, 1), (2, .iload_n 1, 1), (3, .invokevirtual 349, 3), (6, .ifCond .eq 15, 3), (9, .aload_n 0, 1), (10, .iload_n 2, 1), (11, .invokevirtual 349, 3), (14, .ifCond .eq 7, 3), (17, .iconst 1, 1), (18, .goto 4, 3), (21, .iconst 0, 1), (22, .invokevirtual 334, 3), (25, .ifCond .eq 5, 3), (28, .iconst 0, 1), (29, .ireturn, 1)]
set_option maxRecDepth 100000 in
theorem xi_ok317_0 : xi_ok cX12_width xi_317_0 = true := by decide +kernel
def xi_317_1 : XIs := [(30, .iconst 0, 1), (31, .istore_n 3, 1), (32, .iload_n 3, 1), (33, .aload_n 0, 1), (34, .getfield 285, 3), (37, .if_icmp .ge 27, 3), (40, .aload_n 0, 1), (41, .getfield 85, 3), (44, .iload_n 3, 1), (45, .iload_n 3, 1), (46, .iload_n 1, 1), (47, .if_icmp .ne 9, 3), (50, .ldc_w 445, 3), (53, .goto 4, 3), (56, .iconst (-1), 1), (57, .iastore, 1)]
set_option maxRecDepth 100000 in
theorem xi_ok317_1 : xi_ok cX12_width xi_317_1 = true := by decide +kernel
def xi_317_2 : XIs := [(58, .iinc 3 1, 3), (61, .goto (-29), 3), (64, .iconst 0, 1), (65, .istore_n 3, 1), (66, .iload_n 3, 1), (67, .aload_n 0, 1), (68, .getfield 285, 3), (71, .if_icmp .ge 151, 3), (74, .aload_n 0, 1), (75, .getfield 288, 3), (78, .istore 4, 2), (80, .iload 4, 2), (82, .aload_n 0, 1), (83, .getfield 288, 3), (86, .sipush 160, 3), (89, .iadd, 1)]
set_option maxRecDepth 100000 in
theorem xi_ok317_2 : xi_ok cX12_width xi_317_2 = true := by decide +kernel
def xi_317_3 : XIs := [(90, .if_icmp .ge 126, 3), (93, .aload_n 0, 1), (94, .getfield 16, 3), (97, .iload 4, 2), (99, .baload, 1), (100, .ifCond .eq 110, 3), (103, .aload_n 0, 1), (104, .getfield 85, 3), (107, .aload_n 0, 1), (108, .getfield 20, 3), (111, .iload 4, 2), (113, .iaload, 1), (114, .iaload, 1), (115, .ifCond .lt 95, 3), (118, .aload_n 0, 1), (119, .getfield 29, 3)]
set_option maxRecDepth 100000 in
theorem xi_ok317_3 : xi_ok cX12_width xi_317_3 = true := by decide +kernel
def xi_317_4 : XIs := [(122, .iload 4, 2), (124, .iaload, 1), (125, .aload_n 0, 1), (126, .getfield 85, 3), (129, .aload_n 0, 1), (130, .getfield 20, 3), (133, .iload 4, 2), (135, .iaload, 1), (136, .iaload, 1), (137, .if_icmp .ge 13, 3), (140, .aload_n 0, 1), (141, .getfield 29, 3), (144, .iload 4, 2), (146, .iaload, 1), (147, .goto 15, 3), (150, .aload_n 0, 1)]
set_option maxRecDepth 100000 in
theorem xi_ok317_4 : xi_ok cX12_width xi_317_4 = true := by decide +kernel
def xi_317_5 : XIs := [(151, .getfield 85, 3), (154, .aload_n 0, 1), (155, .getfield 20, 3), (158, .iload 4, 2), (160, .iaload, 1), (161, .iaload, 1), (162, .istore 5, 2), (164, .aload_n 0, 1), (165, .getfield 85, 3), (168, .aload_n 0, 1), (169, .getfield 23, 3), (172, .iload 4, 2), (174, .iaload, 1), (175, .iload 5, 2), (177, .aload_n 0, 1), (178, .getfield 85, 3)]
set_option maxRecDepth 100000 in
theorem xi_ok317_5 : xi_ok cX12_width xi_317_5 = true := by decide +kernel
def xi_317_6 : XIs := [(181, .aload_n 0, 1), (182, .getfield 23, 3), (185, .iload 4, 2), (187, .iaload, 1), (188, .iaload, 1), (189, .if_icmp .le 8, 3), (192, .iload 5, 2), (194, .goto 15, 3), (197, .aload_n 0, 1), (198, .getfield 85, 3), (201, .aload_n 0, 1), (202, .getfield 23, 3), (205, .iload 4, 2), (207, .iaload, 1), (208, .iaload, 1), (209, .iastore, 1)]
set_option maxRecDepth 100000 in
theorem xi_ok317_6 : xi_ok cX12_width xi_317_6 = true := by decide +kernel
def xi_317_7 : XIs := [(210, .iinc 4 1, 3), (213, .goto (-133), 3), (216, .iinc 3 1, 3), (219, .goto (-153), 3), (222, .aload_n 0, 1), (223, .getfield 85, 3), (226, .iload_n 2, 1), (227, .iaload, 1), (228, .ireturn, 1)]
set_option maxRecDepth 100000 in
theorem xi_ok317_7 : xi_ok cX12_width xi_317_7 = true := by decide +kernel
def xi_317 (pc : Nat) : XIs := cond (Nat.blt pc 122) (cond (Nat.blt pc 58) (cond (Nat.blt pc 30) (xi_317_0) (xi_317_1)) (cond (Nat.blt pc 90) (xi_317_2) (xi_317_3))) (cond (Nat.blt pc 181) (cond (Nat.blt pc 151) (xi_317_4) (xi_317_5)) (cond (Nat.blt pc 210) (xi_317_6) (xi_317_7)))
theorem xi_ok317 (pc : Nat) : xi_ok cX12_width (xi_317 pc) = true := xi_c (xi_c (xi_c (xi_ok317_0) (xi_ok317_1)) (xi_c (xi_ok317_2) (xi_ok317_3))) (xi_c (xi_c (xi_ok317_4) (xi_ok317_5)) (xi_c (xi_ok317_6) (xi_ok317_7)))
def xi_318 (pc : Nat) : XIs := []
theorem xi_ok318 (pc : Nat) : xi_ok cX12_addShort (xi_318 pc) = true := rfl
def xi_319_0 : XIs := [(0, .aload_n 0, 1), (1, .getfield 16, 3), (4, .aload_n 0, 1), (5, .getfield 288, 3), (8, .iload_n 1, 1), (9, .iadd, 1), (10, .baload, 1), (11, .ifCond .eq 40, 3), (14, .aload_n 0, 1), (15, .getfield 20, 3), (18, .aload_n 0, 1), (19, .getfield 288, 3), (22, .iload_n 1, 1), (23, .iadd, 1), (24, .iaload, 1), (25, .iload_n 2, 1)]
set_option maxRecDepth 100000 in
theorem xi_ok319_0 : xi_ok cX12_goesOn xi_319_0 = true := by decide +kernel
def xi_319_1 : XIs := [(26, .if_icmp .ne 25, 3), (29, .iload_n 3, 1), (30, .aload_n 0, 1), (31, .getfield 23, 3), (34, .aload_n 0, 1), (35, .getfield 288, 3), (38, .iload_n 1, 1), (39, .iadd, 1), (40, .iaload, 1), (41, .invokestatic 427, 3), (44, .ifCond .ne 7, 3), (47, .iconst 1, 1), (48, .goto 4, 3), (51, .iconst 0, 1), (52, .ireturn, 1)]
set_option maxRecDepth 100000 in
theorem xi_ok319_1 : xi_ok cX12_goesOn xi_319_1 = true := by decide +kernel
def xi_319 (pc : Nat) : XIs := cond (Nat.blt pc 26) (xi_319_0) (xi_319_1)
theorem xi_ok319 (pc : Nat) : xi_ok cX12_goesOn (xi_319 pc) = true := xi_c (xi_ok319_0) (xi_ok319_1)
def xi_320_0 : XIs := [(0, .aload_n 0, 1), (1, .iconst 0, 1), (2, .putfield 446, 3), (5, .iconst 0, 1), (6, .istore_n 3, 1), (7, .iload_n 3, 1), (8, .sipush 160, 3), (11, .if_icmp .ge 78, 3), (14, .aload_n 0, 1), (15, .getfield 446, 3), (18, .sipush 2000, 3), (21, .if_icmp .gt 68, 3), (24, .aload_n 0, 1), (25, .iload_n 3, 1), (26, .iload_n 1, 1), (27, .iconst 1, 1)]
set_option maxRecDepth 100000 in
theorem xi_ok320_0 : xi_ok cX12_findShorts xi_320_0 = true := by decide +kernel
def xi_320_1 : XIs := [(28, .iload_n 1, 1), (29, .ishl, 1), (30, .invokevirtual 449, 3), (33, .ifCond .eq 50, 3), (36, .aload_n 0, 1), (37, .getfield 23, 3), (40, .aload_n 0, 1), (41, .getfield 288, 3), (44, .iload_n 3, 1), (45, .iadd, 1), (46, .iaload, 1), (47, .istore 4, 2), (49, .iload 4, 2), (51, .iload_n 2, 1), (52, .if_icmp .ne 15, 3), (55, .aload_n 0, 1)]
set_option maxRecDepth 100000 in
theorem xi_ok320_1 : xi_ok cX12_findShorts xi_320_1 = true := by decide +kernel
def xi_320_2 : XIs := [(56, .iconst 1, 1), (57, .iload_n 3, 1), (58, .iconst 0, 1), (59, .iconst 0, 1), (60, .iconst 0, 1), (61, .invokevirtual 453, 3), (64, .goto 19, 3), (67, .aload_n 0, 1), (68, .iload_n 3, 1), (69, .iload 4, 2), (71, .iconst 1, 1), (72, .iload_n 1, 1), (73, .ishl, 1), (74, .iconst 1, 1), (75, .iload 4, 2), (77, .ishl, 1)]
set_option maxRecDepth 100000 in
theorem xi_ok320_2 : xi_ok cX12_findShorts xi_320_2 = true := by decide +kernel
def xi_320_3 : XIs := [(78, .ior, 1), (79, .iload_n 2, 1), (80, .invokevirtual 457, 3), (83, .iinc 3 1, 3), (86, .goto (-79), 3), (89, .return_, 1)]
set_option maxRecDepth 100000 in
theorem xi_ok320_3 : xi_ok cX12_findShorts xi_320_3 = true := by decide +kernel
def xi_320 (pc : Nat) : XIs := cond (Nat.blt pc 56) (cond (Nat.blt pc 28) (xi_320_0) (xi_320_1)) (cond (Nat.blt pc 78) (xi_320_2) (xi_320_3))
theorem xi_ok320 (pc : Nat) : xi_ok cX12_findShorts (xi_320 pc) = true := xi_c (xi_c (xi_ok320_0) (xi_ok320_1)) (xi_c (xi_ok320_2) (xi_ok320_3))
def xi_321_0 : XIs := [(0, .iconst 0, 1), (1, .istore 5, 2), (3, .iload 5, 2), (5, .sipush 160, 3), (8, .if_icmp .ge 81, 3), (11, .aload_n 0, 1), (12, .getfield 446, 3), (15, .sipush 2000, 3), (18, .if_icmp .gt 71, 3), (21, .aload_n 0, 1), (22, .iload 5, 2), (24, .iload_n 2, 1), (25, .iload_n 3, 1), (26, .invokevirtual 449, 3), (29, .ifCond .eq 54, 3), (32, .aload_n 0, 1)]
set_option maxRecDepth 100000 in
theorem xi_ok321_0 : xi_ok cX12_second xi_321_0 = true := by decide +kernel
def xi_321_1 : XIs := [(33, .getfield 23, 3), (36, .aload_n 0, 1), (37, .getfield 288, 3), (40, .iload 5, 2), (42, .iadd, 1), (43, .iaload, 1), (44, .istore 6, 2), (46, .iload 6, 2), (48, .iload 4, 2), (50, .if_icmp .ne 16, 3), (53, .aload_n 0, 1), (54, .iconst 2, 1), (55, .iload_n 1, 1), (56, .iload 5, 2), (58, .iconst 0, 1), (59, .iconst 0, 1)]
set_option maxRecDepth 100000 in
theorem xi_ok321_1 : xi_ok cX12_second xi_321_1 = true := by decide +kernel
def xi_321_2 : XIs := [(60, .invokevirtual 453, 3), (63, .goto 20, 3), (66, .aload_n 0, 1), (67, .iload_n 1, 1), (68, .iload 5, 2), (70, .iload 6, 2), (72, .iload_n 3, 1), (73, .iconst 1, 1), (74, .iload 6, 2), (76, .ishl, 1), (77, .ior, 1), (78, .iload 4, 2), (80, .invokevirtual 461, 3), (83, .iinc 5 1, 3), (86, .goto (-83), 3), (89, .return_, 1)]
set_option maxRecDepth 100000 in
theorem xi_ok321_2 : xi_ok cX12_second xi_321_2 = true := by decide +kernel
def xi_321 (pc : Nat) : XIs := cond (Nat.blt pc 33) (xi_321_0) (cond (Nat.blt pc 60) (xi_321_1) (xi_321_2))
theorem xi_ok321 (pc : Nat) : xi_ok cX12_second (xi_321 pc) = true := xi_c (xi_ok321_0) (xi_c (xi_ok321_1) (xi_ok321_2))
def xi_322_0 : XIs := [(0, .iconst 0, 1), (1, .istore 6, 2), (3, .iload 6, 2), (5, .sipush 160, 3), (8, .if_icmp .ge 142, 3), (11, .aload_n 0, 1), (12, .getfield 446, 3), (15, .sipush 2000, 3), (18, .if_icmp .gt 132, 3), (21, .aload_n 0, 1), (22, .iload 6, 2), (24, .iload_n 3, 1), (25, .iload 4, 2), (27, .invokevirtual 449, 3), (30, .ifCond .eq 114, 3), (33, .aload_n 0, 1)]
set_option maxRecDepth 100000 in
theorem xi_ok322_0 : xi_ok cX12_third xi_322_0 = true := by decide +kernel
def xi_322_1 : XIs := [(34, .getfield 23, 3), (37, .aload_n 0, 1), (38, .getfield 288, 3), (41, .iload 6, 2), (43, .iadd, 1), (44, .iaload, 1), (45, .istore 7, 2), (47, .iload 7, 2), (49, .iload 5, 2), (51, .if_icmp .ne 16, 3), (54, .aload_n 0, 1), (55, .iconst 3, 1), (56, .iload_n 1, 1), (57, .iload_n 2, 1), (58, .iload 6, 2), (60, .iconst 0, 1)]
set_option maxRecDepth 100000 in
theorem xi_ok322_1 : xi_ok cX12_third xi_322_1 = true := by decide +kernel
def xi_322_2 : XIs := [(61, .invokevirtual 453, 3), (64, .goto 80, 3), (67, .iconst 0, 1), (68, .istore 8, 2), (70, .iload 8, 2), (72, .sipush 160, 3), (75, .if_icmp .ge 69, 3), (78, .aload_n 0, 1), (79, .getfield 16, 3), (82, .aload_n 0, 1), (83, .getfield 288, 3), (86, .iload 8, 2), (88, .iadd, 1), (89, .baload, 1), (90, .ifCond .eq 48, 3), (93, .aload_n 0, 1)]
set_option maxRecDepth 100000 in
theorem xi_ok322_2 : xi_ok cX12_third xi_322_2 = true := by decide +kernel
def xi_322_3 : XIs := [(94, .getfield 20, 3), (97, .aload_n 0, 1), (98, .getfield 288, 3), (101, .iload 8, 2), (103, .iadd, 1), (104, .iaload, 1), (105, .iload 7, 2), (107, .if_icmp .ne 31, 3), (110, .aload_n 0, 1), (111, .getfield 23, 3), (114, .aload_n 0, 1), (115, .getfield 288, 3), (118, .iload 8, 2), (120, .iadd, 1), (121, .iaload, 1), (122, .iload 5, 2)]
set_option maxRecDepth 100000 in
theorem xi_ok322_3 : xi_ok cX12_third xi_322_3 = true := by decide +kernel
def xi_322_4 : XIs := [(124, .if_icmp .ne 14, 3), (127, .aload_n 0, 1), (128, .iconst 4, 1), (129, .iload_n 1, 1), (130, .iload_n 2, 1), (131, .iload 6, 2), (133, .iload 8, 2), (135, .invokevirtual 453, 3), (138, .iinc 8 1, 3), (141, .goto (-71), 3), (144, .iinc 6 1, 3), (147, .goto (-144), 3), (150, .return_, 1)]
set_option maxRecDepth 100000 in
theorem xi_ok322_4 : xi_ok cX12_third xi_322_4 = true := by decide +kernel
def xi_322 (pc : Nat) : XIs := cond (Nat.blt pc 61) (cond (Nat.blt pc 34) (xi_322_0) (xi_322_1)) (cond (Nat.blt pc 94) (xi_322_2) (cond (Nat.blt pc 124) (xi_322_3) (xi_322_4)))
theorem xi_ok322 (pc : Nat) : xi_ok cX12_third (xi_322 pc) = true := xi_c (xi_c (xi_ok322_0) (xi_ok322_1)) (xi_c (xi_ok322_2) (xi_c (xi_ok322_3) (xi_ok322_4)))
def xi_323 (pc : Nat) : XIs := []
theorem xi_ok323 (pc : Nat) : xi_ok cX12_isBefore (xi_323 pc) = true := rfl
def xi_324 (pc : Nat) : XIs := []
theorem xi_ok324 (pc : Nat) : xi_ok cX12_sortShorts (xi_324 pc) = true := rfl
def xi_325_0 : XIs := [(0, .aload_n 0, 1), (1, .aload_n 0, 1), (2, .iload_n 1, 1), (3, .invokevirtual 349, 3), (6, .ifCond .eq 20, 3), (9, .aload_n 0, 1), (10, .iload_n 2, 1), (11, .invokevirtual 349, 3), (14, .ifCond .eq 12, 3), (17, .iload_n 1, 1), (18, .iload_n 2, 1), (19, .if_icmp .eq 7, 3), (22, .iconst 1, 1), (23, .goto 4, 3), (26, .iconst 0, 1), (27, .invokevirtual 334, 3)]
set_option maxRecDepth 100000 in
theorem xi_ok325_0 : xi_ok cX12_shorts xi_325_0 = true := by decide +kernel
def xi_325_1 : XIs := [(30, .ifCond .eq 5, 3), (33, .iconst 0, 1), (34, .ireturn, 1), (35, .aload_n 0, 1), (36, .iload_n 1, 1), (37, .iload_n 2, 1), (38, .invokevirtual 467, 3), (41, .aload_n 0, 1), (42, .getfield 446, 3), (45, .sipush 2000, 3), (48, .if_icmp .le 8, 3), (51, .bipush (-2), 2), (53, .goto 7, 3), (56, .aload_n 0, 1), (57, .getfield 446, 3), (60, .ireturn, 1)]
set_option maxRecDepth 100000 in
theorem xi_ok325_1 : xi_ok cX12_shorts xi_325_1 = true := by decide +kernel
def xi_325 (pc : Nat) : XIs := cond (Nat.blt pc 30) (xi_325_0) (xi_325_1)
theorem xi_ok325 (pc : Nat) : xi_ok cX12_shorts (xi_325 pc) = true := xi_c (xi_ok325_0) (xi_ok325_1)
def xi_326 (pc : Nat) : XIs := []
theorem xi_ok326 (pc : Nat) : xi_ok cX12_shortArc (xi_326 pc) = true := rfl
def xi_327 (pc : Nat) : XIs := []
theorem xi_ok327 (pc : Nat) : xi_ok cX12_least (xi_327 pc) = true := rfl
def xi_328 (pc : Nat) : XIs := []
theorem xi_ok328 (pc : Nat) : xi_ok cX12_part (xi_328 pc) = true := rfl
def xi_329_0 : XIs := [(0, .aload_n 0, 1), (1, .iconst 1, 1), (2, .iload_n 1, 1), (3, .iload_n 2, 1), (4, .invokevirtual 433, 3), (7, .iconst 0, 1), (8, .istore_n 3, 1), (9, .iconst 0, 1), (10, .istore 4, 2), (12, .iload 4, 2), (14, .aload_n 0, 1), (15, .getfield 285, 3), (18, .if_icmp .ge 38, 3), (21, .iload_n 3, 1), (22, .iload 4, 2), (24, .iload_n 2, 1)]
set_option maxRecDepth 100000 in
theorem xi_ok329_0 : xi_ok cX12_weakParts xi_329_0 = true := by decide +kernel
def xi_329_1 : XIs := [(25, .if_icmp .eq 22, 3), (28, .aload_n 0, 1), (29, .getfield 72, 3), (32, .iload 4, 2), (34, .iaload, 1), (35, .invokestatic 473, 3), (38, .iload 4, 2), (40, .if_icmp .ne 7, 3), (43, .iconst 1, 1), (44, .goto 4, 3), (47, .iconst 0, 1), (48, .iadd, 1), (49, .istore_n 3, 1), (50, .iinc 4 1, 3), (53, .goto (-41), 3), (56, .iload_n 3, 1)]
set_option maxRecDepth 100000 in
theorem xi_ok329_1 : xi_ok cX12_weakParts xi_329_1 = true := by decide +kernel
def xi_329_2 : XIs := [(57, .ireturn, 1)]
set_option maxRecDepth 100000 in
theorem xi_ok329_2 : xi_ok cX12_weakParts xi_329_2 = true := by decide +kernel
def xi_329 (pc : Nat) : XIs := cond (Nat.blt pc 25) (xi_329_0) (cond (Nat.blt pc 57) (xi_329_1) (xi_329_2))
theorem xi_ok329 (pc : Nat) : xi_ok cX12_weakParts (xi_329 pc) = true := xi_c (xi_ok329_0) (xi_c (xi_ok329_1) (xi_ok329_2))
def xi_330_0 : XIs := [(0, .aload_n 0, 1), (1, .aload_n 0, 1), (2, .iload_n 1, 1), (3, .invokevirtual 476, 3), (6, .invokevirtual 334, 3), (9, .ifCond .eq 5, 3), (12, .iconst 0, 1), (13, .ireturn, 1), (14, .aload_n 0, 1), (15, .iload_n 1, 1), (16, .iconst (-1), 1), (17, .invokevirtual 479, 3), (20, .aload_n 0, 1), (21, .iconst (-1), 1), (22, .iconst (-1), 1), (23, .invokevirtual 479, 3)]
set_option maxRecDepth 100000 in
theorem xi_ok330_0 : xi_ok cX12_bridge xi_330_0 = true := by decide +kernel
def xi_330_1 : XIs := [(26, .if_icmp .le 7, 3), (29, .iconst 1, 1), (30, .goto 4, 3), (33, .iconst 0, 1), (34, .ireturn, 1)]
set_option maxRecDepth 100000 in
theorem xi_ok330_1 : xi_ok cX12_bridge xi_330_1 = true := by decide +kernel
def xi_330 (pc : Nat) : XIs := cond (Nat.blt pc 26) (xi_330_0) (xi_330_1)
theorem xi_ok330 (pc : Nat) : xi_ok cX12_bridge (xi_330 pc) = true := xi_c (xi_ok330_0) (xi_ok330_1)
def xi_331_0 : XIs := [(0, .aload_n 0, 1), (1, .aload_n 0, 1), (2, .iload_n 1, 1), (3, .invokevirtual 349, 3), (6, .invokevirtual 334, 3), (9, .ifCond .eq 5, 3), (12, .iconst 0, 1), (13, .ireturn, 1), (14, .aload_n 0, 1), (15, .iconst (-1), 1), (16, .iload_n 1, 1), (17, .invokevirtual 479, 3), (20, .aload_n 0, 1), (21, .iconst (-1), 1), (22, .iconst (-1), 1), (23, .invokevirtual 479, 3)]
set_option maxRecDepth 100000 in
theorem xi_ok331_0 : xi_ok cX12_cut xi_331_0 = true := by decide +kernel
def xi_331_1 : XIs := [(26, .if_icmp .le 7, 3), (29, .iconst 1, 1), (30, .goto 4, 3), (33, .iconst 0, 1), (34, .ireturn, 1)]
set_option maxRecDepth 100000 in
theorem xi_ok331_1 : xi_ok cX12_cut xi_331_1 = true := by decide +kernel
def xi_331 (pc : Nat) : XIs := cond (Nat.blt pc 26) (xi_331_0) (xi_331_1)
theorem xi_ok331 (pc : Nat) : xi_ok cX12_cut (xi_331 pc) = true := xi_c (xi_ok331_0) (xi_ok331_1)
def xi_332_0 : XIs := [(0, .aload_n 0, 1), (1, .iload_n 1, 1), (2, .ifCond .lt 7, 3), (5, .iconst 1, 1), (6, .goto 4, 3), (9, .iconst 0, 1), (10, .invokevirtual 334, 3), (13, .ifCond .eq 5, 3), (16, .iconst 0, 1), (17, .ireturn, 1), (18, .iconst 0, 1), (19, .istore_n 2, 1), (20, .iconst (-1), 1), (21, .istore_n 3, 1), (22, .iconst (-1), 1), (23, .istore 4, 2)]
set_option maxRecDepth 100000 in
theorem xi_ok332_0 : xi_ok cX12_order xi_332_0 = true := by decide +kernel
def xi_332_1 : XIs := [(25, .iconst 0, 1), (26, .istore 5, 2), (28, .iload 5, 2), (30, .aload_n 0, 1), (31, .getfield 285, 3), (34, .if_icmp .ge 158, 3), (37, .iconst (-1), 1), (38, .istore_n 3, 1), (39, .aload_n 0, 1), (40, .getfield 285, 3), (43, .iconst 1, 1), (44, .isub, 1), (45, .istore 6, 2), (47, .iload 6, 2), (49, .ifCond .lt 110, 3), (52, .iload_n 2, 1)]
set_option maxRecDepth 100000 in
theorem xi_ok332_1 : xi_ok cX12_order xi_332_1 = true := by decide +kernel
def xi_332_2 : XIs := [(53, .iload 6, 2), (55, .invokestatic 427, 3), (58, .ifCond .ne 7, 3), (61, .iconst 1, 1), (62, .goto 4, 3), (65, .iconst 0, 1), (66, .istore 7, 2), (68, .aload_n 0, 1), (69, .getfield 288, 3), (72, .istore 8, 2), (74, .iload 8, 2), (76, .aload_n 0, 1), (77, .getfield 288, 3), (80, .sipush 160, 3), (83, .iadd, 1), (84, .if_icmp .ge 57, 3)]
set_option maxRecDepth 100000 in
theorem xi_ok332_2 : xi_ok cX12_order xi_332_2 = true := by decide +kernel
def xi_332_3 : XIs := [(87, .iload 7, 2), (89, .ifCond .eq 52, 3), (92, .aload_n 0, 1), (93, .getfield 16, 3), (96, .iload 8, 2), (98, .baload, 1), (99, .ifCond .eq 29, 3), (102, .aload_n 0, 1), (103, .getfield 23, 3), (106, .iload 8, 2), (108, .iaload, 1), (109, .iload 6, 2), (111, .if_icmp .ne 17, 3), (114, .iload_n 2, 1), (115, .aload_n 0, 1), (116, .getfield 20, 3)]
set_option maxRecDepth 100000 in
theorem xi_ok332_3 : xi_ok cX12_order xi_332_3 = true := by decide +kernel
def xi_332_4 : XIs := [(119, .iload 8, 2), (121, .iaload, 1), (122, .invokestatic 427, 3), (125, .ifCond .eq 7, 3), (128, .iconst 1, 1), (129, .goto 4, 3), (132, .iconst 0, 1), (133, .istore 7, 2), (135, .iinc 8 1, 3), (138, .goto (-64), 3), (141, .iload 7, 2), (143, .ifCond .eq 8, 3), (146, .iload 6, 2), (148, .goto 4, 3), (151, .iload_n 3, 1), (152, .istore_n 3, 1)]
set_option maxRecDepth 100000 in
theorem xi_ok332_4 : xi_ok cX12_order xi_332_4 = true := by decide +kernel
def xi_332_5 : XIs := [(153, .iinc 6 (-1), 3), (156, .goto (-109), 3), (159, .iload_n 3, 1), (160, .iconst (-1), 1), (161, .if_icmp .ne 5, 3), (164, .iconst (-1), 1), (165, .ireturn, 1), (166, .iload_n 2, 1), (167, .iconst 1, 1), (168, .iload_n 3, 1), (169, .ishl, 1), (170, .ior, 1), (171, .istore_n 2, 1), (172, .iload 5, 2), (174, .iload_n 1, 1), (175, .if_icmp .ne 7, 3)]
set_option maxRecDepth 100000 in
theorem xi_ok332_5 : xi_ok cX12_order xi_332_5 = true := by decide +kernel
def xi_332_6 : XIs := [(178, .iload_n 3, 1), (179, .goto 5, 3), (182, .iload 4, 2), (184, .istore 4, 2), (186, .iinc 5 1, 3), (189, .goto (-161), 3), (192, .iload 4, 2), (194, .ireturn, 1)]
set_option maxRecDepth 100000 in
theorem xi_ok332_6 : xi_ok cX12_order xi_332_6 = true := by decide +kernel
def xi_332 (pc : Nat) : XIs := cond (Nat.blt pc 87) (cond (Nat.blt pc 25) (xi_332_0) (cond (Nat.blt pc 53) (xi_332_1) (xi_332_2))) (cond (Nat.blt pc 153) (cond (Nat.blt pc 119) (xi_332_3) (xi_332_4)) (cond (Nat.blt pc 178) (xi_332_5) (xi_332_6)))
theorem xi_ok332 (pc : Nat) : xi_ok cX12_order (xi_332 pc) = true := xi_c (xi_c (xi_ok332_0) (xi_c (xi_ok332_1) (xi_ok332_2))) (xi_c (xi_c (xi_ok332_3) (xi_ok332_4)) (xi_c (xi_ok332_5) (xi_ok332_6)))
def xi_333_0 : XIs := [(0, .iconst 0, 1), (1, .istore_n 3, 1), (2, .iconst 0, 1), (3, .istore 4, 2), (5, .iload 4, 2), (7, .sipush 160, 3), (10, .if_icmp .ge 84, 3), (13, .aload_n 0, 1), (14, .iload 4, 2), (16, .invokevirtual 340, 3), (19, .ifCond .eq 69, 3), (22, .aload_n 0, 1), (23, .getfield 20, 3), (26, .aload_n 0, 1), (27, .getfield 288, 3), (30, .iload 4, 2)]
set_option maxRecDepth 100000 in
theorem xi_ok333_0 : xi_ok cX12_jointsWith xi_333_0 = true := by decide +kernel
def xi_333_1 : XIs := [(32, .iadd, 1), (33, .iaload, 1), (34, .istore 5, 2), (36, .aload_n 0, 1), (37, .getfield 23, 3), (40, .aload_n 0, 1), (41, .getfield 288, 3), (44, .iload 4, 2), (46, .iadd, 1), (47, .iaload, 1), (48, .istore 6, 2), (50, .iload_n 3, 1), (51, .iload 5, 2), (53, .iload_n 1, 1), (54, .if_icmp .ne 12, 3), (57, .iload_n 2, 1)]
set_option maxRecDepth 100000 in
theorem xi_ok333_1 : xi_ok cX12_jointsWith xi_333_1 = true := by decide +kernel
def xi_333_2 : XIs := [(58, .iload 6, 2), (60, .invokestatic 427, 3), (63, .ifCond .ne 18, 3), (66, .iload 6, 2), (68, .iload_n 1, 1), (69, .if_icmp .ne 16, 3), (72, .iload_n 2, 1), (73, .iload 5, 2), (75, .invokestatic 427, 3), (78, .ifCond .eq 7, 3), (81, .iconst 1, 1), (82, .goto 4, 3), (85, .iconst 0, 1), (86, .iadd, 1), (87, .istore_n 3, 1), (88, .iinc 4 1, 3)]
set_option maxRecDepth 100000 in
theorem xi_ok333_2 : xi_ok cX12_jointsWith xi_333_2 = true := by decide +kernel
def xi_333_3 : XIs := [(91, .goto (-86), 3), (94, .iload_n 3, 1), (95, .ireturn, 1)]
set_option maxRecDepth 100000 in
theorem xi_ok333_3 : xi_ok cX12_jointsWith xi_333_3 = true := by decide +kernel
def xi_333 (pc : Nat) : XIs := cond (Nat.blt pc 58) (cond (Nat.blt pc 32) (xi_333_0) (xi_333_1)) (cond (Nat.blt pc 91) (xi_333_2) (xi_333_3))
theorem xi_ok333 (pc : Nat) : xi_ok cX12_jointsWith (xi_333 pc) = true := xi_c (xi_c (xi_ok333_0) (xi_ok333_1)) (xi_c (xi_ok333_2) (xi_ok333_3))
def xi_334 (pc : Nat) : XIs := []
theorem xi_ok334 (pc : Nat) : xi_ok cX12_core (xi_334 pc) = true := rfl
def xi_335_0 : XIs := [(0, .iconst 0, 1), (1, .istore_n 1, 1), (2, .iload_n 1, 1), (3, .aload_n 0, 1), (4, .getfield 285, 3), (7, .if_icmp .ge 16, 3), (10, .aload_n 0, 1), (11, .getfield 100, 3), (14, .iload_n 1, 1), (15, .iconst 0, 1), (16, .iastore, 1), (17, .iinc 1 1, 3), (20, .goto (-18), 3), (23, .iconst 0, 1), (24, .istore_n 1, 1), (25, .iload_n 1, 1)]
set_option maxRecDepth 100000 in
theorem xi_ok335_0 : xi_ok cX12_findBeside xi_335_0 = true := by decide +kernel
def xi_335_1 : XIs := [(26, .sipush 160, 3), (29, .if_icmp .ge 81, 3), (32, .aload_n 0, 1), (33, .iload_n 1, 1), (34, .invokevirtual 340, 3), (37, .ifCond .eq 67, 3), (40, .aload_n 0, 1), (41, .getfield 100, 3), (44, .aload_n 0, 1), (45, .getfield 20, 3), (48, .aload_n 0, 1), (49, .getfield 288, 3), (52, .iload_n 1, 1), (53, .iadd, 1), (54, .iaload, 1), (55, .dup2, 1)]
set_option maxRecDepth 100000 in
theorem xi_ok335_1 : xi_ok cX12_findBeside xi_335_1 = true := by decide +kernel
def xi_335_2 : XIs := [(56, .iaload, 1), (57, .iconst 1, 1), (58, .aload_n 0, 1), (59, .getfield 23, 3), (62, .aload_n 0, 1), (63, .getfield 288, 3), (66, .iload_n 1, 1), (67, .iadd, 1), (68, .iaload, 1), (69, .ishl, 1), (70, .ior, 1), (71, .iastore, 1), (72, .aload_n 0, 1), (73, .getfield 100, 3), (76, .aload_n 0, 1), (77, .getfield 23, 3)]
set_option maxRecDepth 100000 in
theorem xi_ok335_2 : xi_ok cX12_findBeside xi_335_2 = true := by decide +kernel
def xi_335_3 : XIs := [(80, .aload_n 0, 1), (81, .getfield 288, 3), (84, .iload_n 1, 1), (85, .iadd, 1), (86, .iaload, 1), (87, .dup2, 1), (88, .iaload, 1), (89, .iconst 1, 1), (90, .aload_n 0, 1), (91, .getfield 20, 3), (94, .aload_n 0, 1), (95, .getfield 288, 3), (98, .iload_n 1, 1), (99, .iadd, 1), (100, .iaload, 1), (101, .ishl, 1)]
set_option maxRecDepth 100000 in
theorem xi_ok335_3 : xi_ok cX12_findBeside xi_335_3 = true := by decide +kernel
def xi_335_4 : XIs := [(102, .ior, 1), (103, .iastore, 1), (104, .iinc 1 1, 3), (107, .goto (-82), 3), (110, .return_, 1)]
set_option maxRecDepth 100000 in
theorem xi_ok335_4 : xi_ok cX12_findBeside xi_335_4 = true := by decide +kernel
def xi_335 (pc : Nat) : XIs := cond (Nat.blt pc 56) (cond (Nat.blt pc 26) (xi_335_0) (xi_335_1)) (cond (Nat.blt pc 80) (xi_335_2) (cond (Nat.blt pc 102) (xi_335_3) (xi_335_4)))
theorem xi_ok335 (pc : Nat) : xi_ok cX12_findBeside (xi_335 pc) = true := xi_c (xi_c (xi_ok335_0) (xi_ok335_1)) (xi_c (xi_ok335_2) (xi_c (xi_ok335_3) (xi_ok335_4)))
def xi_336_0 : XIs := [(0, .iconst 0, 1), (1, .istore_n 1, 1), (2, .iconst 0, 1), (3, .istore_n 2, 1), (4, .iload_n 2, 1), (5, .bipush 32, 2), (7, .if_icmp .ge 17, 3), (10, .iload_n 1, 1), (11, .iload_n 0, 1), (12, .iload_n 2, 1), (13, .ishr, 1), (14, .iconst 1, 1), (15, .iand, 1), (16, .iadd, 1), (17, .istore_n 1, 1), (18, .iinc 2 1, 3)]
set_option maxRecDepth 100000 in
theorem xi_ok336_0 : xi_ok cX12_count xi_336_0 = true := by decide +kernel
def xi_336_1 : XIs := [(21, .goto (-17), 3), (24, .iload_n 1, 1), (25, .ireturn, 1)]
set_option maxRecDepth 100000 in
theorem xi_ok336_1 : xi_ok cX12_count xi_336_1 = true := by decide +kernel
def xi_336 (pc : Nat) : XIs := cond (Nat.blt pc 21) (xi_336_0) (xi_336_1)
theorem xi_ok336 (pc : Nat) : xi_ok cX12_count (xi_336 pc) = true := xi_c (xi_ok336_0) (xi_ok336_1)
def xi_337 (pc : Nat) : XIs := []
theorem xi_ok337 (pc : Nat) : xi_ok cX12_findClique (xi_337 pc) = true := rfl
def xi_338_0 : XIs := [(0, .aload_n 0, 1), (1, .iload_n 1, 1), (2, .ifCond .lt 7, 3), (5, .iconst 1, 1), (6, .goto 4, 3), (9, .iconst 0, 1), (10, .invokevirtual 334, 3), (13, .ifCond .eq 5, 3), (16, .iconst 0, 1), (17, .ireturn, 1), (18, .aload_n 0, 1), (19, .invokevirtual 491, 3), (22, .istore_n 2, 1), (23, .iconst 0, 1), (24, .istore_n 3, 1), (25, .iconst 0, 1)]
set_option maxRecDepth 100000 in
theorem xi_ok338_0 : xi_ok cX12_clique xi_338_0 = true := by decide +kernel
