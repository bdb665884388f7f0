def xi_209_0 : XIs := [(0, .aload_n 0, 1), (1, .getfield 10, 3), (4, .iload_n 1, 1), (5, .iload_n 2, 1), (6, .iload_n 3, 1), (7, .iload 4, 2), (9, .iload 5, 2), (11, .invokevirtual 115, 3), (14, .invokestatic 94, 3), (17, .aload_n 0, 1), (18, .getfield 10, 3), (21, .invokevirtual 104, 3), (24, .ifCond .ne 7, 3), (27, .iconst 1, 1), (28, .goto 4, 3), (31, .iconst 0, 1)]
set_option maxRecDepth 100000 in
theorem xi_ok209_0 : xi_ok cX11_arc xi_209_0 = true := by decide +kernel
def xi_209_1 : XIs := [(32, .invokestatic 108, 3), (35, .aload_n 0, 1), (36, .getfield 10, 3), (39, .iload_n 1, 1), (40, .iload_n 2, 1), (41, .iload_n 3, 1), (42, .iload 4, 2), (44, .iload 5, 2), (46, .invokevirtual 119, 3), (49, .ireturn, 1)]
set_option maxRecDepth 100000 in
theorem xi_ok209_1 : xi_ok cX11_arc xi_209_1 = true := by decide +kernel
def xi_209 (pc : Nat) : XIs := cond (Nat.blt pc 32) (xi_209_0) (xi_209_1)
theorem xi_ok209 (pc : Nat) : xi_ok cX11_arc (xi_209 pc) = true := xi_c (xi_ok209_0) (xi_ok209_1)
def xi_210_0 : XIs := [(0, .aload_n 0, 1), (1, .getfield 10, 3), (4, .getfield 98, 3), (7, .iload_n 1, 1), (8, .invokevirtual 123, 3), (11, .invokestatic 94, 3), (14, .aload_n 0, 1), (15, .getfield 10, 3), (18, .invokevirtual 104, 3), (21, .ifCond .ne 7, 3), (24, .iconst 1, 1), (25, .goto 4, 3), (28, .iconst 0, 1), (29, .invokestatic 108, 3), (32, .aload_n 0, 1), (33, .getfield 10, 3)]
set_option maxRecDepth 100000 in
theorem xi_ok210_0 : xi_ok cX11_take xi_210_0 = true := by decide +kernel
def xi_210_1 : XIs := [(36, .iload_n 1, 1), (37, .invokevirtual 126, 3), (40, .aload_n 0, 1), (41, .getfield 10, 3), (44, .getfield 98, 3), (47, .getfield 130, 3), (50, .ireturn, 1)]
set_option maxRecDepth 100000 in
theorem xi_ok210_1 : xi_ok cX11_take xi_210_1 = true := by decide +kernel
def xi_210 (pc : Nat) : XIs := cond (Nat.blt pc 36) (xi_210_0) (xi_210_1)
theorem xi_ok210 (pc : Nat) : xi_ok cX11_take (xi_210 pc) = true := xi_c (xi_ok210_0) (xi_ok210_1)
def xi_211_0 : XIs := [(0, .aload_n 0, 1), (1, .getfield 10, 3), (4, .getfield 98, 3), (7, .iload_n 1, 1), (8, .invokevirtual 123, 3), (11, .ifCond .eq 15, 3), (14, .iload_n 2, 1), (15, .iload_n 3, 1), (16, .invokestatic 133, 3), (19, .ifCond .eq 7, 3), (22, .iconst 1, 1), (23, .goto 4, 3), (26, .iconst 0, 1), (27, .invokestatic 94, 3), (30, .aload_n 0, 1), (31, .getfield 10, 3)]
set_option maxRecDepth 100000 in
theorem xi_ok211_0 : xi_ok cX11_set xi_211_0 = true := by decide +kernel
def xi_211_1 : XIs := [(34, .invokevirtual 104, 3), (37, .ifCond .ne 7, 3), (40, .iconst 1, 1), (41, .goto 4, 3), (44, .iconst 0, 1), (45, .invokestatic 108, 3), (48, .aload_n 0, 1), (49, .getfield 10, 3), (52, .getfield 98, 3), (55, .iload_n 1, 1), (56, .iload_n 2, 1), (57, .invokevirtual 137, 3), (60, .istore 4, 2), (62, .aload_n 0, 1), (63, .getfield 10, 3), (66, .iload_n 1, 1)]
set_option maxRecDepth 100000 in
theorem xi_ok211_1 : xi_ok cX11_set xi_211_1 = true := by decide +kernel
def xi_211_2 : XIs := [(67, .iload_n 2, 1), (68, .iload_n 3, 1), (69, .invokevirtual 141, 3), (72, .iload 4, 2), (74, .ireturn, 1)]
set_option maxRecDepth 100000 in
theorem xi_ok211_2 : xi_ok cX11_set xi_211_2 = true := by decide +kernel
def xi_211 (pc : Nat) : XIs := cond (Nat.blt pc 34) (xi_211_0) (cond (Nat.blt pc 67) (xi_211_1) (xi_211_2))
theorem xi_ok211 (pc : Nat) : xi_ok cX11_set (xi_211 pc) = true := xi_c (xi_ok211_0) (xi_c (xi_ok211_1) (xi_ok211_2))
def xi_212_0 : XIs := [(0, .aload_n 0, 1), (1, .getfield 10, 3), (4, .getfield 98, 3), (7, .iload_n 1, 1), (8, .invokevirtual 145, 3), (11, .ifCond .eq 14, 3), (14, .iload_n 2, 1), (15, .invokestatic 90, 3), (18, .ifCond .eq 7, 3), (21, .iconst 1, 1), (22, .goto 4, 3), (25, .iconst 0, 1), (26, .invokestatic 94, 3), (29, .aload_n 0, 1), (30, .getfield 10, 3), (33, .invokevirtual 104, 3)]
set_option maxRecDepth 100000 in
theorem xi_ok212_0 : xi_ok cX11_label xi_212_0 = true := by decide +kernel
def xi_212_1 : XIs := [(36, .ifCond .ne 7, 3), (39, .iconst 1, 1), (40, .goto 4, 3), (43, .iconst 0, 1), (44, .invokestatic 108, 3), (47, .aload_n 0, 1), (48, .getfield 10, 3), (51, .getfield 98, 3), (54, .getfield 148, 3), (57, .iload_n 1, 1), (58, .iaload, 1), (59, .istore_n 3, 1), (60, .aload_n 0, 1), (61, .getfield 10, 3), (64, .iload_n 1, 1), (65, .iload_n 2, 1)]
set_option maxRecDepth 100000 in
theorem xi_ok212_1 : xi_ok cX11_label xi_212_1 = true := by decide +kernel
def xi_212_2 : XIs := [(66, .invokevirtual 152, 3), (69, .iload_n 3, 1), (70, .ireturn, 1)]
set_option maxRecDepth 100000 in
theorem xi_ok212_2 : xi_ok cX11_label xi_212_2 = true := by decide +kernel
def xi_212 (pc : Nat) : XIs := cond (Nat.blt pc 36) (xi_212_0) (cond (Nat.blt pc 66) (xi_212_1) (xi_212_2))
theorem xi_ok212 (pc : Nat) : xi_ok cX11_label (xi_212 pc) = true := xi_c (xi_ok212_0) (xi_c (xi_ok212_1) (xi_ok212_2))
def xi_213_0 : XIs := [(0, .iload_n 1, 1), (1, .iconst (-1), 1), (2, .if_icmp .lt 21, 3), (5, .iload_n 1, 1), (6, .aload_n 0, 1), (7, .getfield 10, 3), (10, .getfield 98, 3), (13, .getfield 130, 3), (16, .if_icmp .gt 7, 3), (19, .iconst 1, 1), (20, .goto 4, 3), (23, .iconst 0, 1), (24, .invokestatic 94, 3), (27, .aload_n 0, 1), (28, .iload_n 1, 1), (29, .putfield 23, 3)]
set_option maxRecDepth 100000 in
theorem xi_ok213_0 : xi_ok cX11_view xi_213_0 = true := by decide +kernel
def xi_213_1 : XIs := [(32, .iload_n 1, 1), (33, .iconst (-1), 1), (34, .if_icmp .eq 15, 3), (37, .aload_n 0, 1), (38, .getfield 10, 3), (41, .aload_n 0, 1), (42, .getfield 19, 3), (45, .iload_n 1, 1), (46, .invokevirtual 156, 3), (49, .aload_n 0, 1), (50, .invokevirtual 160, 3), (53, .getfield 130, 3), (56, .ireturn, 1)]
set_option maxRecDepth 100000 in
theorem xi_ok213_1 : xi_ok cX11_view xi_213_1 = true := by decide +kernel
def xi_213 (pc : Nat) : XIs := cond (Nat.blt pc 32) (xi_213_0) (xi_213_1)
theorem xi_ok213 (pc : Nat) : xi_ok cX11_view (xi_213 pc) = true := xi_c (xi_ok213_0) (xi_ok213_1)
def xi_214_0 : XIs := [(0, .aload_n 0, 1), (1, .getfield 10, 3), (4, .getfield 98, 3), (7, .getfield 130, 3), (10, .ireturn, 1)]
set_option maxRecDepth 100000 in
theorem xi_ok214_0 : xi_ok cX11_version xi_214_0 = true := by decide +kernel
def xi_214 (pc : Nat) : XIs := xi_214_0
theorem xi_ok214 (pc : Nat) : xi_ok cX11_version (xi_214 pc) = true := xi_ok214_0
def xi_215_0 : XIs := [(0, .iload_n 1, 1), (1, .ifCond .lt 12, 3), (4, .iload_n 1, 1), (5, .iconst 3, 1), (6, .if_icmp .gt 7, 3), (9, .iconst 1, 1), (10, .goto 4, 3), (13, .iconst 0, 1), (14, .invokestatic 94, 3), (17, .aload_n 0, 1), (18, .invokevirtual 160, 3), (21, .astore_n 2, 1), (22, .iload_n 1, 1), (23, .tableswitch 40 0 2 #[25, 30, 35], 25), (48, .aload_n 2, 1), (49, .getfield 101, 3)]
set_option maxRecDepth 100000 in
theorem xi_ok215_0 : xi_ok cX11_size xi_215_0 = true := by decide +kernel
def xi_215_1 : XIs := [(52, .ireturn, 1), (53, .aload_n 2, 1), (54, .getfield 164, 3), (57, .ireturn, 1), (58, .aload_n 2, 1), (59, .invokevirtual 167, 3), (62, .ireturn, 1), (63, .aload_n 2, 1), (64, .getfield 171, 3), (67, .iconst 1, 1), (68, .isub, 1), (69, .ireturn, 1)]
set_option maxRecDepth 100000 in
theorem xi_ok215_1 : xi_ok cX11_size xi_215_1 = true := by decide +kernel
def xi_215 (pc : Nat) : XIs := cond (Nat.blt pc 52) (xi_215_0) (xi_215_1)
theorem xi_ok215 (pc : Nat) : xi_ok cX11_size (xi_215 pc) = true := xi_c (xi_ok215_0) (xi_ok215_1)
def xi_216_0 : XIs := [(0, .iload_n 1, 1), (1, .ifCond .lt 23, 3), (4, .iload_n 1, 1), (5, .sipush 160, 3), (8, .if_icmp .ge 16, 3), (11, .iload_n 2, 1), (12, .ifCond .lt 12, 3), (15, .iload_n 2, 1), (16, .iconst 4, 1), (17, .if_icmp .gt 7, 3), (20, .iconst 1, 1), (21, .goto 4, 3), (24, .iconst 0, 1), (25, .invokestatic 94, 3), (28, .aload_n 0, 1), (29, .invokevirtual 160, 3)]
set_option maxRecDepth 100000 in
theorem xi_ok216_0 : xi_ok cX11_told xi_216_0 = true := by decide +kernel
def xi_216_1 : XIs := [(32, .astore_n 3, 1), (33, .aload_n 3, 1), (34, .iload_n 1, 1), (35, .invokevirtual 123, 3), (38, .ifCond .ne 7, 3), (41, .ldc2_w 174, 3), (44, .lreturn, 1), (45, .iload_n 2, 1), (46, .ifCond .ne 11, 3), (49, .aload_n 3, 1), (50, .getfield 176, 3), (53, .iload_n 1, 1), (54, .iaload, 1), (55, .i2l, 1), (56, .lreturn, 1), (57, .iload_n 2, 1)]
set_option maxRecDepth 100000 in
theorem xi_ok216_1 : xi_ok cX11_told xi_216_1 = true := by decide +kernel
def xi_216_2 : XIs := [(58, .iconst 1, 1), (59, .if_icmp .ne 13, 3), (62, .aload_n 3, 1), (63, .getfield 179, 3), (66, .iload_n 1, 1), (67, .iaload, 1), (68, .i2l, 1), (69, .goto 12, 3), (72, .aload_n 3, 1), (73, .iload_n 1, 1), (74, .iload_n 2, 1), (75, .iconst 2, 1), (76, .isub, 1), (77, .invokevirtual 137, 3), (80, .i2l, 1), (81, .lreturn, 1)]
set_option maxRecDepth 100000 in
theorem xi_ok216_2 : xi_ok cX11_told xi_216_2 = true := by decide +kernel
def xi_216 (pc : Nat) : XIs := cond (Nat.blt pc 32) (xi_216_0) (cond (Nat.blt pc 58) (xi_216_1) (xi_216_2))
theorem xi_ok216 (pc : Nat) : xi_ok cX11_told (xi_216 pc) = true := xi_c (xi_ok216_0) (xi_c (xi_ok216_1) (xi_ok216_2))
def xi_217_0 : XIs := [(0, .aload_n 0, 1), (1, .invokevirtual 160, 3), (4, .astore_n 2, 1), (5, .aload_n 2, 1), (6, .iload_n 1, 1), (7, .invokevirtual 145, 3), (10, .invokestatic 94, 3), (13, .aload_n 2, 1), (14, .getfield 148, 3), (17, .iload_n 1, 1), (18, .iaload, 1), (19, .ireturn, 1)]
set_option maxRecDepth 100000 in
theorem xi_ok217_0 : xi_ok cX11_labelOf xi_217_0 = true := by decide +kernel
def xi_217 (pc : Nat) : XIs := xi_217_0
theorem xi_ok217 (pc : Nat) : xi_ok cX11_labelOf (xi_217 pc) = true := xi_ok217_0
def xi_218_0 : XIs := [(0, .aload_n 0, 1), (1, .invokevirtual 160, 3), (4, .astore 4, 2), (6, .aload 4, 2), (8, .iload_n 1, 1), (9, .invokevirtual 145, 3), (12, .ifCond .eq 20, 3), (15, .iload_n 2, 1), (16, .ifCond .lt 16, 3), (19, .iload_n 2, 1), (20, .iconst 1, 1), (21, .if_icmp .gt 11, 3), (24, .iload_n 3, 1), (25, .ifCond .lt 7, 3), (28, .iconst 1, 1), (29, .goto 4, 3)]
set_option maxRecDepth 100000 in
theorem xi_ok218_0 : xi_ok cX11_arcAt xi_218_0 = true := by decide +kernel
def xi_218_1 : XIs := [(32, .iconst 0, 1), (33, .invokestatic 94, 3), (36, .aload 4, 2), (38, .invokevirtual 182, 3), (41, .iload_n 2, 1), (42, .ifCond .ne 33, 3), (45, .iload_n 3, 1), (46, .aload 4, 2), (48, .iload_n 1, 1), (49, .invokevirtual 185, 3), (52, .if_icmp .ge 21, 3), (55, .aload 4, 2), (57, .getfield 188, 3), (60, .aload 4, 2), (62, .getfield 191, 3), (65, .iload_n 1, 1)]
set_option maxRecDepth 100000 in
theorem xi_ok218_1 : xi_ok cX11_arcAt xi_218_1 = true := by decide +kernel
def xi_218_2 : XIs := [(66, .iaload, 1), (67, .iload_n 3, 1), (68, .iadd, 1), (69, .iaload, 1), (70, .goto 4, 3), (73, .iconst (-1), 1), (74, .ireturn, 1), (75, .iload_n 3, 1), (76, .aload 4, 2), (78, .iload_n 1, 1), (79, .invokevirtual 194, 3), (82, .if_icmp .ge 21, 3), (85, .aload 4, 2), (87, .getfield 197, 3), (90, .aload 4, 2), (92, .getfield 200, 3)]
set_option maxRecDepth 100000 in
theorem xi_ok218_2 : xi_ok cX11_arcAt xi_218_2 = true := by decide +kernel
def xi_218_3 : XIs := [(95, .iload_n 1, 1), (96, .iaload, 1), (97, .iload_n 3, 1), (98, .iadd, 1), (99, .iaload, 1), (100, .goto 4, 3), (103, .iconst (-1), 1), (104, .ireturn, 1)]
set_option maxRecDepth 100000 in
theorem xi_ok218_3 : xi_ok cX11_arcAt xi_218_3 = true := by decide +kernel
def xi_218 (pc : Nat) : XIs := cond (Nat.blt pc 66) (cond (Nat.blt pc 32) (xi_218_0) (xi_218_1)) (cond (Nat.blt pc 95) (xi_218_2) (xi_218_3))
theorem xi_ok218 (pc : Nat) : xi_ok cX11_arcAt (xi_218 pc) = true := xi_c (xi_c (xi_ok218_0) (xi_ok218_1)) (xi_c (xi_ok218_2) (xi_ok218_3))
def xi_219_0 : XIs := [(0, .iload_n 1, 1), (1, .bipush 32, 2), (3, .if_icmp .lt 13, 3), (6, .iload_n 1, 1), (7, .bipush 126, 2), (9, .if_icmp .gt 7, 3), (12, .iconst 1, 1), (13, .goto 4, 3), (16, .iconst 0, 1), (17, .invokestatic 94, 3), (20, .aload_n 0, 1), (21, .getfield 30, 3), (24, .getfield 203, 3), (27, .sipush 1000, 3), (30, .if_icmp .ge 7, 3), (33, .iconst 1, 1)]
set_option maxRecDepth 100000 in
theorem xi_ok219_0 : xi_ok cX11_type xi_219_0 = true := by decide +kernel
def xi_219_1 : XIs := [(34, .goto 4, 3), (37, .iconst 0, 1), (38, .invokestatic 108, 3), (41, .aload_n 0, 1), (42, .getfield 30, 3), (45, .getfield 206, 3), (48, .aload_n 0, 1), (49, .getfield 30, 3), (52, .getfield 203, 3), (55, .iload_n 1, 1), (56, .i2c, 1), (57, .castore, 1), (58, .aload_n 0, 1), (59, .getfield 30, 3), (62, .dup, 1), (63, .getfield 203, 3)]
set_option maxRecDepth 100000 in
theorem xi_ok219_1 : xi_ok cX11_type xi_219_1 = true := by decide +kernel
def xi_219_2 : XIs := [(66, .iconst 1, 1), (67, .iadd, 1), (68, .putfield 203, 3), (71, .aload_n 0, 1), (72, .getfield 30, 3), (75, .getfield 203, 3), (78, .ireturn, 1)]
set_option maxRecDepth 100000 in
theorem xi_ok219_2 : xi_ok cX11_type xi_219_2 = true := by decide +kernel
def xi_219 (pc : Nat) : XIs := cond (Nat.blt pc 34) (xi_219_0) (cond (Nat.blt pc 66) (xi_219_1) (xi_219_2))
theorem xi_ok219 (pc : Nat) : xi_ok cX11_type (xi_219 pc) = true := xi_c (xi_ok219_0) (xi_c (xi_ok219_1) (xi_ok219_2))
def xi_220_0 : XIs := [(0, .aload_n 0, 1), (1, .getfield 30, 3), (4, .getfield 203, 3), (7, .istore_n 1, 1), (8, .aload_n 0, 1), (9, .getfield 30, 3), (12, .iconst 0, 1), (13, .putfield 203, 3), (16, .iload_n 1, 1), (17, .ireturn, 1)]
set_option maxRecDepth 100000 in
theorem xi_ok220_0 : xi_ok cX11_wipe xi_220_0 = true := by decide +kernel
def xi_220 (pc : Nat) : XIs := xi_220_0
theorem xi_ok220 (pc : Nat) : xi_ok cX11_wipe (xi_220 pc) = true := xi_ok220_0
def xi_221_0 : XIs := [(0, .aload_n 0, 1), (1, .getfield 10, 3), (4, .aload_n 0, 1), (5, .getfield 30, 3), (8, .invokevirtual 210, 3), (11, .ireturn, 1)]
set_option maxRecDepth 100000 in
theorem xi_ok221_0 : xi_ok cX11_load xi_221_0 = true := by decide +kernel
def xi_221 (pc : Nat) : XIs := xi_221_0
theorem xi_ok221 (pc : Nat) : xi_ok cX11_load (xi_221 pc) = true := xi_ok221_0
def xi_222_0 : XIs := [(0, .iload_n 1, 1), (1, .ifCond .lt 12, 3), (4, .iload_n 1, 1), (5, .iconst 1, 1), (6, .if_icmp .gt 7, 3), (9, .iconst 1, 1), (10, .goto 4, 3), (13, .iconst 0, 1), (14, .invokestatic 94, 3), (17, .iload_n 1, 1), (18, .ifCond .ne 13, 3), (21, .aload_n 0, 1), (22, .getfield 30, 3), (25, .getfield 214, 3), (28, .goto 10, 3), (31, .aload_n 0, 1)]
set_option maxRecDepth 100000 in
theorem xi_ok222_0 : xi_ok cX11_fault xi_222_0 = true := by decide +kernel
def xi_222_1 : XIs := [(32, .getfield 30, 3), (35, .getfield 217, 3), (38, .ireturn, 1)]
set_option maxRecDepth 100000 in
theorem xi_ok222_1 : xi_ok cX11_fault xi_222_1 = true := by decide +kernel
def xi_222 (pc : Nat) : XIs := cond (Nat.blt pc 32) (xi_222_0) (xi_222_1)
theorem xi_ok222 (pc : Nat) : xi_ok cX11_fault (xi_222 pc) = true := xi_c (xi_ok222_0) (xi_ok222_1)
def xi_223_0 : XIs := [(0, .aload_n 0, 1), (1, .getfield 30, 3), (4, .aload_n 0, 1), (5, .invokevirtual 160, 3), (8, .invokevirtual 220, 3), (11, .ireturn, 1)]
set_option maxRecDepth 100000 in
theorem xi_ok223_0 : xi_ok cX11_print xi_223_0 = true := by decide +kernel
def xi_223 (pc : Nat) : XIs := xi_223_0
theorem xi_ok223 (pc : Nat) : xi_ok cX11_print (xi_223 pc) = true := xi_ok223_0
def xi_224_0 : XIs := [(0, .iload_n 1, 1), (1, .ifCond .lt 18, 3), (4, .iload_n 1, 1), (5, .aload_n 0, 1), (6, .getfield 30, 3), (9, .getfield 224, 3), (12, .if_icmp .ge 7, 3), (15, .iconst 1, 1), (16, .goto 4, 3), (19, .iconst 0, 1), (20, .invokestatic 94, 3), (23, .aload_n 0, 1), (24, .getfield 30, 3), (27, .getfield 227, 3), (30, .iload_n 1, 1), (31, .caload, 1)]
set_option maxRecDepth 100000 in
theorem xi_ok224_0 : xi_ok cX11_printed xi_224_0 = true := by decide +kernel
def xi_224_1 : XIs := [(32, .ireturn, 1)]
set_option maxRecDepth 100000 in
theorem xi_ok224_1 : xi_ok cX11_printed xi_224_1 = true := by decide +kernel
def xi_224 (pc : Nat) : XIs := cond (Nat.blt pc 32) (xi_224_0) (xi_224_1)
theorem xi_ok224 (pc : Nat) : xi_ok cX11_printed (xi_224 pc) = true := xi_c (xi_ok224_0) (xi_ok224_1)
def xi_225_0 : XIs := [(0, .aload_n 0, 1), (1, .invokevirtual 160, 3), (4, .astore_n 3, 1), (5, .aload_n 3, 1), (6, .iload_n 1, 1), (7, .invokevirtual 145, 3), (10, .ifCond .eq 15, 3), (13, .aload_n 3, 1), (14, .iload_n 2, 1), (15, .invokevirtual 145, 3), (18, .ifCond .eq 7, 3), (21, .iconst 1, 1), (22, .goto 4, 3), (25, .iconst 0, 1), (26, .invokestatic 94, 3), (29, .aload_n 0, 1)]
set_option maxRecDepth 100000 in
theorem xi_ok225_0 : xi_ok cX11_distance xi_225_0 = true := by decide +kernel
def xi_225_1 : XIs := [(30, .getfield 37, 3), (33, .aload_n 3, 1), (34, .iload_n 1, 1), (35, .iload_n 2, 1), (36, .invokevirtual 230, 3), (39, .lreturn, 1)]
set_option maxRecDepth 100000 in
theorem xi_ok225_1 : xi_ok cX11_distance xi_225_1 = true := by decide +kernel
def xi_225 (pc : Nat) : XIs := cond (Nat.blt pc 30) (xi_225_0) (xi_225_1)
theorem xi_ok225 (pc : Nat) : xi_ok cX11_distance (xi_225 pc) = true := xi_c (xi_ok225_0) (xi_ok225_1)
def xi_226_0 : XIs := [(0, .aload_n 0, 1), (1, .invokevirtual 160, 3), (4, .astore 4, 2), (6, .aload 4, 2), (8, .iload_n 1, 1), (9, .invokevirtual 145, 3), (12, .ifCond .eq 20, 3), (15, .aload 4, 2), (17, .iload_n 2, 1), (18, .invokevirtual 145, 3), (21, .ifCond .eq 11, 3), (24, .iload_n 3, 1), (25, .ifCond .lt 7, 3), (28, .iconst 1, 1), (29, .goto 4, 3), (32, .iconst 0, 1)]
set_option maxRecDepth 100000 in
theorem xi_ok226_0 : xi_ok cX11_way xi_226_0 = true := by decide +kernel
def xi_226_1 : XIs := [(33, .invokestatic 94, 3), (36, .aload_n 0, 1), (37, .getfield 37, 3), (40, .aload 4, 2), (42, .iload_n 1, 1), (43, .iload_n 2, 1), (44, .iload_n 3, 1), (45, .invokevirtual 234, 3), (48, .ireturn, 1)]
set_option maxRecDepth 100000 in
theorem xi_ok226_1 : xi_ok cX11_way xi_226_1 = true := by decide +kernel
def xi_226 (pc : Nat) : XIs := cond (Nat.blt pc 33) (xi_226_0) (xi_226_1)
theorem xi_ok226 (pc : Nat) : xi_ok cX11_way (xi_226 pc) = true := xi_c (xi_ok226_0) (xi_ok226_1)
def xi_227_0 : XIs := [(0, .aload_n 0, 1), (1, .invokevirtual 160, 3), (4, .astore_n 3, 1), (5, .aload_n 3, 1), (6, .iload_n 1, 1), (7, .invokevirtual 145, 3), (10, .ifCond .eq 15, 3), (13, .aload_n 3, 1), (14, .iload_n 2, 1), (15, .invokevirtual 145, 3), (18, .ifCond .eq 7, 3), (21, .iconst 1, 1), (22, .goto 4, 3), (25, .iconst 0, 1), (26, .invokestatic 94, 3), (29, .aload_n 0, 1)]
set_option maxRecDepth 100000 in
theorem xi_ok227_0 : xi_ok cX11_width xi_227_0 = true := by decide +kernel
def xi_227_1 : XIs := [(30, .getfield 37, 3), (33, .aload_n 3, 1), (34, .iload_n 1, 1), (35, .iload_n 2, 1), (36, .invokevirtual 238, 3), (39, .ireturn, 1)]
set_option maxRecDepth 100000 in
theorem xi_ok227_1 : xi_ok cX11_width xi_227_1 = true := by decide +kernel
def xi_227 (pc : Nat) : XIs := cond (Nat.blt pc 30) (xi_227_0) (xi_227_1)
theorem xi_ok227 (pc : Nat) : xi_ok cX11_width (xi_227 pc) = true := xi_c (xi_ok227_0) (xi_ok227_1)
def xi_228_0 : XIs := [(0, .aload_n 0, 1), (1, .invokevirtual 160, 3), (4, .astore_n 3, 1), (5, .aload_n 3, 1), (6, .iload_n 1, 1), (7, .iload_n 2, 1), (8, .invokevirtual 242, 3), (11, .invokestatic 94, 3), (14, .aload_n 0, 1), (15, .getfield 37, 3), (18, .aload_n 3, 1), (19, .iload_n 1, 1), (20, .iload_n 2, 1), (21, .invokevirtual 245, 3), (24, .ireturn, 1)]
set_option maxRecDepth 100000 in
theorem xi_ok228_0 : xi_ok cX11_shorts xi_228_0 = true := by decide +kernel
def xi_228 (pc : Nat) : XIs := xi_228_0
theorem xi_ok228 (pc : Nat) : xi_ok cX11_shorts (xi_228 pc) = true := xi_ok228_0
def xi_229_0 : XIs := [(0, .aload_n 0, 1), (1, .invokevirtual 160, 3), (4, .astore 5, 2), (6, .aload 5, 2), (8, .iload_n 1, 1), (9, .iload_n 2, 1), (10, .invokevirtual 242, 3), (13, .ifCond .eq 16, 3), (16, .iload_n 3, 1), (17, .ifCond .lt 12, 3), (20, .iload 4, 2), (22, .ifCond .lt 7, 3), (25, .iconst 1, 1), (26, .goto 4, 3), (29, .iconst 0, 1), (30, .invokestatic 94, 3)]
set_option maxRecDepth 100000 in
theorem xi_ok229_0 : xi_ok cX11_shortArc xi_229_0 = true := by decide +kernel
def xi_229_1 : XIs := [(33, .aload_n 0, 1), (34, .getfield 37, 3), (37, .aload 5, 2), (39, .iload_n 1, 1), (40, .iload_n 2, 1), (41, .iload_n 3, 1), (42, .iload 4, 2), (44, .invokevirtual 248, 3), (47, .ireturn, 1)]
set_option maxRecDepth 100000 in
theorem xi_ok229_1 : xi_ok cX11_shortArc xi_229_1 = true := by decide +kernel
def xi_229 (pc : Nat) : XIs := cond (Nat.blt pc 33) (xi_229_0) (xi_229_1)
theorem xi_ok229 (pc : Nat) : xi_ok cX11_shortArc (xi_229 pc) = true := xi_c (xi_ok229_0) (xi_ok229_1)
def xi_230_0 : XIs := [(0, .aload_n 0, 1), (1, .invokevirtual 160, 3), (4, .astore_n 3, 1), (5, .iload_n 1, 1), (6, .ifCond .lt 20, 3), (9, .iload_n 1, 1), (10, .iconst 1, 1), (11, .if_icmp .gt 15, 3), (14, .aload_n 3, 1), (15, .iload_n 2, 1), (16, .invokevirtual 145, 3), (19, .ifCond .eq 7, 3), (22, .iconst 1, 1), (23, .goto 4, 3), (26, .iconst 0, 1), (27, .invokestatic 94, 3)]
set_option maxRecDepth 100000 in
theorem xi_ok230_0 : xi_ok cX11_part xi_230_0 = true := by decide +kernel
def xi_230_1 : XIs := [(30, .iload_n 1, 1), (31, .ifCond .ne 15, 3), (34, .aload_n 0, 1), (35, .getfield 44, 3), (38, .aload_n 3, 1), (39, .iload_n 2, 1), (40, .invokevirtual 252, 3), (43, .goto 12, 3), (46, .aload_n 0, 1), (47, .getfield 44, 3), (50, .aload_n 3, 1), (51, .iload_n 2, 1), (52, .invokevirtual 256, 3), (55, .ireturn, 1)]
set_option maxRecDepth 100000 in
theorem xi_ok230_1 : xi_ok cX11_part xi_230_1 = true := by decide +kernel
def xi_230 (pc : Nat) : XIs := cond (Nat.blt pc 30) (xi_230_0) (xi_230_1)
theorem xi_ok230 (pc : Nat) : xi_ok cX11_part (xi_230 pc) = true := xi_c (xi_ok230_0) (xi_ok230_1)
def xi_231_0 : XIs := [(0, .aload_n 0, 1), (1, .invokevirtual 160, 3), (4, .astore_n 2, 1), (5, .aload_n 2, 1), (6, .iload_n 1, 1), (7, .invokevirtual 123, 3), (10, .invokestatic 94, 3), (13, .aload_n 0, 1), (14, .getfield 44, 3), (17, .aload_n 2, 1), (18, .iload_n 1, 1), (19, .invokevirtual 259, 3), (22, .ireturn, 1)]
set_option maxRecDepth 100000 in
theorem xi_ok231_0 : xi_ok cX11_bridge xi_231_0 = true := by decide +kernel
def xi_231 (pc : Nat) : XIs := xi_231_0
theorem xi_ok231 (pc : Nat) : xi_ok cX11_bridge (xi_231 pc) = true := xi_ok231_0
def xi_232_0 : XIs := [(0, .aload_n 0, 1), (1, .invokevirtual 160, 3), (4, .astore_n 2, 1), (5, .aload_n 2, 1), (6, .iload_n 1, 1), (7, .invokevirtual 145, 3), (10, .invokestatic 94, 3), (13, .aload_n 0, 1), (14, .getfield 44, 3), (17, .aload_n 2, 1), (18, .iload_n 1, 1), (19, .invokevirtual 263, 3), (22, .ireturn, 1)]
set_option maxRecDepth 100000 in
theorem xi_ok232_0 : xi_ok cX11_cut xi_232_0 = true := by decide +kernel
def xi_232 (pc : Nat) : XIs := xi_232_0
theorem xi_ok232 (pc : Nat) : xi_ok cX11_cut (xi_232 pc) = true := xi_ok232_0
def xi_233_0 : XIs := [(0, .iload_n 1, 1), (1, .ifCond .lt 7, 3), (4, .iconst 1, 1), (5, .goto 4, 3), (8, .iconst 0, 1), (9, .invokestatic 94, 3), (12, .aload_n 0, 1), (13, .getfield 44, 3), (16, .aload_n 0, 1), (17, .invokevirtual 160, 3), (20, .iload_n 1, 1), (21, .invokevirtual 266, 3), (24, .ireturn, 1)]
set_option maxRecDepth 100000 in
theorem xi_ok233_0 : xi_ok cX11_order xi_233_0 = true := by decide +kernel
def xi_233 (pc : Nat) : XIs := xi_233_0
theorem xi_ok233 (pc : Nat) : xi_ok cX11_order (xi_233 pc) = true := xi_ok233_0
def xi_234_0 : XIs := [(0, .aload_n 0, 1), (1, .invokevirtual 160, 3), (4, .astore_n 2, 1), (5, .aload_n 2, 1), (6, .iload_n 1, 1), (7, .invokevirtual 145, 3), (10, .invokestatic 94, 3), (13, .aload_n 0, 1), (14, .getfield 44, 3), (17, .aload_n 2, 1), (18, .iload_n 1, 1), (19, .invokevirtual 269, 3), (22, .ireturn, 1)]
set_option maxRecDepth 100000 in
theorem xi_ok234_0 : xi_ok cX11_core xi_234_0 = true := by decide +kernel
def xi_234 (pc : Nat) : XIs := xi_234_0
theorem xi_ok234 (pc : Nat) : xi_ok cX11_core (xi_234 pc) = true := xi_ok234_0
def xi_235_0 : XIs := [(0, .iload_n 1, 1), (1, .ifCond .lt 7, 3), (4, .iconst 1, 1), (5, .goto 4, 3), (8, .iconst 0, 1), (9, .invokestatic 94, 3), (12, .aload_n 0, 1), (13, .getfield 51, 3), (16, .aload_n 0, 1), (17, .invokevirtual 160, 3), (20, .invokevirtual 272, 3), (23, .istore_n 2, 1), (24, .iload_n 1, 1), (25, .iload_n 2, 1), (26, .invokestatic 275, 3), (29, .if_icmp .lt 5, 3)]
set_option maxRecDepth 100000 in
theorem xi_ok235_0 : xi_ok cX11_clique xi_235_0 = true := by decide +kernel
def xi_235_1 : XIs := [(32, .iconst (-1), 1), (33, .ireturn, 1), (34, .iconst 0, 1), (35, .istore_n 3, 1), (36, .iload_n 3, 1), (37, .iload_n 1, 1), (38, .if_icmp .ge 15, 3), (41, .iload_n 2, 1), (42, .iload_n 2, 1), (43, .iconst 1, 1), (44, .isub, 1), (45, .iand, 1), (46, .istore_n 2, 1), (47, .iinc 3 1, 3), (50, .goto (-14), 3), (53, .iload_n 2, 1)]
set_option maxRecDepth 100000 in
theorem xi_ok235_1 : xi_ok cX11_clique xi_235_1 = true := by decide +kernel
def xi_235_2 : XIs := [(54, .invokestatic 280, 3), (57, .ireturn, 1)]
set_option maxRecDepth 100000 in
theorem xi_ok235_2 : xi_ok cX11_clique xi_235_2 = true := by decide +kernel
def xi_235 (pc : Nat) : XIs := cond (Nat.blt pc 32) (xi_235_0) (cond (Nat.blt pc 54) (xi_235_1) (xi_235_2))
theorem xi_ok235 (pc : Nat) : xi_ok cX11_clique (xi_235 pc) = true := xi_c (xi_ok235_0) (xi_c (xi_ok235_1) (xi_ok235_2))
def xi_236_0 : XIs := [(0, .aload_n 0, 1), (1, .invokevirtual 160, 3), (4, .astore_n 2, 1), (5, .aload_n 2, 1), (6, .iload_n 1, 1), (7, .invokevirtual 145, 3), (10, .invokestatic 94, 3), (13, .aload_n 0, 1), (14, .getfield 51, 3), (17, .aload_n 2, 1), (18, .iload_n 1, 1), (19, .invokevirtual 283, 3), (22, .ireturn, 1)]
set_option maxRecDepth 100000 in
theorem xi_ok236_0 : xi_ok cX11_colour xi_236_0 = true := by decide +kernel
def xi_236 (pc : Nat) : XIs := xi_236_0
theorem xi_ok236 (pc : Nat) : xi_ok cX11_colour (xi_236 pc) = true := xi_ok236_0
def xi_237_0 : XIs := [(0, .aload_n 0, 1), (1, .invokevirtual 160, 3), (4, .astore_n 3, 1), (5, .aload_n 3, 1), (6, .iload_n 1, 1), (7, .iload_n 2, 1), (8, .invokevirtual 242, 3), (11, .invokestatic 94, 3), (14, .aload_n 0, 1), (15, .getfield 58, 3), (18, .aload_n 3, 1), (19, .iload_n 1, 1), (20, .iload_n 2, 1), (21, .invokevirtual 286, 3), (24, .lreturn, 1)]
set_option maxRecDepth 100000 in
theorem xi_ok237_0 : xi_ok cX11_flow xi_237_0 = true := by decide +kernel
def xi_237 (pc : Nat) : XIs := xi_237_0
theorem xi_ok237 (pc : Nat) : xi_ok cX11_flow (xi_237 pc) = true := xi_ok237_0
def xi_238_0 : XIs := [(0, .aload_n 0, 1), (1, .invokevirtual 160, 3), (4, .astore 4, 2), (6, .aload 4, 2), (8, .iload_n 1, 1), (9, .iload_n 2, 1), (10, .invokevirtual 242, 3), (13, .ifCond .eq 16, 3), (16, .aload 4, 2), (18, .iload_n 3, 1), (19, .invokevirtual 145, 3), (22, .ifCond .eq 7, 3), (25, .iconst 1, 1), (26, .goto 4, 3), (29, .iconst 0, 1), (30, .invokestatic 94, 3)]
set_option maxRecDepth 100000 in
theorem xi_ok238_0 : xi_ok cX11_side xi_238_0 = true := by decide +kernel
def xi_238_1 : XIs := [(33, .aload_n 0, 1), (34, .getfield 58, 3), (37, .aload 4, 2), (39, .iload_n 1, 1), (40, .iload_n 2, 1), (41, .invokevirtual 286, 3), (44, .pop2, 1), (45, .aload_n 0, 1), (46, .getfield 58, 3), (49, .getfield 289, 3), (52, .iload_n 3, 1), (53, .ishr, 1), (54, .iconst 1, 1), (55, .iand, 1), (56, .ifCond .eq 7, 3), (59, .iconst 1, 1)]
set_option maxRecDepth 100000 in
theorem xi_ok238_1 : xi_ok cX11_side xi_238_1 = true := by decide +kernel
def xi_238_2 : XIs := [(60, .goto 4, 3), (63, .iconst 0, 1), (64, .ireturn, 1)]
set_option maxRecDepth 100000 in
theorem xi_ok238_2 : xi_ok cX11_side xi_238_2 = true := by decide +kernel
def xi_238 (pc : Nat) : XIs := cond (Nat.blt pc 33) (xi_238_0) (cond (Nat.blt pc 60) (xi_238_1) (xi_238_2))
theorem xi_ok238 (pc : Nat) : xi_ok cX11_side (xi_238 pc) = true := xi_c (xi_ok238_0) (xi_c (xi_ok238_1) (xi_ok238_2))
def xi_239_0 : XIs := [(0, .aload_n 0, 1), (1, .invokevirtual 160, 3), (4, .astore 4, 2), (6, .aload 4, 2), (8, .iload_n 1, 1), (9, .iload_n 2, 1), (10, .invokevirtual 242, 3), (13, .ifCond .eq 18, 3), (16, .iload_n 3, 1), (17, .ifCond .lt 14, 3), (20, .iload_n 3, 1), (21, .ldc_w 292, 3), (24, .if_icmp .gt 7, 3), (27, .iconst 1, 1), (28, .goto 4, 3), (31, .iconst 0, 1)]
set_option maxRecDepth 100000 in
theorem xi_ok239_0 : xi_ok cX11_cost xi_239_0 = true := by decide +kernel
def xi_239_1 : XIs := [(32, .invokestatic 94, 3), (35, .aload_n 0, 1), (36, .getfield 58, 3), (39, .aload 4, 2), (41, .iload_n 1, 1), (42, .iload_n 2, 1), (43, .iload_n 3, 1), (44, .invokevirtual 293, 3), (47, .lreturn, 1)]
set_option maxRecDepth 100000 in
theorem xi_ok239_1 : xi_ok cX11_cost xi_239_1 = true := by decide +kernel
def xi_239 (pc : Nat) : XIs := cond (Nat.blt pc 32) (xi_239_0) (xi_239_1)
theorem xi_ok239 (pc : Nat) : xi_ok cX11_cost (xi_239 pc) = true := xi_c (xi_ok239_0) (xi_ok239_1)
def xi_240_0 : XIs := [(0, .iload_n 1, 1), (1, .ifCond .lt 12, 3), (4, .iload_n 1, 1), (5, .iconst 1, 1), (6, .if_icmp .gt 7, 3), (9, .iconst 1, 1), (10, .goto 4, 3), (13, .iconst 0, 1), (14, .invokestatic 94, 3), (17, .aload_n 0, 1), (18, .getfield 58, 3), (21, .aload_n 0, 1), (22, .invokevirtual 160, 3), (25, .invokevirtual 297, 3), (28, .iload_n 1, 1), (29, .ifCond .ne 14, 3)]
set_option maxRecDepth 100000 in
theorem xi_ok240_0 : xi_ok cX11_pairing xi_240_0 = true := by decide +kernel
def xi_240_1 : XIs := [(32, .aload_n 0, 1), (33, .getfield 58, 3), (36, .getfield 301, 3), (39, .i2l, 1), (40, .goto 10, 3), (43, .aload_n 0, 1), (44, .getfield 58, 3), (47, .getfield 304, 3), (50, .lreturn, 1)]
set_option maxRecDepth 100000 in
theorem xi_ok240_1 : xi_ok cX11_pairing xi_240_1 = true := by decide +kernel
def xi_240 (pc : Nat) : XIs := cond (Nat.blt pc 32) (xi_240_0) (xi_240_1)
theorem xi_ok240 (pc : Nat) : xi_ok cX11_pairing (xi_240 pc) = true := xi_c (xi_ok240_0) (xi_ok240_1)
def xi_241_0 : XIs := [(0, .aload_n 0, 1), (1, .invokevirtual 160, 3), (4, .astore_n 2, 1), (5, .aload_n 2, 1), (6, .iload_n 1, 1), (7, .invokevirtual 145, 3), (10, .invokestatic 94, 3), (13, .aload_n 0, 1), (14, .getfield 65, 3), (17, .aload_n 2, 1), (18, .iload_n 1, 1), (19, .invokevirtual 308, 3), (22, .lreturn, 1)]
set_option maxRecDepth 100000 in
theorem xi_ok241_0 : xi_ok cX11_tree xi_241_0 = true := by decide +kernel
def xi_241 (pc : Nat) : XIs := xi_241_0
theorem xi_ok241 (pc : Nat) : xi_ok cX11_tree (xi_241 pc) = true := xi_ok241_0
def xi_242_0 : XIs := [(0, .aload_n 0, 1), (1, .invokevirtual 160, 3), (4, .astore_n 2, 1), (5, .aload_n 2, 1), (6, .iload_n 1, 1), (7, .invokevirtual 123, 3), (10, .invokestatic 94, 3), (13, .aload_n 0, 1), (14, .getfield 65, 3), (17, .aload_n 2, 1), (18, .iload_n 1, 1), (19, .invokevirtual 312, 3), (22, .ireturn, 1)]
set_option maxRecDepth 100000 in
theorem xi_ok242_0 : xi_ok cX11_span xi_242_0 = true := by decide +kernel
def xi_242 (pc : Nat) : XIs := xi_242_0
theorem xi_ok242 (pc : Nat) : xi_ok cX11_span (xi_242 pc) = true := xi_ok242_0
def xi_243_0 : XIs := [(0, .aload_n 0, 1), (1, .getfield 65, 3), (4, .aload_n 0, 1), (5, .invokevirtual 160, 3), (8, .invokevirtual 315, 3), (11, .ireturn, 1)]
set_option maxRecDepth 100000 in
theorem xi_ok243_0 : xi_ok cX11_trees xi_243_0 = true := by decide +kernel
def xi_243 (pc : Nat) : XIs := xi_243_0
theorem xi_ok243 (pc : Nat) : xi_ok cX11_trees (xi_243 pc) = true := xi_ok243_0
def xi_244_0 : XIs := [(0, .aload_n 0, 1), (1, .invokevirtual 160, 3), (4, .astore_n 3, 1), (5, .aload_n 3, 1), (6, .iload_n 1, 1), (7, .invokevirtual 145, 3), (10, .ifCond .eq 17, 3), (13, .iload_n 2, 1), (14, .ifCond .lt 13, 3), (17, .iload_n 2, 1), (18, .bipush 40, 2), (20, .if_icmp .gt 7, 3), (23, .iconst 1, 1), (24, .goto 4, 3), (27, .iconst 0, 1), (28, .invokestatic 94, 3)]
set_option maxRecDepth 100000 in
theorem xi_ok244_0 : xi_ok cX11_rank xi_244_0 = true := by decide +kernel
def xi_244_1 : XIs := [(31, .aload_n 0, 1), (32, .getfield 72, 3), (35, .aload_n 3, 1), (36, .iload_n 1, 1), (37, .iload_n 2, 1), (38, .invokevirtual 318, 3), (41, .lreturn, 1)]
set_option maxRecDepth 100000 in
theorem xi_ok244_1 : xi_ok cX11_rank xi_244_1 = true := by decide +kernel
def xi_244 (pc : Nat) : XIs := cond (Nat.blt pc 31) (xi_244_0) (xi_244_1)
theorem xi_ok244 (pc : Nat) : xi_ok cX11_rank (xi_244 pc) = true := xi_c (xi_ok244_0) (xi_ok244_1)
def xi_245_0 : XIs := [(0, .aload_n 0, 1), (1, .invokevirtual 160, 3), (4, .astore 5, 2), (6, .aload 5, 2), (8, .iload_n 1, 1), (9, .invokevirtual 145, 3), (12, .ifCond .eq 35, 3), (15, .aload 5, 2), (17, .iload_n 2, 1), (18, .invokevirtual 145, 3), (21, .ifCond .eq 26, 3), (24, .iload_n 3, 1), (25, .ifCond .lt 22, 3), (28, .iload_n 3, 1), (29, .iconst 2, 1), (30, .if_icmp .gt 17, 3)]
set_option maxRecDepth 100000 in
theorem xi_ok245_0 : xi_ok cX11_shortest xi_245_0 = true := by decide +kernel
def xi_245_1 : XIs := [(33, .aload 5, 2), (35, .iload 4, 2), (37, .invokevirtual 145, 3), (40, .ifCond .eq 7, 3), (43, .iconst 1, 1), (44, .goto 4, 3), (47, .iconst 0, 1), (48, .invokestatic 94, 3), (51, .iload_n 3, 1), (52, .ifCond .ne 15, 3), (55, .aload_n 0, 1), (56, .getfield 37, 3), (59, .aload 5, 2), (61, .iload_n 1, 1), (62, .iload_n 2, 1), (63, .invokevirtual 321, 3)]
set_option maxRecDepth 100000 in
theorem xi_ok245_1 : xi_ok cX11_shortest xi_245_1 = true := by decide +kernel
def xi_245_2 : XIs := [(66, .ireturn, 1), (67, .iload_n 3, 1), (68, .iconst 1, 1), (69, .if_icmp .ne 18, 3), (72, .aload_n 0, 1), (73, .getfield 37, 3), (76, .aload 5, 2), (78, .iload_n 1, 1), (79, .iload_n 2, 1), (80, .iload_n 1, 1), (81, .invokevirtual 324, 3), (84, .goto 16, 3), (87, .aload_n 0, 1), (88, .getfield 37, 3), (91, .aload 5, 2), (93, .iload_n 1, 1)]
set_option maxRecDepth 100000 in
theorem xi_ok245_2 : xi_ok cX11_shortest xi_245_2 = true := by decide +kernel
def xi_245_3 : XIs := [(94, .iload_n 2, 1), (95, .iload 4, 2), (97, .invokevirtual 324, 3), (100, .ireturn, 1)]
set_option maxRecDepth 100000 in
theorem xi_ok245_3 : xi_ok cX11_shortest xi_245_3 = true := by decide +kernel
def xi_245 (pc : Nat) : XIs := cond (Nat.blt pc 66) (cond (Nat.blt pc 33) (xi_245_0) (xi_245_1)) (cond (Nat.blt pc 94) (xi_245_2) (xi_245_3))
theorem xi_ok245 (pc : Nat) : xi_ok cX11_shortest (xi_245 pc) = true := xi_c (xi_c (xi_ok245_0) (xi_ok245_1)) (xi_c (xi_ok245_2) (xi_ok245_3))
def xi_246_0 : XIs := [(0, .aload_n 0, 1), (1, .invokevirtual 160, 3), (4, .astore_n 2, 1), (5, .aload_n 2, 1), (6, .iload_n 1, 1), (7, .invokevirtual 145, 3), (10, .invokestatic 94, 3), (13, .aload_n 0, 1), (14, .getfield 72, 3), (17, .aload_n 2, 1), (18, .iload_n 1, 1), (19, .invokevirtual 327, 3), (22, .ireturn, 1)]
set_option maxRecDepth 100000 in
theorem xi_ok246_0 : xi_ok cX11_group xi_246_0 = true := by decide +kernel
def xi_246 (pc : Nat) : XIs := xi_246_0
theorem xi_ok246 (pc : Nat) : xi_ok cX11_group (xi_246 pc) = true := xi_ok246_0
def xi_247_0 : XIs := [(0, .aload_n 0, 1), (1, .getfield 72, 3), (4, .aload_n 0, 1), (5, .invokevirtual 160, 3), (8, .invokevirtual 330, 3), (11, .lreturn, 1)]
set_option maxRecDepth 100000 in
theorem xi_ok247_0 : xi_ok cX11_gain xi_247_0 = true := by decide +kernel
def xi_247 (pc : Nat) : XIs := xi_247_0
theorem xi_ok247 (pc : Nat) : xi_ok cX11_gain (xi_247 pc) = true := xi_ok247_0
def xi_248_0 : XIs := [(0, .iload_n 1, 1), (1, .ifCond .lt 12, 3), (4, .iload_n 1, 1), (5, .iconst 1, 1), (6, .if_icmp .gt 7, 3), (9, .iconst 1, 1), (10, .goto 4, 3), (13, .iconst 0, 1), (14, .invokestatic 94, 3), (17, .iload_n 1, 1), (18, .ifCond .ne 17, 3), (21, .aload_n 0, 1), (22, .getfield 44, 3), (25, .aload_n 0, 1), (26, .invokevirtual 160, 3), (29, .invokevirtual 334, 3)]
set_option maxRecDepth 100000 in
theorem xi_ok248_0 : xi_ok cX11_figures xi_248_0 = true := by decide +kernel
def xi_248_1 : XIs := [(32, .goto 14, 3), (35, .aload_n 0, 1), (36, .getfield 44, 3), (39, .aload_n 0, 1), (40, .invokevirtual 160, 3), (43, .invokevirtual 337, 3), (46, .lreturn, 1)]
set_option maxRecDepth 100000 in
theorem xi_ok248_1 : xi_ok cX11_figures xi_248_1 = true := by decide +kernel
def xi_248 (pc : Nat) : XIs := cond (Nat.blt pc 32) (xi_248_0) (xi_248_1)
theorem xi_ok248 (pc : Nat) : xi_ok cX11_figures (xi_248 pc) = true := xi_c (xi_ok248_0) (xi_ok248_1)
def xi_249_0 : XIs := [(0, .aload_n 0, 1), (1, .getfield 79, 3), (4, .aload_n 0, 1), (5, .getfield 30, 3), (8, .invokevirtual 340, 3), (11, .ifCond .eq 7, 3), (14, .iconst 0, 1), (15, .goto 5, 3), (18, .bipush (-4), 2), (20, .ireturn, 1)]
set_option maxRecDepth 100000 in
theorem xi_ok249_0 : xi_ok cX11_pattern xi_249_0 = true := by decide +kernel
def xi_249 (pc : Nat) : XIs := xi_249_0
theorem xi_ok249 (pc : Nat) : xi_ok cX11_pattern (xi_249 pc) = true := xi_ok249_0
def xi_250_0 : XIs := [(0, .aload_n 0, 1), (1, .invokevirtual 160, 3), (4, .astore_n 3, 1), (5, .aload_n 3, 1), (6, .iload_n 1, 1), (7, .invokevirtual 145, 3), (10, .ifCond .eq 15, 3), (13, .aload_n 3, 1), (14, .iload_n 2, 1), (15, .invokevirtual 145, 3), (18, .ifCond .eq 7, 3), (21, .iconst 1, 1), (22, .goto 4, 3), (25, .iconst 0, 1), (26, .invokestatic 94, 3), (29, .aload_n 0, 1)]
set_option maxRecDepth 100000 in
theorem xi_ok250_0 : xi_ok cX11_fits xi_250_0 = true := by decide +kernel
def xi_250_1 : XIs := [(30, .getfield 79, 3), (33, .aload_n 3, 1), (34, .iload_n 1, 1), (35, .iload_n 2, 1), (36, .invokevirtual 344, 3), (39, .ireturn, 1)]
set_option maxRecDepth 100000 in
theorem xi_ok250_1 : xi_ok cX11_fits xi_250_1 = true := by decide +kernel
def xi_250 (pc : Nat) : XIs := cond (Nat.blt pc 30) (xi_250_0) (xi_250_1)
theorem xi_ok250 (pc : Nat) : xi_ok cX11_fits (xi_250 pc) = true := xi_c (xi_ok250_0) (xi_ok250_1)
def xi_251_0 : XIs := [(0, .aload_n 0, 1), (1, .getfield 86, 3), (4, .aload_n 0, 1), (5, .getfield 30, 3), (8, .invokevirtual 347, 3), (11, .ifCond .eq 7, 3), (14, .iconst 0, 1), (15, .goto 5, 3), (18, .bipush (-4), 2), (20, .ireturn, 1)]
set_option maxRecDepth 100000 in
theorem xi_ok251_0 : xi_ok cX11_program xi_251_0 = true := by decide +kernel
def xi_251 (pc : Nat) : XIs := xi_251_0
theorem xi_ok251 (pc : Nat) : xi_ok cX11_program (xi_251 pc) = true := xi_ok251_0
def xi_252_0 : XIs := [(0, .iload_n 1, 1), (1, .ifCond .lt 34, 3), (4, .iload_n 1, 1), (5, .sipush 200, 3), (8, .if_icmp .gt 27, 3), (11, .iload_n 2, 1), (12, .iconst 1, 1), (13, .if_icmp .lt 22, 3), (16, .iload_n 2, 1), (17, .iconst 4, 1), (18, .if_icmp .gt 17, 3), (21, .iload_n 3, 1), (22, .ifCond .lt 13, 3), (25, .iload_n 3, 1), (26, .bipush 90, 2), (28, .if_icmp .gt 7, 3)]
set_option maxRecDepth 100000 in
theorem xi_ok252_0 : xi_ok cX11_run xi_252_0 = true := by decide +kernel
def xi_252_1 : XIs := [(31, .iconst 1, 1), (32, .goto 4, 3), (35, .iconst 0, 1), (36, .invokestatic 94, 3), (39, .aload_n 0, 1), (40, .invokevirtual 160, 3), (43, .astore 6, 2), (45, .aload_n 0, 1), (46, .getfield 86, 3), (49, .aload 6, 2), (51, .iload_n 1, 1), (52, .invokevirtual 348, 3), (55, .istore 7, 2), (57, .aload_n 0, 1), (58, .getfield 86, 3), (61, .aload 6, 2)]
set_option maxRecDepth 100000 in
theorem xi_ok252_1 : xi_ok cX11_run xi_252_1 = true := by decide +kernel
def xi_252_2 : XIs := [(63, .iload 7, 2), (65, .iload_n 2, 1), (66, .iload_n 3, 1), (67, .lload 4, 2), (69, .invokevirtual 351, 3), (72, .iload 7, 2), (74, .ireturn, 1)]
set_option maxRecDepth 100000 in
theorem xi_ok252_2 : xi_ok cX11_run xi_252_2 = true := by decide +kernel
def xi_252 (pc : Nat) : XIs := cond (Nat.blt pc 31) (xi_252_0) (cond (Nat.blt pc 63) (xi_252_1) (xi_252_2))
theorem xi_ok252 (pc : Nat) : xi_ok cX11_run (xi_252 pc) = true := xi_c (xi_ok252_0) (xi_c (xi_ok252_1) (xi_ok252_2))
def xi_253_0 : XIs := [(0, .iload_n 1, 1), (1, .ifCond .lt 18, 3), (4, .iload_n 1, 1), (5, .aload_n 0, 1), (6, .getfield 86, 3), (9, .getfield 355, 3), (12, .if_icmp .ge 7, 3), (15, .iconst 1, 1), (16, .goto 4, 3), (19, .iconst 0, 1), (20, .invokestatic 94, 3), (23, .aload_n 0, 1), (24, .getfield 86, 3), (27, .getfield 356, 3), (30, .iload_n 1, 1), (31, .laload, 1)]
set_option maxRecDepth 100000 in
theorem xi_ok253_0 : xi_ok cX11_state xi_253_0 = true := by decide +kernel
def xi_253_1 : XIs := [(32, .lreturn, 1)]
set_option maxRecDepth 100000 in
theorem xi_ok253_1 : xi_ok cX11_state xi_253_1 = true := by decide +kernel
def xi_253 (pc : Nat) : XIs := cond (Nat.blt pc 32) (xi_253_0) (xi_253_1)
theorem xi_ok253 (pc : Nat) : xi_ok cX11_state (xi_253 pc) = true := xi_c (xi_ok253_0) (xi_ok253_1)
def xi_254_0 : XIs := [(0, .iload_n 1, 1), (1, .ifCond .lt 12, 3), (4, .iload_n 1, 1), (5, .iconst 2, 1), (6, .if_icmp .gt 7, 3), (9, .iconst 1, 1), (10, .goto 4, 3), (13, .iconst 0, 1), (14, .invokestatic 94, 3), (17, .iload_n 1, 1), (18, .ifCond .ne 11, 3), (21, .aload_n 0, 1), (22, .getfield 86, 3), (25, .getfield 360, 3), (28, .ireturn, 1), (29, .iload_n 1, 1)]
set_option maxRecDepth 100000 in
theorem xi_ok254_0 : xi_ok cX11_letters xi_254_0 = true := by decide +kernel
def xi_254_1 : XIs := [(30, .iconst 1, 1), (31, .if_icmp .ne 13, 3), (34, .aload_n 0, 1), (35, .getfield 86, 3), (38, .getfield 363, 3), (41, .goto 10, 3), (44, .aload_n 0, 1), (45, .getfield 86, 3), (48, .getfield 366, 3), (51, .ireturn, 1)]
set_option maxRecDepth 100000 in
theorem xi_ok254_1 : xi_ok cX11_letters xi_254_1 = true := by decide +kernel
def xi_254 (pc : Nat) : XIs := cond (Nat.blt pc 30) (xi_254_0) (xi_254_1)
theorem xi_ok254 (pc : Nat) : xi_ok cX11_letters (xi_254 pc) = true := xi_c (xi_ok254_0) (xi_ok254_1)
def xi_255_0 : XIs := [(0, .aload_n 0, 1), (1, .getfield 23, 3), (4, .iconst (-1), 1), (5, .if_icmp .ne 13, 3), (8, .aload_n 0, 1), (9, .getfield 10, 3), (12, .getfield 98, 3), (15, .goto 7, 3), (18, .aload_n 0, 1), (19, .getfield 19, 3), (22, .areturn, 1)]
set_option maxRecDepth 100000 in
theorem xi_ok255_0 : xi_ok cX11_graph xi_255_0 = true := by decide +kernel
def xi_255 (pc : Nat) : XIs := xi_255_0
theorem xi_ok255 (pc : Nat) : xi_ok cX11_graph (xi_255 pc) = true := xi_ok255_0
def xi_256_0 : XIs := [(0, .iload_n 0, 1), (1, .ifCond .lt 13, 3), (4, .iload_n 0, 1), (5, .bipush 26, 2), (7, .if_icmp .ge 7, 3), (10, .iconst 1, 1), (11, .goto 4, 3), (14, .iconst 0, 1), (15, .ireturn, 1)]
set_option maxRecDepth 100000 in
theorem xi_ok256_0 : xi_ok cX11_isLetter xi_256_0 = true := by decide +kernel
def xi_256 (pc : Nat) : XIs := xi_256_0
theorem xi_ok256 (pc : Nat) : xi_ok cX11_isLetter (xi_256 pc) = true := xi_ok256_0
def xi_257_0 : XIs := [(0, .iload_n 0, 1), (1, .ldc_w 375, 3), (4, .if_icmp .lt 14, 3), (7, .iload_n 0, 1), (8, .ldc_w 376, 3), (11, .if_icmp .gt 7, 3), (14, .iconst 1, 1), (15, .goto 4, 3), (18, .iconst 0, 1), (19, .ireturn, 1)]
set_option maxRecDepth 100000 in
theorem xi_ok257_0 : xi_ok cX11_isWeight xi_257_0 = true := by decide +kernel
def xi_257 (pc : Nat) : XIs := xi_257_0
theorem xi_ok257 (pc : Nat) : xi_ok cX11_isWeight (xi_257 pc) = true := xi_ok257_0
def xi_258_0 : XIs := [(0, .iload_n 0, 1), (1, .ifCond .lt 14, 3), (4, .iload_n 0, 1), (5, .ldc_w 376, 3), (8, .if_icmp .gt 7, 3), (11, .iconst 1, 1), (12, .goto 4, 3), (15, .iconst 0, 1), (16, .ireturn, 1)]
set_option maxRecDepth 100000 in
theorem xi_ok258_0 : xi_ok cX11_isRoom xi_258_0 = true := by decide +kernel
def xi_258 (pc : Nat) : XIs := xi_258_0
theorem xi_ok258 (pc : Nat) : xi_ok cX11_isRoom (xi_258 pc) = true := xi_ok258_0
def xi_259_0 : XIs := [(0, .iload_n 0, 1), (1, .ifCond .ne 8, 3), (4, .iload_n 1, 1), (5, .invokestatic 377, 3), (8, .ireturn, 1), (9, .iload_n 0, 1), (10, .iconst 1, 1), (11, .if_icmp .ne 8, 3), (14, .iload_n 1, 1), (15, .invokestatic 380, 3), (18, .ireturn, 1), (19, .iload_n 0, 1), (20, .iconst 2, 1), (21, .if_icmp .ne 14, 3), (24, .iload_n 1, 1), (25, .invokestatic 90, 3)]
set_option maxRecDepth 100000 in
theorem xi_ok259_0 : xi_ok cX11_isGoodValue xi_259_0 = true := by decide +kernel
def xi_259_1 : XIs := [(28, .ifCond .eq 7, 3), (31, .iconst 1, 1), (32, .goto 4, 3), (35, .iconst 0, 1), (36, .ireturn, 1)]
set_option maxRecDepth 100000 in
theorem xi_ok259_1 : xi_ok cX11_isGoodValue xi_259_1 = true := by decide +kernel
def xi_259 (pc : Nat) : XIs := cond (Nat.blt pc 28) (xi_259_0) (xi_259_1)
theorem xi_ok259 (pc : Nat) : xi_ok cX11_isGoodValue (xi_259 pc) = true := xi_c (xi_ok259_0) (xi_ok259_1)
def xi_260_0 : XIs := [(0, .iload_n 0, 1), (1, .iload_n 0, 1), (2, .ineg, 1), (3, .iand, 1), (4, .iconst 1, 1), (5, .isub, 1), (6, .invokestatic 275, 3), (9, .ireturn, 1)]
set_option maxRecDepth 100000 in
theorem xi_ok260_0 : xi_ok cX11_lowest xi_260_0 = true := by decide +kernel
def xi_260 (pc : Nat) : XIs := xi_260_0
theorem xi_ok260 (pc : Nat) : xi_ok cX11_lowest (xi_260 pc) = true := xi_ok260_0
def xi_261_0 : XIs := [(0, .lload_n 0, 1), (1, .lload_n 0, 1), (2, .lneg, 1), (3, .land, 1), (4, .lconst 1, 1), (5, .lsub, 1), (6, .invokestatic 383, 3), (9, .ireturn, 1)]
set_option maxRecDepth 100000 in
theorem xi_ok261_0 : xi_ok cX11_lowestOfLong xi_261_0 = true := by decide +kernel
def xi_261 (pc : Nat) : XIs := xi_261_0
theorem xi_ok261 (pc : Nat) : xi_ok cX11_lowestOfLong (xi_261 pc) = true := xi_ok261_0
def xi_262_0 : XIs := [(0, .iload_n 1, 1), (1, .istore_n 3, 1), (2, .iload_n 1, 1), (3, .istore 4, 2), (5, .iconst 0, 1), (6, .istore 5, 2), (8, .iload 5, 2), (10, .bipush 32, 2), (12, .if_icmp .ge 50, 3), (15, .iload 4, 2), (17, .ifCond .eq 45, 3), (20, .aload_n 0, 1), (21, .iload 4, 2), (23, .invokestatic 280, 3), (26, .iaload, 1), (27, .iload_n 2, 1)]
set_option maxRecDepth 100000 in
theorem xi_ok262_0 : xi_ok cX11_flood xi_262_0 = true := by decide +kernel
def xi_262_1 : XIs := [(28, .iand, 1), (29, .iload_n 3, 1), (30, .iconst (-1), 1), (31, .ixor, 1), (32, .iand, 1), (33, .istore 6, 2), (35, .iload 4, 2), (37, .iload 4, 2), (39, .iconst 1, 1), (40, .isub, 1), (41, .iand, 1), (42, .istore 4, 2), (44, .iload 4, 2), (46, .iload 6, 2), (48, .ior, 1), (49, .istore 4, 2)]
set_option maxRecDepth 100000 in
theorem xi_ok262_1 : xi_ok cX11_flood xi_262_1 = true := by decide +kernel
def xi_262_2 : XIs := [(51, .iload_n 3, 1), (52, .iload 6, 2), (54, .ior, 1), (55, .istore_n 3, 1), (56, .iinc 5 1, 3), (59, .goto (-51), 3), (62, .iload_n 3, 1), (63, .ireturn, 1)]
set_option maxRecDepth 100000 in
theorem xi_ok262_2 : xi_ok cX11_flood xi_262_2 = true := by decide +kernel
def xi_262 (pc : Nat) : XIs := cond (Nat.blt pc 28) (xi_262_0) (cond (Nat.blt pc 51) (xi_262_1) (xi_262_2))
theorem xi_ok262 (pc : Nat) : xi_ok cX11_flood (xi_262 pc) = true := xi_c (xi_ok262_0) (xi_c (xi_ok262_1) (xi_ok262_2))
def xi_263_0 : XIs := [(0, .aload_n 0, 1), (1, .invokespecial 1, 3), (4, .aload_n 0, 1), (5, .iconst 3, 1), (6, .newarray .int, 2), (8, .putfield 7, 3), (11, .aload_n 0, 1), (12, .bipush 96, 2), (14, .newarray .int, 2), (16, .putfield 13, 3), (19, .aload_n 0, 1), (20, .sipush 480, 3), (23, .newarray .boolean, 2), (25, .putfield 16, 3), (28, .aload_n 0, 1), (29, .sipush 480, 3)]
set_option maxRecDepth 100000 in
theorem xi_ok263_0 : xi_ok cX12_init xi_263_0 = true := by decide +kernel
def xi_263_1 : XIs := [(32, .newarray .int, 2), (34, .putfield 20, 3), (37, .aload_n 0, 1), (38, .sipush 480, 3), (41, .newarray .int, 2), (43, .putfield 23, 3), (46, .aload_n 0, 1), (47, .sipush 480, 3), (50, .newarray .int, 2), (52, .putfield 26, 3), (55, .aload_n 0, 1), (56, .sipush 480, 3), (59, .newarray .int, 2), (61, .putfield 29, 3), (64, .aload_n 0, 1), (65, .sipush 480, 3)]
set_option maxRecDepth 100000 in
theorem xi_ok263_1 : xi_ok cX12_init xi_263_1 = true := by decide +kernel
def xi_263_2 : XIs := [(68, .newarray .int, 2), (70, .putfield 32, 3), (73, .aload_n 0, 1), (74, .sipush 4000, 3), (77, .newarray .int, 2), (79, .putfield 35, 3), (82, .aload_n 0, 1), (83, .sipush 4000, 3), (86, .newarray .int, 2), (88, .putfield 38, 3), (91, .aload_n 0, 1), (92, .sipush 4000, 3), (95, .newarray .int, 2), (97, .putfield 41, 3), (100, .aload_n 0, 1), (101, .sipush 4000, 3)]
set_option maxRecDepth 100000 in
theorem xi_ok263_2 : xi_ok cX12_init xi_263_2 = true := by decide +kernel
def xi_263_3 : XIs := [(104, .newarray .int, 2), (106, .putfield 44, 3), (109, .aload_n 0, 1), (110, .sipush 4000, 3), (113, .newarray .int, 2), (115, .putfield 47, 3), (118, .aload_n 0, 1), (119, .sipush 4000, 3), (122, .newarray .int, 2), (124, .putfield 50, 3), (127, .aload_n 0, 1), (128, .sipush 4000, 3), (131, .newarray .int, 2), (133, .putfield 53, 3), (136, .aload_n 0, 1), (137, .iconst (-1), 1)]
set_option maxRecDepth 100000 in
theorem xi_ok263_3 : xi_ok cX12_init xi_263_3 = true := by decide +kernel
def xi_263_4 : XIs := [(138, .putfield 56, 3), (141, .aload_n 0, 1), (142, .sipush 1000, 3), (145, .newarray .int, 2), (147, .putfield 60, 3), (150, .aload_n 0, 1), (151, .sipush 8000, 3), (154, .newarray .int, 2), (156, .putfield 63, 3), (159, .aload_n 0, 1), (160, .sipush 500, 3), (163, .newarray .int, 2), (165, .putfield 66, 3), (168, .aload_n 0, 1), (169, .sipush 2500, 3), (172, .newarray .int, 2)]
set_option maxRecDepth 100000 in
theorem xi_ok263_4 : xi_ok cX12_init xi_263_4 = true := by decide +kernel
def xi_263_5 : XIs := [(174, .putfield 69, 3), (177, .aload_n 0, 1), (178, .bipush 32, 2), (180, .newarray .int, 2), (182, .putfield 72, 3), (185, .aload_n 0, 1), (186, .bipush 32, 2), (188, .newarray .long, 2), (190, .putfield 75, 3), (193, .aload_n 0, 1), (194, .bipush 32, 2), (196, .newarray .int, 2), (198, .putfield 79, 3), (201, .aload_n 0, 1), (202, .sipush 4000, 3), (205, .newarray .int, 2)]
set_option maxRecDepth 100000 in
theorem xi_ok263_5 : xi_ok cX12_init xi_263_5 = true := by decide +kernel
def xi_263_6 : XIs := [(207, .putfield 82, 3), (210, .aload_n 0, 1), (211, .bipush 32, 2), (213, .newarray .int, 2), (215, .putfield 85, 3), (218, .aload_n 0, 1), (219, .sipush 10005, 3), (222, .newarray .int, 2), (224, .putfield 88, 3), (227, .aload_n 0, 1), (228, .sipush 2001, 3), (231, .newarray .long, 2), (233, .putfield 91, 3), (236, .aload_n 0, 1), (237, .sipush 2001, 3), (240, .newarray .int, 2)]
set_option maxRecDepth 100000 in
theorem xi_ok263_6 : xi_ok cX12_init xi_263_6 = true := by decide +kernel
def xi_263_7 : XIs := [(242, .putfield 94, 3), (245, .aload_n 0, 1), (246, .sipush 2001, 3), (249, .newarray .int, 2), (251, .putfield 97, 3), (254, .aload_n 0, 1), (255, .bipush 32, 2), (257, .newarray .int, 2), (259, .putfield 100, 3), (262, .aload_n 0, 1), (263, .bipush 33, 2), (265, .newarray .int, 2), (267, .putfield 103, 3), (270, .aload_n 0, 1), (271, .bipush 33, 2), (273, .newarray .int, 2)]
set_option maxRecDepth 100000 in
theorem xi_ok263_7 : xi_ok cX12_init xi_263_7 = true := by decide +kernel
def xi_263_8 : XIs := [(275, .putfield 106, 3), (278, .aload_n 0, 1), (279, .bipush 32, 2), (281, .newarray .int, 2), (283, .putfield 109, 3), (286, .aload_n 0, 1), (287, .bipush 32, 2), (289, .newarray .int, 2), (291, .putfield 112, 3), (294, .aload_n 0, 1), (295, .bipush 32, 2), (297, .newarray .int, 2), (299, .putfield 115, 3), (302, .aload_n 0, 1), (303, .bipush 33, 2), (305, .newarray .int, 2)]
set_option maxRecDepth 100000 in
theorem xi_ok263_8 : xi_ok cX12_init xi_263_8 = true := by decide +kernel
def xi_263_9 : XIs := [(307, .putfield 118, 3), (310, .aload_n 0, 1), (311, .bipush 33, 2), (313, .newarray .int, 2), (315, .putfield 121, 3), (318, .aload_n 0, 1), (319, .bipush 33, 2), (321, .newarray .int, 2), (323, .putfield 124, 3), (326, .aload_n 0, 1), (327, .sipush 160, 3), (330, .newarray .long, 2), (332, .putfield 127, 3), (335, .aload_n 0, 1), (336, .bipush 34, 2), (338, .newarray .int, 2)]
set_option maxRecDepth 100000 in
theorem xi_ok263_9 : xi_ok cX12_init xi_263_9 = true := by decide +kernel
def xi_263_10 : XIs := [(340, .putfield 130, 3), (343, .aload_n 0, 1), (344, .bipush 34, 2), (346, .newarray .long, 2), (348, .putfield 133, 3), (351, .aload_n 0, 1), (352, .bipush 32, 2), (354, .newarray .long, 2), (356, .putfield 136, 3), (359, .aload_n 0, 1), (360, .bipush 32, 2), (362, .newarray .int, 2), (364, .putfield 139, 3), (367, .aload_n 0, 1), (368, .sipush 1024, 3), (371, .newarray .long, 2)]
set_option maxRecDepth 100000 in
theorem xi_ok263_10 : xi_ok cX12_init xi_263_10 = true := by decide +kernel
def xi_263_11 : XIs := [(373, .putfield 142, 3), (376, .aload_n 0, 1), (377, .sipush 160, 3), (380, .newarray .int, 2), (382, .putfield 145, 3), (385, .aload_n 0, 1), (386, .sipush 160, 3), (389, .newarray .int, 2), (391, .putfield 148, 3), (394, .aload_n 0, 1), (395, .sipush 160, 3), (398, .newarray .long, 2), (400, .putfield 151, 3), (403, .aload_n 0, 1), (404, .bipush 32, 2), (406, .newarray .long, 2)]
set_option maxRecDepth 100000 in
theorem xi_ok263_11 : xi_ok cX12_init xi_263_11 = true := by decide +kernel
def xi_263_12 : XIs := [(408, .putfield 154, 3), (411, .aload_n 0, 1), (412, .bipush 32, 2), (414, .newarray .int, 2), (416, .putfield 157, 3), (419, .aload_n 0, 1), (420, .bipush 32, 2), (422, .newarray .int, 2), (424, .putfield 160, 3), (427, .aload_n 0, 1), (428, .bipush 32, 2), (430, .newarray .int, 2), (432, .putfield 163, 3), (435, .aload_n 0, 1), (436, .bipush 32, 2), (438, .newarray .int, 2)]
set_option maxRecDepth 100000 in
theorem xi_ok263_12 : xi_ok cX12_init xi_263_12 = true := by decide +kernel
def xi_263_13 : XIs := [(440, .putfield 166, 3), (443, .aload_n 0, 1), (444, .sipush 1024, 3), (447, .newarray .long, 2), (449, .putfield 169, 3), (452, .aload_n 0, 1), (453, .bipush 32, 2), (455, .newarray .long, 2), (457, .putfield 172, 3), (460, .aload_n 0, 1), (461, .bipush 32, 2), (463, .newarray .long, 2), (465, .putfield 175, 3), (468, .aload_n 0, 1), (469, .bipush 32, 2), (471, .newarray .int, 2)]
set_option maxRecDepth 100000 in
theorem xi_ok263_13 : xi_ok cX12_init xi_263_13 = true := by decide +kernel
def xi_263_14 : XIs := [(473, .putfield 178, 3), (476, .aload_n 0, 1), (477, .bipush 32, 2), (479, .newarray .int, 2), (481, .putfield 181, 3), (484, .aload_n 0, 1), (485, .bipush 32, 2), (487, .newarray .long, 2), (489, .putfield 184, 3), (492, .aload_n 0, 1), (493, .bipush 32, 2), (495, .newarray .int, 2), (497, .putfield 187, 3), (500, .aload_n 0, 1), (501, .bipush 32, 2), (503, .newarray .long, 2)]
set_option maxRecDepth 100000 in
theorem xi_ok263_14 : xi_ok cX12_init xi_263_14 = true := by decide +kernel
def xi_263_15 : XIs := [(505, .putfield 190, 3), (508, .aload_n 0, 1), (509, .bipush 32, 2), (511, .newarray .int, 2), (513, .putfield 193, 3), (516, .aload_n 0, 1), (517, .bipush 32, 2), (519, .newarray .int, 2), (521, .putfield 196, 3), (524, .aload_n 0, 1), (525, .sipush 1024, 3), (528, .newarray .int, 2), (530, .putfield 199, 3), (533, .aload_n 0, 1), (534, .bipush 60, 2), (536, .newarray .int, 2)]
set_option maxRecDepth 100000 in
theorem xi_ok263_15 : xi_ok cX12_init xi_263_15 = true := by decide +kernel
def xi_263_16 : XIs := [(538, .putfield 202, 3), (541, .aload_n 0, 1), (542, .bipush 60, 2), (544, .newarray .long, 2), (546, .putfield 205, 3), (549, .aload_n 0, 1), (550, .iconst 1, 1), (551, .putfield 208, 3), (554, .aload_n 0, 1), (555, .bipush 60, 2), (557, .newarray .int, 2), (559, .putfield 212, 3), (562, .aload_n 0, 1), (563, .bipush 60, 2), (565, .newarray .long, 2), (567, .putfield 215, 3)]
set_option maxRecDepth 100000 in
theorem xi_ok263_16 : xi_ok cX12_init xi_263_16 = true := by decide +kernel
def xi_263_17 : XIs := [(570, .aload_n 0, 1), (571, .bipush 12, 2), (573, .newarray .boolean, 2), (575, .putfield 218, 3), (578, .aload_n 0, 1), (579, .bipush 12, 2), (581, .newarray .boolean, 2), (583, .putfield 221, 3), (586, .aload_n 0, 1), (587, .bipush 12, 2), (589, .newarray .long, 2), (591, .putfield 224, 3), (594, .aload_n 0, 1), (595, .bipush 12, 2), (597, .newarray .long, 2)]
set_option maxRecDepth 100000 in
theorem xi_ok263_17 : xi_ok cX12_init xi_263_17 = true := by decide +kernel
def xi_263_18 : XIs := [(599, .putfield 227, 3), (602, .aload_n 0, 1), (603, .bipush 12, 2), (605, .newarray .boolean, 2), (607, .putfield 230, 3), (610, .aload_n 0, 1), (611, .bipush 12, 2), (613, .newarray .long, 2), (615, .putfield 233, 3), (618, .aload_n 0, 1), (619, .bipush 12, 2), (621, .newarray .long, 2), (623, .putfield 236, 3), (626, .aload_n 0, 1), (627, .sipush 2000, 3)]
set_option maxRecDepth 100000 in
theorem xi_ok263_18 : xi_ok cX12_init xi_263_18 = true := by decide +kernel
def xi_263_19 : XIs := [(630, .newarray .int, 2), (632, .putfield 239, 3), (635, .aload_n 0, 1), (636, .sipush 400, 3), (639, .newarray .int, 2), (641, .putfield 242, 3), (644, .aload_n 0, 1), (645, .sipush 400, 3), (648, .newarray .int, 2), (650, .putfield 245, 3), (653, .aload_n 0, 1), (654, .iconst 3, 1), (655, .newarray .int, 2), (657, .putfield 248, 3)]
set_option maxRecDepth 100000 in
theorem xi_ok263_19 : xi_ok cX12_init xi_263_19 = true := by decide +kernel
def xi_263_20 : XIs := [(660, .aload_n 0, 1), (661, .sipush 400, 3), (664, .newarray .int, 2), (666, .putfield 251, 3), (669, .aload_n 0, 1), (670, .sipush 400, 3), (673, .newarray .int, 2), (675, .putfield 254, 3), (678, .aload_n 0, 1), (679, .iconst 3, 1), (680, .newarray .int, 2), (682, .putfield 257, 3), (685, .aload_n 0, 1)]
set_option maxRecDepth 100000 in
theorem xi_ok263_20 : xi_ok cX12_init xi_263_20 = true := by decide +kernel
def xi_263_21 : XIs := [(686, .sipush 200, 3), (689, .newarray .int, 2), (691, .putfield 260, 3), (694, .aload_n 0, 1), (695, .bipush 32, 2), (697, .newarray .long, 2), (699, .putfield 263, 3), (702, .aload_n 0, 1), (703, .bipush 32, 2), (705, .newarray .long, 2), (707, .putfield 266, 3), (710, .aload_n 0, 1), (711, .sipush 200, 3)]
set_option maxRecDepth 100000 in
theorem xi_ok263_21 : xi_ok cX12_init xi_263_21 = true := by decide +kernel
def xi_263_22 : XIs := [(714, .newarray .long, 2), (716, .putfield 269, 3), (719, .aload_n 0, 1), (720, .bipush 9, 2), (722, .newarray .long, 2), (724, .putfield 272, 3), (727, .aload_n 0, 1), (728, .invokevirtual 275, 3), (731, .return_, 1)]
set_option maxRecDepth 100000 in
theorem xi_ok263_22 : xi_ok cX12_init xi_263_22 = true := by decide +kernel
def xi_263 (pc : Nat) : XIs := cond (Nat.blt pc 373) (cond (Nat.blt pc 174) (cond (Nat.blt pc 68) (cond (Nat.blt pc 32) (xi_263_0) (xi_263_1)) (cond (Nat.blt pc 104) (xi_263_2) (cond (Nat.blt pc 138) (xi_263_3) (xi_263_4)))) (cond (Nat.blt pc 275) (cond (Nat.blt pc 207) (xi_263_5) (cond (Nat.blt pc 242) (xi_263_6) (xi_263_7))) (cond (Nat.blt pc 307) (xi_263_8) (cond (Nat.blt pc 340) (xi_263_9) (xi_263_10))))) (cond (Nat.blt pc 570) (cond (Nat.blt pc 473) (cond (Nat.blt pc 408) (xi_263_11) (cond (Nat.blt pc 440) (xi_263_12) (xi_263_13))) (cond (Nat.blt pc 505) (xi_263_14) (cond (Nat.blt pc 538) (xi_263_15) (xi_263_16)))) (cond (Nat.blt pc 660) (cond (Nat.blt pc 599) (xi_263_17) (cond (Nat.blt pc 630) (xi_263_18) (xi_263_19))) (cond (Nat.blt pc 686) (xi_263_20) (cond (Nat.blt pc 714) (xi_263_21) (xi_263_22)))))
theorem xi_ok263 (pc : Nat) : xi_ok cX12_init (xi_263 pc) = true := xi_c (xi_c (xi_c (xi_c (xi_ok263_0) (xi_ok263_1)) (xi_c (xi_ok263_2) (xi_c (xi_ok263_3) (xi_ok263_4)))) (xi_c (xi_c (xi_ok263_5) (xi_c (xi_ok263_6) (xi_ok263_7))) (xi_c (xi_ok263_8) (xi_c (xi_ok263_9) (xi_ok263_10))))) (xi_c (xi_c (xi_c (xi_ok263_11) (xi_c (xi_ok263_12) (xi_ok263_13))) (xi_c (xi_ok263_14) (xi_c (xi_ok263_15) (xi_ok263_16)))) (xi_c (xi_c (xi_ok263_17) (xi_c (xi_ok263_18) (xi_ok263_19))) (xi_c (xi_ok263_20) (xi_c (xi_ok263_21) (xi_ok263_22)))))
def xi_264_0 : XIs := [(0, .aload_n 0, 1), (1, .getfield 278, 3), (4, .ireturn, 1)]
set_option maxRecDepth 100000 in
theorem xi_ok264_0 : xi_ok cX12_thrown xi_264_0 = true := by decide +kernel
def xi_264 (pc : Nat) : XIs := xi_264_0
theorem xi_ok264 (pc : Nat) : xi_ok cX12_thrown (xi_264 pc) = true := xi_ok264_0
def xi_265_0 : XIs := [(0, .lload_n 0, 1), (1, .lload_n 2, 1), (2, .lcmp, 1), (3, .ifCond .lt 14, 3), (6, .lload_n 0, 1), (7, .lload 4, 2), (9, .lcmp, 1), (10, .ifCond .gt 7, 3), (13, .iconst 1, 1), (14, .goto 4, 3), (17, .iconst 0, 1), (18, .ireturn, 1)]
set_option maxRecDepth 100000 in
theorem xi_ok265_0 : xi_ok cX12_in xi_265_0 = true := by decide +kernel
def xi_265 (pc : Nat) : XIs := xi_265_0
theorem xi_ok265 (pc : Nat) : xi_ok cX12_in (xi_265 pc) = true := xi_ok265_0
def xi_266_0 : XIs := [(0, .aload_n 0, 1), (1, .iload_n 1, 1), (2, .ifCond .ne 7, 3), (5, .iconst 1, 1), (6, .goto 12, 3), (9, .iload_n 2, 1), (10, .ifCond .ne 7, 3), (13, .iconst 2, 1), (14, .goto 4, 3), (17, .iconst 0, 1), (18, .putfield 278, 3), (21, .aload_n 0, 1), (22, .getfield 278, 3), (25, .ifCond .le 7, 3), (28, .iconst 1, 1), (29, .goto 4, 3)]
set_option maxRecDepth 100000 in
theorem xi_ok266_0 : xi_ok cX12_fails xi_266_0 = true := by decide +kernel
def xi_266_1 : XIs := [(32, .iconst 0, 1), (33, .ireturn, 1)]
set_option maxRecDepth 100000 in
theorem xi_ok266_1 : xi_ok cX12_fails xi_266_1 = true := by decide +kernel
def xi_266 (pc : Nat) : XIs := cond (Nat.blt pc 32) (xi_266_0) (xi_266_1)
theorem xi_ok266 (pc : Nat) : xi_ok cX12_fails (xi_266 pc) = true := xi_c (xi_ok266_0) (xi_ok266_1)
def xi_267_0 : XIs := [(0, .aload_n 0, 1), (1, .iload_n 1, 1), (2, .iconst 1, 1), (3, .invokevirtual 281, 3), (6, .ireturn, 1)]
set_option maxRecDepth 100000 in
theorem xi_ok267_0 : xi_ok cX12_wrongArgument xi_267_0 = true := by decide +kernel
def xi_267 (pc : Nat) : XIs := xi_267_0
theorem xi_ok267 (pc : Nat) : xi_ok cX12_wrongArgument (xi_267 pc) = true := xi_ok267_0
def xi_268_0 : XIs := [(0, .iload_n 1, 1), (1, .ifCond .lt 15, 3), (4, .iload_n 1, 1), (5, .aload_n 0, 1), (6, .getfield 285, 3), (9, .if_icmp .ge 7, 3), (12, .iconst 1, 1), (13, .goto 4, 3), (16, .iconst 0, 1), (17, .ireturn, 1)]
set_option maxRecDepth 100000 in
theorem xi_ok268_0 : xi_ok cX12_isNode xi_268_0 = true := by decide +kernel
def xi_268 (pc : Nat) : XIs := xi_268_0
theorem xi_ok268 (pc : Nat) : xi_ok cX12_isNode (xi_268 pc) = true := xi_ok268_0
def xi_269_0 : XIs := [(0, .iload_n 1, 1), (1, .ifCond .lt 28, 3), (4, .iload_n 1, 1), (5, .sipush 160, 3), (8, .if_icmp .ge 21, 3), (11, .aload_n 0, 1), (12, .getfield 16, 3), (15, .aload_n 0, 1), (16, .getfield 288, 3), (19, .iload_n 1, 1), (20, .iadd, 1), (21, .baload, 1), (22, .ifCond .eq 7, 3), (25, .iconst 1, 1), (26, .goto 4, 3), (29, .iconst 0, 1)]
set_option maxRecDepth 100000 in
theorem xi_ok269_0 : xi_ok cX12_isArc xi_269_0 = true := by decide +kernel
def xi_269_1 : XIs := [(30, .ireturn, 1)]
set_option maxRecDepth 100000 in
theorem xi_ok269_1 : xi_ok cX12_isArc xi_269_1 = true := by decide +kernel
def xi_269 (pc : Nat) : XIs := cond (Nat.blt pc 30) (xi_269_0) (xi_269_1)
theorem xi_ok269 (pc : Nat) : xi_ok cX12_isArc (xi_269 pc) = true := xi_c (xi_ok269_0) (xi_ok269_1)
def xi_270_0 : XIs := [(0, .aload_n 0, 1), (1, .getfield 35, 3), (4, .aload_n 0, 1), (5, .getfield 291, 3), (8, .iload_n 1, 1), (9, .iastore, 1), (10, .aload_n 0, 1), (11, .getfield 38, 3), (14, .aload_n 0, 1), (15, .getfield 291, 3), (18, .iload_n 2, 1), (19, .iastore, 1), (20, .aload_n 0, 1), (21, .getfield 41, 3), (24, .aload_n 0, 1), (25, .getfield 291, 3)]
set_option maxRecDepth 100000 in
theorem xi_ok270_0 : xi_ok cX12_make xi_270_0 = true := by decide +kernel
def xi_270_1 : XIs := [(28, .iload_n 3, 1), (29, .iastore, 1), (30, .aload_n 0, 1), (31, .getfield 44, 3), (34, .aload_n 0, 1), (35, .getfield 291, 3), (38, .iload 4, 2), (40, .iastore, 1), (41, .aload_n 0, 1), (42, .getfield 47, 3), (45, .aload_n 0, 1), (46, .getfield 291, 3), (49, .iload 5, 2), (51, .iastore, 1), (52, .aload_n 0, 1), (53, .getfield 50, 3)]
set_option maxRecDepth 100000 in
theorem xi_ok270_1 : xi_ok cX12_make xi_270_1 = true := by decide +kernel
def xi_270_2 : XIs := [(56, .aload_n 0, 1), (57, .getfield 291, 3), (60, .iload 6, 2), (62, .iastore, 1), (63, .aload_n 0, 1), (64, .getfield 53, 3), (67, .aload_n 0, 1), (68, .getfield 291, 3), (71, .iload 7, 2), (73, .iastore, 1), (74, .aload_n 0, 1), (75, .aload_n 0, 1), (76, .getfield 291, 3), (79, .iconst 0, 1), (80, .invokevirtual 294, 3), (83, .aload_n 0, 1)]
set_option maxRecDepth 100000 in
theorem xi_ok270_2 : xi_ok cX12_make xi_270_2 = true := by decide +kernel
def xi_270_3 : XIs := [(84, .dup, 1), (85, .getfield 291, 3), (88, .iconst 1, 1), (89, .iadd, 1), (90, .putfield 291, 3), (93, .aload_n 0, 1), (94, .invokevirtual 298, 3), (97, .return_, 1)]
set_option maxRecDepth 100000 in
theorem xi_ok270_3 : xi_ok cX12_make xi_270_3 = true := by decide +kernel
def xi_270 (pc : Nat) : XIs := cond (Nat.blt pc 56) (cond (Nat.blt pc 28) (xi_270_0) (xi_270_1)) (cond (Nat.blt pc 84) (xi_270_2) (xi_270_3))
theorem xi_ok270 (pc : Nat) : xi_ok cX12_make (xi_270 pc) = true := xi_c (xi_c (xi_ok270_0) (xi_ok270_1)) (xi_c (xi_ok270_2) (xi_ok270_3))
def xi_271_0 : XIs := [(0, .sipush 160, 3), (3, .iload_n 2, 1), (4, .imul, 1), (5, .aload_n 0, 1), (6, .getfield 38, 3), (9, .iload_n 1, 1), (10, .iaload, 1), (11, .iadd, 1), (12, .istore_n 3, 1), (13, .aload_n 0, 1), (14, .getfield 35, 3), (17, .iload_n 1, 1), (18, .iaload, 1), (19, .tableswitch 208 0 3 #[29, 64, 134, 144], 29), (48, .aload_n 0, 1), (49, .getfield 13, 3)]
set_option maxRecDepth 100000 in
theorem xi_ok271_0 : xi_ok cX12_apply xi_271_0 = true := by decide +kernel
def xi_271_1 : XIs := [(52, .bipush 32, 2), (54, .iload_n 2, 1), (55, .imul, 1), (56, .aload_n 0, 1), (57, .getfield 7, 3), (60, .iload_n 2, 1), (61, .iaload, 1), (62, .iadd, 1), (63, .aload_n 0, 1), (64, .getfield 38, 3), (67, .iload_n 1, 1), (68, .iaload, 1), (69, .iastore, 1), (70, .aload_n 0, 1), (71, .getfield 7, 3), (74, .iload_n 2, 1)]
set_option maxRecDepth 100000 in
theorem xi_ok271_1 : xi_ok cX12_apply xi_271_1 = true := by decide +kernel
def xi_271_2 : XIs := [(75, .dup2, 1), (76, .iaload, 1), (77, .iconst 1, 1), (78, .iadd, 1), (79, .iastore, 1), (80, .goto 169, 3), (83, .aload_n 0, 1), (84, .getfield 16, 3), (87, .iload_n 3, 1), (88, .iconst 1, 1), (89, .bastore, 1), (90, .aload_n 0, 1), (91, .getfield 20, 3), (94, .iload_n 3, 1), (95, .aload_n 0, 1), (96, .getfield 41, 3)]
set_option maxRecDepth 100000 in
theorem xi_ok271_2 : xi_ok cX12_apply xi_271_2 = true := by decide +kernel
def xi_271_3 : XIs := [(99, .iload_n 1, 1), (100, .iaload, 1), (101, .iastore, 1), (102, .aload_n 0, 1), (103, .getfield 23, 3), (106, .iload_n 3, 1), (107, .aload_n 0, 1), (108, .getfield 44, 3), (111, .iload_n 1, 1), (112, .iaload, 1), (113, .iastore, 1), (114, .aload_n 0, 1), (115, .getfield 26, 3), (118, .iload_n 3, 1), (119, .aload_n 0, 1), (120, .getfield 47, 3)]
set_option maxRecDepth 100000 in
theorem xi_ok271_3 : xi_ok cX12_apply xi_271_3 = true := by decide +kernel
def xi_271_4 : XIs := [(123, .iload_n 1, 1), (124, .iaload, 1), (125, .iastore, 1), (126, .aload_n 0, 1), (127, .getfield 29, 3), (130, .iload_n 3, 1), (131, .aload_n 0, 1), (132, .getfield 50, 3), (135, .iload_n 1, 1), (136, .iaload, 1), (137, .iastore, 1), (138, .aload_n 0, 1), (139, .getfield 32, 3), (142, .iload_n 3, 1), (143, .aload_n 0, 1), (144, .getfield 53, 3)]
set_option maxRecDepth 100000 in
theorem xi_ok271_4 : xi_ok cX12_apply xi_271_4 = true := by decide +kernel
def xi_271_5 : XIs := [(147, .iload_n 1, 1), (148, .iaload, 1), (149, .iastore, 1), (150, .goto 99, 3), (153, .aload_n 0, 1), (154, .getfield 16, 3), (157, .iload_n 3, 1), (158, .iconst 0, 1), (159, .bastore, 1), (160, .goto 89, 3), (163, .aload_n 0, 1), (164, .getfield 41, 3), (167, .iload_n 1, 1), (168, .iaload, 1), (169, .ifCond .ne 18, 3), (172, .aload_n 0, 1)]
set_option maxRecDepth 100000 in
theorem xi_ok271_5 : xi_ok cX12_apply xi_271_5 = true := by decide +kernel
def xi_271_6 : XIs := [(173, .getfield 26, 3), (176, .iload_n 3, 1), (177, .aload_n 0, 1), (178, .getfield 44, 3), (181, .iload_n 1, 1), (182, .iaload, 1), (183, .iastore, 1), (184, .goto 65, 3), (187, .aload_n 0, 1), (188, .getfield 41, 3), (191, .iload_n 1, 1), (192, .iaload, 1), (193, .iconst 1, 1), (194, .if_icmp .ne 18, 3), (197, .aload_n 0, 1), (198, .getfield 29, 3)]
set_option maxRecDepth 100000 in
theorem xi_ok271_6 : xi_ok cX12_apply xi_271_6 = true := by decide +kernel
def xi_271_7 : XIs := [(201, .iload_n 3, 1), (202, .aload_n 0, 1), (203, .getfield 44, 3), (206, .iload_n 1, 1), (207, .iaload, 1), (208, .iastore, 1), (209, .goto 40, 3), (212, .aload_n 0, 1), (213, .getfield 32, 3), (216, .iload_n 3, 1), (217, .aload_n 0, 1), (218, .getfield 44, 3), (221, .iload_n 1, 1), (222, .iaload, 1), (223, .iastore, 1), (224, .goto 25, 3)]
set_option maxRecDepth 100000 in
theorem xi_ok271_7 : xi_ok cX12_apply xi_271_7 = true := by decide +kernel
def xi_271_8 : XIs := [(227, .aload_n 0, 1), (228, .getfield 13, 3), (231, .bipush 32, 2), (233, .iload_n 2, 1), (234, .imul, 1), (235, .aload_n 0, 1), (236, .getfield 38, 3), (239, .iload_n 1, 1), (240, .iaload, 1), (241, .iadd, 1), (242, .aload_n 0, 1), (243, .getfield 41, 3), (246, .iload_n 1, 1), (247, .iaload, 1), (248, .iastore, 1), (249, .return_, 1)]
set_option maxRecDepth 100000 in
theorem xi_ok271_8 : xi_ok cX12_apply xi_271_8 = true := by decide +kernel
def xi_271 (pc : Nat) : XIs := cond (Nat.blt pc 123) (cond (Nat.blt pc 75) (cond (Nat.blt pc 52) (xi_271_0) (xi_271_1)) (cond (Nat.blt pc 99) (xi_271_2) (xi_271_3))) (cond (Nat.blt pc 173) (cond (Nat.blt pc 147) (xi_271_4) (xi_271_5)) (cond (Nat.blt pc 201) (xi_271_6) (cond (Nat.blt pc 227) (xi_271_7) (xi_271_8))))
theorem xi_ok271 (pc : Nat) : xi_ok cX12_apply (xi_271 pc) = true := xi_c (xi_c (xi_c (xi_ok271_0) (xi_ok271_1)) (xi_c (xi_ok271_2) (xi_ok271_3))) (xi_c (xi_c (xi_ok271_4) (xi_ok271_5)) (xi_c (xi_ok271_6) (xi_c (xi_ok271_7) (xi_ok271_8))))
def xi_272_0 : XIs := [(0, .aload_n 0, 1), (1, .aload_n 0, 1), (2, .getfield 56, 3), (5, .ifCond .ge 7, 3), (8, .iconst 0, 1), (9, .goto 4, 3), (12, .iconst 1, 1), (13, .putfield 301, 3), (16, .aload_n 0, 1), (17, .sipush 160, 3), (20, .aload_n 0, 1), (21, .getfield 301, 3), (24, .imul, 1), (25, .putfield 288, 3), (28, .aload_n 0, 1), (29, .aload_n 0, 1)]
set_option maxRecDepth 100000 in
theorem xi_ok272_0 : xi_ok cX12_look xi_272_0 = true := by decide +kernel
def xi_272_1 : XIs := [(30, .getfield 7, 3), (33, .aload_n 0, 1), (34, .getfield 301, 3), (37, .iaload, 1), (38, .putfield 285, 3), (41, .return_, 1)]
set_option maxRecDepth 100000 in
theorem xi_ok272_1 : xi_ok cX12_look xi_272_1 = true := by decide +kernel
def xi_272 (pc : Nat) : XIs := cond (Nat.blt pc 30) (xi_272_0) (xi_272_1)
theorem xi_ok272 (pc : Nat) : xi_ok cX12_look (xi_272 pc) = true := xi_c (xi_ok272_0) (xi_ok272_1)
def xi_273_0 : XIs := [(0, .iload_n 1, 1), (1, .ifCond .lt 17, 3), (4, .iload_n 1, 1), (5, .aload_n 0, 1), (6, .getfield 7, 3), (9, .iconst 0, 1), (10, .iaload, 1), (11, .if_icmp .ge 7, 3), (14, .iconst 1, 1), (15, .goto 4, 3), (18, .iconst 0, 1), (19, .ireturn, 1)]
set_option maxRecDepth 100000 in
theorem xi_ok273_0 : xi_ok cX12_isNewNode xi_273_0 = true := by decide +kernel
def xi_273 (pc : Nat) : XIs := xi_273_0
theorem xi_ok273 (pc : Nat) : xi_ok cX12_isNewNode (xi_273 pc) = true := xi_ok273_0
def xi_274_0 : XIs := [(0, .iload_n 1, 1), (1, .ifCond .lt 23, 3), (4, .iload_n 1, 1), (5, .sipush 160, 3), (8, .if_icmp .ge 16, 3), (11, .aload_n 0, 1), (12, .getfield 16, 3), (15, .iload_n 1, 1), (16, .baload, 1), (17, .ifCond .eq 7, 3), (20, .iconst 1, 1), (21, .goto 4, 3), (24, .iconst 0, 1), (25, .ireturn, 1)]
set_option maxRecDepth 100000 in
theorem xi_ok274_0 : xi_ok cX12_isNewArc xi_274_0 = true := by decide +kernel
def xi_274 (pc : Nat) : XIs := xi_274_0
theorem xi_ok274 (pc : Nat) : xi_ok cX12_isNewArc (xi_274 pc) = true := xi_ok274_0
def xi_275_0 : XIs := [(0, .iload_n 0, 1), (1, .i2l, 1), (2, .ldc2_w 304, 3), (5, .ldc2_w 306, 3), (8, .invokestatic 308, 3), (11, .ireturn, 1)]
set_option maxRecDepth 100000 in
theorem xi_ok275_0 : xi_ok cX12_isWeight xi_275_0 = true := by decide +kernel
def xi_275 (pc : Nat) : XIs := xi_275_0
theorem xi_ok275 (pc : Nat) : xi_ok cX12_isWeight (xi_275 pc) = true := xi_ok275_0
def xi_276_0 : XIs := [(0, .iconst 0, 1), (1, .istore_n 2, 1), (2, .iload_n 2, 1), (3, .sipush 160, 3), (6, .if_icmp .ge 24, 3), (9, .aload_n 0, 1), (10, .getfield 16, 3), (13, .sipush 160, 3), (16, .iload_n 1, 1), (17, .imul, 1), (18, .iload_n 2, 1), (19, .iadd, 1), (20, .baload, 1), (21, .ifCond .eq 9, 3), (24, .iinc 2 1, 3), (27, .goto (-25), 3)]
set_option maxRecDepth 100000 in
theorem xi_ok276_0 : xi_ok cX12_freePlace xi_276_0 = true := by decide +kernel
def xi_276_1 : XIs := [(30, .iload_n 2, 1), (31, .ireturn, 1)]
set_option maxRecDepth 100000 in
theorem xi_ok276_1 : xi_ok cX12_freePlace xi_276_1 = true := by decide +kernel
def xi_276 (pc : Nat) : XIs := cond (Nat.blt pc 30) (xi_276_0) (xi_276_1)
theorem xi_ok276 (pc : Nat) : xi_ok cX12_freePlace (xi_276 pc) = true := xi_c (xi_ok276_0) (xi_ok276_1)
def xi_277_0 : XIs := [(0, .aload_n 0, 1), (1, .iload_n 1, 1), (2, .i2l, 1), (3, .lconst 0, 1), (4, .ldc2_w 312, 3), (7, .invokestatic 308, 3), (10, .aload_n 0, 1), (11, .getfield 7, 3), (14, .iconst 0, 1), (15, .iaload, 1), (16, .bipush 32, 2), (18, .if_icmp .ge 17, 3), (21, .aload_n 0, 1), (22, .getfield 291, 3), (25, .sipush 4000, 3), (28, .if_icmp .ge 7, 3)]
set_option maxRecDepth 100000 in
theorem xi_ok277_0 : xi_ok cX12_node xi_277_0 = true := by decide +kernel
def xi_277_1 : XIs := [(31, .iconst 1, 1), (32, .goto 4, 3), (35, .iconst 0, 1), (36, .invokevirtual 281, 3), (39, .ifCond .eq 5, 3), (42, .iconst 0, 1), (43, .ireturn, 1), (44, .aload_n 0, 1), (45, .iconst 0, 1), (46, .iload_n 1, 1), (47, .iconst 0, 1), (48, .iconst 0, 1), (49, .iconst 0, 1), (50, .iconst 0, 1), (51, .iconst 0, 1), (52, .invokevirtual 314, 3)]
set_option maxRecDepth 100000 in
theorem xi_ok277_1 : xi_ok cX12_node xi_277_1 = true := by decide +kernel
def xi_277_2 : XIs := [(55, .aload_n 0, 1), (56, .getfield 7, 3), (59, .iconst 0, 1), (60, .iaload, 1), (61, .iconst 1, 1), (62, .isub, 1), (63, .ireturn, 1)]
set_option maxRecDepth 100000 in
theorem xi_ok277_2 : xi_ok cX12_node xi_277_2 = true := by decide +kernel
def xi_277 (pc : Nat) : XIs := cond (Nat.blt pc 31) (xi_277_0) (cond (Nat.blt pc 55) (xi_277_1) (xi_277_2))
theorem xi_ok277 (pc : Nat) : xi_ok cX12_node (xi_277 pc) = true := xi_c (xi_ok277_0) (xi_c (xi_ok277_1) (xi_ok277_2))
def xi_278_0 : XIs := [(0, .aload_n 0, 1), (1, .aload_n 0, 1), (2, .iload_n 1, 1), (3, .invokevirtual 318, 3), (6, .ifCond .eq 48, 3), (9, .aload_n 0, 1), (10, .iload_n 2, 1), (11, .invokevirtual 318, 3), (14, .ifCond .eq 40, 3), (17, .iload_n 3, 1), (18, .invokestatic 322, 3), (21, .ifCond .eq 33, 3), (24, .iload 4, 2), (26, .i2l, 1), (27, .lconst 0, 1), (28, .ldc2_w 306, 3)]
set_option maxRecDepth 100000 in
theorem xi_ok278_0 : xi_ok cX12_arc xi_278_0 = true := by decide +kernel
def xi_278_1 : XIs := [(31, .invokestatic 308, 3), (34, .ifCond .eq 20, 3), (37, .iload 5, 2), (39, .i2l, 1), (40, .lconst 0, 1), (41, .ldc2_w 312, 3), (44, .invokestatic 308, 3), (47, .ifCond .eq 7, 3), (50, .iconst 1, 1), (51, .goto 4, 3), (54, .iconst 0, 1), (55, .aload_n 0, 1), (56, .getfield 291, 3), (59, .sipush 4000, 3), (62, .if_icmp .ge 7, 3), (65, .iconst 1, 1)]
set_option maxRecDepth 100000 in
theorem xi_ok278_1 : xi_ok cX12_arc xi_278_1 = true := by decide +kernel
def xi_278_2 : XIs := [(66, .goto 4, 3), (69, .iconst 0, 1), (70, .invokevirtual 281, 3), (73, .ifCond .eq 5, 3), (76, .iconst 0, 1), (77, .ireturn, 1), (78, .aload_n 0, 1), (79, .iconst 0, 1), (80, .invokevirtual 325, 3), (83, .istore 6, 2), (85, .iload 6, 2), (87, .sipush 160, 3), (90, .if_icmp .ne 6, 3), (93, .bipush (-3), 2), (95, .ireturn, 1), (96, .aload_n 0, 1)]
set_option maxRecDepth 100000 in
theorem xi_ok278_2 : xi_ok cX12_arc xi_278_2 = true := by decide +kernel
def xi_278_3 : XIs := [(97, .iconst 1, 1), (98, .iload 6, 2), (100, .iload_n 1, 1), (101, .iload_n 2, 1), (102, .iload_n 3, 1), (103, .iload 4, 2), (105, .iload 5, 2), (107, .invokevirtual 314, 3), (110, .iload 6, 2), (112, .ireturn, 1)]
set_option maxRecDepth 100000 in
theorem xi_ok278_3 : xi_ok cX12_arc xi_278_3 = true := by decide +kernel
def xi_278 (pc : Nat) : XIs := cond (Nat.blt pc 66) (cond (Nat.blt pc 31) (xi_278_0) (xi_278_1)) (cond (Nat.blt pc 97) (xi_278_2) (xi_278_3))
theorem xi_ok278 (pc : Nat) : xi_ok cX12_arc (xi_278 pc) = true := xi_c (xi_c (xi_ok278_0) (xi_ok278_1)) (xi_c (xi_ok278_2) (xi_ok278_3))
def xi_279_0 : XIs := [(0, .aload_n 0, 1), (1, .aload_n 0, 1), (2, .iload_n 1, 1), (3, .invokevirtual 329, 3), (6, .aload_n 0, 1), (7, .getfield 291, 3), (10, .sipush 4000, 3), (13, .if_icmp .ge 7, 3), (16, .iconst 1, 1), (17, .goto 4, 3), (20, .iconst 0, 1), (21, .invokevirtual 281, 3), (24, .ifCond .eq 5, 3), (27, .iconst 0, 1), (28, .ireturn, 1), (29, .aload_n 0, 1)]
set_option maxRecDepth 100000 in
theorem xi_ok279_0 : xi_ok cX12_take xi_279_0 = true := by decide +kernel
def xi_279_1 : XIs := [(30, .iconst 2, 1), (31, .iload_n 1, 1), (32, .iconst 0, 1), (33, .iconst 0, 1), (34, .iconst 0, 1), (35, .iconst 0, 1), (36, .iconst 0, 1), (37, .invokevirtual 314, 3), (40, .aload_n 0, 1), (41, .getfield 291, 3), (44, .ireturn, 1)]
set_option maxRecDepth 100000 in
theorem xi_ok279_1 : xi_ok cX12_take xi_279_1 = true := by decide +kernel
def xi_279 (pc : Nat) : XIs := cond (Nat.blt pc 30) (xi_279_0) (xi_279_1)
theorem xi_ok279 (pc : Nat) : xi_ok cX12_take (xi_279 pc) = true := xi_c (xi_ok279_0) (xi_ok279_1)
def xi_280_0 : XIs := [(0, .iload_n 2, 1), (1, .ifCond .ne 10, 3), (4, .iload_n 3, 1), (5, .invokestatic 322, 3), (8, .goto 42, 3), (11, .iload_n 2, 1), (12, .iconst 1, 1), (13, .if_icmp .ne 15, 3), (16, .iload_n 3, 1), (17, .i2l, 1), (18, .lconst 0, 1), (19, .ldc2_w 306, 3), (22, .invokestatic 308, 3), (25, .goto 25, 3), (28, .iload_n 2, 1), (29, .iconst 2, 1)]
set_option maxRecDepth 100000 in
theorem xi_ok280_0 : xi_ok cX12_set xi_280_0 = true := by decide +kernel
def xi_280_1 : XIs := [(30, .if_icmp .ne 19, 3), (33, .iload_n 3, 1), (34, .i2l, 1), (35, .lconst 0, 1), (36, .ldc2_w 312, 3), (39, .invokestatic 308, 3), (42, .ifCond .eq 7, 3), (45, .iconst 1, 1), (46, .goto 4, 3), (49, .iconst 0, 1), (50, .istore 4, 2), (52, .aload_n 0, 1), (53, .aload_n 0, 1), (54, .iload_n 1, 1), (55, .invokevirtual 329, 3), (58, .ifCond .eq 12, 3)]
set_option maxRecDepth 100000 in
theorem xi_ok280_1 : xi_ok cX12_set xi_280_1 = true := by decide +kernel
def xi_280_2 : XIs := [(61, .iload 4, 2), (63, .ifCond .eq 7, 3), (66, .iconst 1, 1), (67, .goto 4, 3), (70, .iconst 0, 1), (71, .aload_n 0, 1), (72, .getfield 291, 3), (75, .sipush 4000, 3), (78, .if_icmp .ge 7, 3), (81, .iconst 1, 1), (82, .goto 4, 3), (85, .iconst 0, 1), (86, .invokevirtual 281, 3), (89, .ifCond .eq 5, 3), (92, .iconst 0, 1), (93, .ireturn, 1)]
set_option maxRecDepth 100000 in
theorem xi_ok280_2 : xi_ok cX12_set xi_280_2 = true := by decide +kernel
def xi_280_3 : XIs := [(94, .iload_n 2, 1), (95, .ifCond .ne 12, 3), (98, .aload_n 0, 1), (99, .getfield 26, 3), (102, .iload_n 1, 1), (103, .iaload, 1), (104, .goto 23, 3), (107, .iload_n 2, 1), (108, .iconst 1, 1), (109, .if_icmp .ne 12, 3), (112, .aload_n 0, 1), (113, .getfield 29, 3), (116, .iload_n 1, 1), (117, .iaload, 1), (118, .goto 9, 3), (121, .aload_n 0, 1)]
set_option maxRecDepth 100000 in
theorem xi_ok280_3 : xi_ok cX12_set xi_280_3 = true := by decide +kernel
def xi_280_4 : XIs := [(122, .getfield 32, 3), (125, .iload_n 1, 1), (126, .iaload, 1), (127, .istore 5, 2), (129, .aload_n 0, 1), (130, .iconst 3, 1), (131, .iload_n 1, 1), (132, .iload_n 2, 1), (133, .iload_n 3, 1), (134, .iconst 0, 1), (135, .iconst 0, 1), (136, .iconst 0, 1), (137, .invokevirtual 314, 3), (140, .iload 5, 2), (142, .ireturn, 1)]
set_option maxRecDepth 100000 in
theorem xi_ok280_4 : xi_ok cX12_set xi_280_4 = true := by decide +kernel
def xi_280 (pc : Nat) : XIs := cond (Nat.blt pc 61) (cond (Nat.blt pc 30) (xi_280_0) (xi_280_1)) (cond (Nat.blt pc 94) (xi_280_2) (cond (Nat.blt pc 122) (xi_280_3) (xi_280_4)))
theorem xi_ok280 (pc : Nat) : xi_ok cX12_set (xi_280 pc) = true := xi_c (xi_c (xi_ok280_0) (xi_ok280_1)) (xi_c (xi_ok280_2) (xi_c (xi_ok280_3) (xi_ok280_4)))
def xi_281_0 : XIs := [(0, .aload_n 0, 1), (1, .aload_n 0, 1), (2, .iload_n 1, 1), (3, .invokevirtual 318, 3), (6, .ifCond .eq 19, 3), (9, .iload_n 2, 1), (10, .i2l, 1), (11, .lconst 0, 1), (12, .ldc2_w 312, 3), (15, .invokestatic 308, 3), (18, .ifCond .eq 7, 3), (21, .iconst 1, 1), (22, .goto 4, 3), (25, .iconst 0, 1), (26, .aload_n 0, 1), (27, .getfield 291, 3)]
set_option maxRecDepth 100000 in
theorem xi_ok281_0 : xi_ok cX12_label xi_281_0 = true := by decide +kernel
def xi_281_1 : XIs := [(30, .sipush 4000, 3), (33, .if_icmp .ge 7, 3), (36, .iconst 1, 1), (37, .goto 4, 3), (40, .iconst 0, 1), (41, .invokevirtual 281, 3), (44, .ifCond .eq 5, 3), (47, .iconst 0, 1), (48, .ireturn, 1), (49, .aload_n 0, 1), (50, .getfield 13, 3), (53, .iload_n 1, 1), (54, .iaload, 1), (55, .istore_n 3, 1), (56, .aload_n 0, 1), (57, .iconst 4, 1)]
set_option maxRecDepth 100000 in
theorem xi_ok281_1 : xi_ok cX12_label xi_281_1 = true := by decide +kernel
def xi_281_2 : XIs := [(58, .iload_n 1, 1), (59, .iload_n 2, 1), (60, .iconst 0, 1), (61, .iconst 0, 1), (62, .iconst 0, 1), (63, .iconst 0, 1), (64, .invokevirtual 314, 3), (67, .iload_n 3, 1), (68, .ireturn, 1)]
set_option maxRecDepth 100000 in
theorem xi_ok281_2 : xi_ok cX12_label xi_281_2 = true := by decide +kernel
def xi_281 (pc : Nat) : XIs := cond (Nat.blt pc 30) (xi_281_0) (cond (Nat.blt pc 58) (xi_281_1) (xi_281_2))
theorem xi_ok281 (pc : Nat) : xi_ok cX12_label (xi_281 pc) = true := xi_c (xi_ok281_0) (xi_c (xi_ok281_1) (xi_ok281_2))
def xi_282_0 : XIs := [(0, .aload_n 0, 1), (1, .iload_n 1, 1), (2, .i2l, 1), (3, .ldc2_w 332, 3), (6, .aload_n 0, 1), (7, .getfield 291, 3), (10, .i2l, 1), (11, .invokestatic 308, 3), (14, .invokevirtual 334, 3), (17, .ifCond .eq 5, 3), (20, .iconst 0, 1), (21, .ireturn, 1), (22, .aload_n 0, 1), (23, .iload_n 1, 1), (24, .putfield 56, 3), (27, .iload_n 1, 1)]
set_option maxRecDepth 100000 in
theorem xi_ok282_0 : xi_ok cX12_view xi_282_0 = true := by decide +kernel
def xi_282_1 : XIs := [(28, .ifCond .lt 55, 3), (31, .aload_n 0, 1), (32, .getfield 7, 3), (35, .iconst 1, 1), (36, .iconst 0, 1), (37, .iastore, 1), (38, .iconst 0, 1), (39, .istore_n 2, 1), (40, .iload_n 2, 1), (41, .sipush 160, 3), (44, .if_icmp .ge 20, 3), (47, .aload_n 0, 1), (48, .getfield 16, 3), (51, .sipush 160, 3), (54, .iload_n 2, 1), (55, .iadd, 1)]
set_option maxRecDepth 100000 in
theorem xi_ok282_1 : xi_ok cX12_view xi_282_1 = true := by decide +kernel
def xi_282_2 : XIs := [(56, .iconst 0, 1), (57, .bastore, 1), (58, .iinc 2 1, 3), (61, .goto (-21), 3), (64, .iconst 0, 1), (65, .istore_n 2, 1), (66, .iload_n 2, 1), (67, .iload_n 1, 1), (68, .if_icmp .ge 15, 3), (71, .aload_n 0, 1), (72, .iload_n 2, 1), (73, .iconst 1, 1), (74, .invokevirtual 294, 3), (77, .iinc 2 1, 3), (80, .goto (-14), 3), (83, .aload_n 0, 1)]
set_option maxRecDepth 100000 in
theorem xi_ok282_2 : xi_ok cX12_view xi_282_2 = true := by decide +kernel
def xi_282_3 : XIs := [(84, .invokevirtual 298, 3), (87, .iload_n 1, 1), (88, .ifCond .ge 10, 3), (91, .aload_n 0, 1), (92, .getfield 291, 3), (95, .goto 4, 3), (98, .iload_n 1, 1), (99, .ireturn, 1)]
set_option maxRecDepth 100000 in
theorem xi_ok282_3 : xi_ok cX12_view xi_282_3 = true := by decide +kernel
def xi_282 (pc : Nat) : XIs := cond (Nat.blt pc 56) (cond (Nat.blt pc 28) (xi_282_0) (xi_282_1)) (cond (Nat.blt pc 84) (xi_282_2) (xi_282_3))
theorem xi_ok282 (pc : Nat) : xi_ok cX12_view (xi_282 pc) = true := xi_c (xi_c (xi_ok282_0) (xi_ok282_1)) (xi_c (xi_ok282_2) (xi_ok282_3))
def xi_283_0 : XIs := [(0, .aload_n 0, 1), (1, .iconst 0, 1), (2, .putfield 278, 3), (5, .aload_n 0, 1), (6, .getfield 291, 3), (9, .ireturn, 1)]
set_option maxRecDepth 100000 in
theorem xi_ok283_0 : xi_ok cX12_version xi_283_0 = true := by decide +kernel
def xi_283 (pc : Nat) : XIs := xi_283_0
theorem xi_ok283 (pc : Nat) : xi_ok cX12_version (xi_283 pc) = true := xi_ok283_0
def xi_284_0 : XIs := [(0, .aload_n 0, 1), (1, .getfield 16, 3), (4, .aload_n 0, 1), (5, .getfield 288, 3), (8, .iload_n 1, 1), (9, .iadd, 1), (10, .baload, 1), (11, .ifCond .eq 32, 3), (14, .aload_n 0, 1), (15, .getfield 20, 3), (18, .aload_n 0, 1), (19, .getfield 288, 3), (22, .iload_n 1, 1), (23, .iadd, 1), (24, .iaload, 1), (25, .aload_n 0, 1)]
set_option maxRecDepth 100000 in
theorem xi_ok284_0 : xi_ok cX12_isJoint xi_284_0 = true := by decide +kernel
def xi_284_1 : XIs := [(26, .getfield 23, 3), (29, .aload_n 0, 1), (30, .getfield 288, 3), (33, .iload_n 1, 1), (34, .iadd, 1), (35, .iaload, 1), (36, .if_icmp .eq 7, 3), (39, .iconst 1, 1), (40, .goto 4, 3), (43, .iconst 0, 1), (44, .ireturn, 1)]
set_option maxRecDepth 100000 in
theorem xi_ok284_1 : xi_ok cX12_isJoint xi_284_1 = true := by decide +kernel
def xi_284 (pc : Nat) : XIs := cond (Nat.blt pc 26) (xi_284_0) (xi_284_1)
theorem xi_ok284 (pc : Nat) : xi_ok cX12_isJoint (xi_284 pc) = true := xi_c (xi_ok284_0) (xi_ok284_1)
def xi_285_0 : XIs := [(0, .aload_n 0, 1), (1, .iload_n 1, 1), (2, .i2l, 1), (3, .lconst 0, 1), (4, .ldc2_w 338, 3), (7, .invokestatic 308, 3), (10, .invokevirtual 334, 3), (13, .ifCond .eq 5, 3), (16, .iconst 0, 1), (17, .ireturn, 1), (18, .iconst 0, 1), (19, .istore_n 2, 1), (20, .iconst 0, 1), (21, .istore_n 3, 1), (22, .iconst (-1), 1), (23, .istore 4, 2)]
set_option maxRecDepth 100000 in
theorem xi_ok285_0 : xi_ok cX12_size xi_285_0 = true := by decide +kernel
def xi_285_1 : XIs := [(25, .iconst 0, 1), (26, .istore 5, 2), (28, .iload 5, 2), (30, .sipush 160, 3), (33, .if_icmp .ge 73, 3), (36, .iload_n 2, 1), (37, .aload_n 0, 1), (38, .getfield 16, 3), (41, .aload_n 0, 1), (42, .getfield 288, 3), (45, .iload 5, 2), (47, .iadd, 1), (48, .baload, 1), (49, .ifCond .eq 7, 3), (52, .iconst 1, 1), (53, .goto 4, 3)]
set_option maxRecDepth 100000 in
theorem xi_ok285_1 : xi_ok cX12_size xi_285_1 = true := by decide +kernel
def xi_285_2 : XIs := [(56, .iconst 0, 1), (57, .iadd, 1), (58, .istore_n 2, 1), (59, .iload_n 3, 1), (60, .aload_n 0, 1), (61, .iload 5, 2), (63, .invokevirtual 340, 3), (66, .ifCond .eq 7, 3), (69, .iconst 1, 1), (70, .goto 4, 3), (73, .iconst 0, 1), (74, .iadd, 1), (75, .istore_n 3, 1), (76, .aload_n 0, 1), (77, .getfield 16, 3), (80, .aload_n 0, 1)]
set_option maxRecDepth 100000 in
theorem xi_ok285_2 : xi_ok cX12_size xi_285_2 = true := by decide +kernel
def xi_285_3 : XIs := [(81, .getfield 288, 3), (84, .iload 5, 2), (86, .iadd, 1), (87, .baload, 1), (88, .ifCond .eq 8, 3), (91, .iload 5, 2), (93, .goto 5, 3), (96, .iload 4, 2), (98, .istore 4, 2), (100, .iinc 5 1, 3), (103, .goto (-75), 3), (106, .iload_n 1, 1), (107, .ifCond .ne 10, 3), (110, .aload_n 0, 1), (111, .getfield 285, 3), (114, .goto 23, 3)]
set_option maxRecDepth 100000 in
theorem xi_ok285_3 : xi_ok cX12_size xi_285_3 = true := by decide +kernel
def xi_285_4 : XIs := [(117, .iload_n 1, 1), (118, .iconst 1, 1), (119, .if_icmp .ne 7, 3), (122, .iload_n 2, 1), (123, .goto 14, 3), (126, .iload_n 1, 1), (127, .iconst 2, 1), (128, .if_icmp .ne 7, 3), (131, .iload_n 3, 1), (132, .goto 5, 3), (135, .iload 4, 2), (137, .ireturn, 1)]
set_option maxRecDepth 100000 in
theorem xi_ok285_4 : xi_ok cX12_size xi_285_4 = true := by decide +kernel
def xi_285 (pc : Nat) : XIs := cond (Nat.blt pc 56) (cond (Nat.blt pc 25) (xi_285_0) (xi_285_1)) (cond (Nat.blt pc 81) (xi_285_2) (cond (Nat.blt pc 117) (xi_285_3) (xi_285_4)))
theorem xi_ok285 (pc : Nat) : xi_ok cX12_size (xi_285 pc) = true := xi_c (xi_c (xi_ok285_0) (xi_ok285_1)) (xi_c (xi_ok285_2) (xi_c (xi_ok285_3) (xi_ok285_4)))
def xi_286_0 : XIs := [(0, .aload_n 0, 1), (1, .iload_n 1, 1), (2, .i2l, 1), (3, .lconst 0, 1), (4, .ldc2_w 343, 3), (7, .invokestatic 308, 3), (10, .ifCond .eq 19, 3), (13, .iload_n 2, 1), (14, .i2l, 1), (15, .lconst 0, 1), (16, .ldc2_w 345, 3), (19, .invokestatic 308, 3), (22, .ifCond .eq 7, 3), (25, .iconst 1, 1), (26, .goto 4, 3), (29, .iconst 0, 1)]
set_option maxRecDepth 100000 in
theorem xi_ok286_0 : xi_ok cX12_told xi_286_0 = true := by decide +kernel
def xi_286_1 : XIs := [(30, .invokevirtual 334, 3), (33, .ifCond .eq 5, 3), (36, .lconst 0, 1), (37, .lreturn, 1), (38, .aload_n 0, 1), (39, .getfield 288, 3), (42, .iload_n 1, 1), (43, .iadd, 1), (44, .istore_n 3, 1), (45, .aload_n 0, 1), (46, .getfield 16, 3), (49, .iload_n 3, 1), (50, .baload, 1), (51, .ifCond .ne 7, 3), (54, .ldc2_w 347, 3), (57, .lreturn, 1)]
set_option maxRecDepth 100000 in
theorem xi_ok286_1 : xi_ok cX12_told xi_286_1 = true := by decide +kernel
def xi_286_2 : XIs := [(58, .iload_n 2, 1), (59, .ifCond .ne 13, 3), (62, .aload_n 0, 1), (63, .getfield 20, 3), (66, .iload_n 3, 1), (67, .iaload, 1), (68, .i2l, 1), (69, .goto 55, 3), (72, .iload_n 2, 1), (73, .iconst 1, 1), (74, .if_icmp .ne 13, 3), (77, .aload_n 0, 1), (78, .getfield 23, 3), (81, .iload_n 3, 1), (82, .iaload, 1), (83, .i2l, 1)]
set_option maxRecDepth 100000 in
theorem xi_ok286_2 : xi_ok cX12_told xi_286_2 = true := by decide +kernel
