/-! the instructions of the methods, as lists -/
abbrev XIs : Type := List (Nat × Instr × Nat)
def xi_ok (cc : ByteArray) (l : XIs) : Bool := l.all (fun q => decide (decode cc q.1 = .ok (q.2.1, q.2.2)))
theorem xi_c {cc : ByteArray} {b : Bool} {x y : XIs} (hx : xi_ok cc x = true) (hy : xi_ok cc y = true) : xi_ok cc (cond b x y) = true := by
  cases b
  · exact hy
  · exact hx
def xi_0 (pc : Nat) : XIs := []
theorem xi_ok0 (pc : Nat) : xi_ok code (xi_0 pc) = true := rfl
def xi_1 (pc : Nat) : XIs := []
theorem xi_ok1 (pc : Nat) : xi_ok cL_node (xi_1 pc) = true := rfl
def xi_2 (pc : Nat) : XIs := []
theorem xi_ok2 (pc : Nat) : xi_ok cL_arc (xi_2 pc) = true := rfl
def xi_3 (pc : Nat) : XIs := []
theorem xi_ok3 (pc : Nat) : xi_ok cL_take (xi_3 pc) = true := rfl
def xi_4 (pc : Nat) : XIs := []
theorem xi_ok4 (pc : Nat) : xi_ok cL_set (xi_4 pc) = true := rfl
def xi_5 (pc : Nat) : XIs := []
theorem xi_ok5 (pc : Nat) : xi_ok cL_label (xi_5 pc) = true := rfl
def xi_6 (pc : Nat) : XIs := []
theorem xi_ok6 (pc : Nat) : xi_ok cL_view (xi_6 pc) = true := rfl
def xi_7 (pc : Nat) : XIs := []
theorem xi_ok7 (pc : Nat) : xi_ok cL_size (xi_7 pc) = true := rfl
def xi_8 (pc : Nat) : XIs := []
theorem xi_ok8 (pc : Nat) : xi_ok cL_told (xi_8 pc) = true := rfl
def xi_9 (pc : Nat) : XIs := []
theorem xi_ok9 (pc : Nat) : xi_ok cL_labelOf (xi_9 pc) = true := rfl
def xi_10 (pc : Nat) : XIs := []
theorem xi_ok10 (pc : Nat) : xi_ok cL_arcAt (xi_10 pc) = true := rfl
def xi_11 (pc : Nat) : XIs := []
theorem xi_ok11 (pc : Nat) : xi_ok cL_type (xi_11 pc) = true := rfl
def xi_12 (pc : Nat) : XIs := []
theorem xi_ok12 (pc : Nat) : xi_ok cL_fault (xi_12 pc) = true := rfl
def xi_13 (pc : Nat) : XIs := []
theorem xi_ok13 (pc : Nat) : xi_ok cL_printed (xi_13 pc) = true := rfl
def xi_14 (pc : Nat) : XIs := []
theorem xi_ok14 (pc : Nat) : xi_ok cL_distance (xi_14 pc) = true := rfl
def xi_15 (pc : Nat) : XIs := []
theorem xi_ok15 (pc : Nat) : xi_ok cL_way (xi_15 pc) = true := rfl
def xi_16 (pc : Nat) : XIs := []
theorem xi_ok16 (pc : Nat) : xi_ok cL_width (xi_16 pc) = true := rfl
def xi_17 (pc : Nat) : XIs := []
theorem xi_ok17 (pc : Nat) : xi_ok cL_shorts (xi_17 pc) = true := rfl
def xi_18 (pc : Nat) : XIs := []
theorem xi_ok18 (pc : Nat) : xi_ok cL_shortArc (xi_18 pc) = true := rfl
def xi_19 (pc : Nat) : XIs := []
theorem xi_ok19 (pc : Nat) : xi_ok cL_part (xi_19 pc) = true := rfl
def xi_20 (pc : Nat) : XIs := []
theorem xi_ok20 (pc : Nat) : xi_ok cL_bridge (xi_20 pc) = true := rfl
def xi_21 (pc : Nat) : XIs := []
theorem xi_ok21 (pc : Nat) : xi_ok cL_cut (xi_21 pc) = true := rfl
def xi_22 (pc : Nat) : XIs := []
theorem xi_ok22 (pc : Nat) : xi_ok cL_order (xi_22 pc) = true := rfl
def xi_23 (pc : Nat) : XIs := []
theorem xi_ok23 (pc : Nat) : xi_ok cL_core (xi_23 pc) = true := rfl
def xi_24 (pc : Nat) : XIs := []
theorem xi_ok24 (pc : Nat) : xi_ok cL_clique (xi_24 pc) = true := rfl
def xi_25 (pc : Nat) : XIs := []
theorem xi_ok25 (pc : Nat) : xi_ok cL_colour (xi_25 pc) = true := rfl
def xi_26 (pc : Nat) : XIs := []
theorem xi_ok26 (pc : Nat) : xi_ok cL_flow (xi_26 pc) = true := rfl
def xi_27 (pc : Nat) : XIs := []
theorem xi_ok27 (pc : Nat) : xi_ok cL_side (xi_27 pc) = true := rfl
def xi_28 (pc : Nat) : XIs := []
theorem xi_ok28 (pc : Nat) : xi_ok cL_cost (xi_28 pc) = true := rfl
def xi_29 (pc : Nat) : XIs := []
theorem xi_ok29 (pc : Nat) : xi_ok cL_pairing (xi_29 pc) = true := rfl
def xi_30 (pc : Nat) : XIs := []
theorem xi_ok30 (pc : Nat) : xi_ok cL_tree (xi_30 pc) = true := rfl
def xi_31 (pc : Nat) : XIs := []
theorem xi_ok31 (pc : Nat) : xi_ok cL_span (xi_31 pc) = true := rfl
def xi_32 (pc : Nat) : XIs := []
theorem xi_ok32 (pc : Nat) : xi_ok cL_rank (xi_32 pc) = true := rfl
def xi_33 (pc : Nat) : XIs := []
theorem xi_ok33 (pc : Nat) : xi_ok cL_shortest (xi_33 pc) = true := rfl
def xi_34 (pc : Nat) : XIs := []
theorem xi_ok34 (pc : Nat) : xi_ok cL_group (xi_34 pc) = true := rfl
def xi_35 (pc : Nat) : XIs := []
theorem xi_ok35 (pc : Nat) : xi_ok cL_figures (xi_35 pc) = true := rfl
def xi_36 (pc : Nat) : XIs := []
theorem xi_ok36 (pc : Nat) : xi_ok cL_fits (xi_36 pc) = true := rfl
def xi_37 (pc : Nat) : XIs := []
theorem xi_ok37 (pc : Nat) : xi_ok cL_run (xi_37 pc) = true := rfl
def xi_38 (pc : Nat) : XIs := []
theorem xi_ok38 (pc : Nat) : xi_ok cL_state (xi_38 pc) = true := rfl
def xi_39 (pc : Nat) : XIs := []
theorem xi_ok39 (pc : Nat) : xi_ok cL_letters (xi_39 pc) = true := rfl
def xi_40 (pc : Nat) : XIs := []
theorem xi_ok40 (pc : Nat) : xi_ok cX0_init (xi_40 pc) = true := rfl
def xi_41_0 : XIs := [(0, .aload_n 0, 1), (1, .getfield 9, 3), (4, .aload_n 1, 1), (5, .getfield 31, 3), (8, .if_icmp .eq 34, 3), (11, .aload_n 0, 1), (12, .aload_n 1, 1), (13, .getfield 31, 3), (16, .putfield 9, 3), (19, .aload_n 1, 1), (20, .invokevirtual 36, 3), (23, .aload_n 0, 1), (24, .iconst 0, 1), (25, .putfield 39, 3), (28, .aload_n 0, 1), (29, .aload_n 1, 1)]
set_option maxRecDepth 100000 in
theorem xi_ok41_0 : xi_ok cX0_greatestClique xi_41_0 = true := by decide +kernel
def xi_41_1 : XIs := [(30, .getfield 42, 3), (33, .iconst 0, 1), (34, .aload_n 1, 1), (35, .invokevirtual 45, 3), (38, .iconst 0, 1), (39, .invokevirtual 49, 3), (42, .aload_n 0, 1), (43, .getfield 39, 3), (46, .ireturn, 1)]
set_option maxRecDepth 100000 in
theorem xi_ok41_1 : xi_ok cX0_greatestClique xi_41_1 = true := by decide +kernel
def xi_41 (pc : Nat) : XIs := cond (Nat.blt pc 30) (xi_41_0) (xi_41_1)
theorem xi_ok41 (pc : Nat) : xi_ok cX0_greatestClique (xi_41 pc) = true := xi_c (xi_ok41_0) (xi_ok41_1)
def xi_42_0 : XIs := [(0, .iload_n 2, 1), (1, .invokestatic 53, 3), (4, .istore 5, 2), (6, .iload 5, 2), (8, .aload_n 0, 1), (9, .getfield 39, 3), (12, .invokestatic 53, 3), (15, .if_icmp .le 8, 3), (18, .aload_n 0, 1), (19, .iload_n 2, 1), (20, .putfield 39, 3), (23, .iload 4, 2), (25, .bipush 32, 2), (27, .if_icmp .lt 4, 3), (30, .return_, 1), (31, .iload_n 3, 1)]
set_option maxRecDepth 100000 in
theorem xi_ok42_0 : xi_ok cX0_growClique xi_42_0 = true := by decide +kernel
def xi_42_1 : XIs := [(32, .istore 6, 2), (34, .iload 6, 2), (36, .ifCond .eq 63, 3), (39, .iload 5, 2), (41, .iload 6, 2), (43, .invokestatic 53, 3), (46, .iadd, 1), (47, .aload_n 0, 1), (48, .getfield 39, 3), (51, .invokestatic 53, 3), (54, .if_icmp .gt 4, 3), (57, .return_, 1), (58, .iload 6, 2), (60, .invokestatic 59, 3), (63, .istore 7, 2), (65, .aload_n 0, 1)]
set_option maxRecDepth 100000 in
theorem xi_ok42_1 : xi_ok cX0_growClique xi_42_1 = true := by decide +kernel
def xi_42_2 : XIs := [(66, .aload_n 1, 1), (67, .iload_n 2, 1), (68, .iconst 1, 1), (69, .iload 7, 2), (71, .ishl, 1), (72, .ior, 1), (73, .iload 6, 2), (75, .aload_n 1, 1), (76, .iload 7, 2), (78, .iaload, 1), (79, .iand, 1), (80, .iload 4, 2), (82, .iconst 1, 1), (83, .iadd, 1), (84, .invokevirtual 49, 3), (87, .iload 6, 2)]
set_option maxRecDepth 100000 in
theorem xi_ok42_2 : xi_ok cX0_growClique xi_42_2 = true := by decide +kernel
def xi_42_3 : XIs := [(89, .iload 6, 2), (91, .iconst 1, 1), (92, .isub, 1), (93, .iand, 1), (94, .istore 6, 2), (96, .goto (-62), 3), (99, .return_, 1)]
set_option maxRecDepth 100000 in
theorem xi_ok42_3 : xi_ok cX0_growClique xi_42_3 = true := by decide +kernel
def xi_42 (pc : Nat) : XIs := cond (Nat.blt pc 66) (cond (Nat.blt pc 32) (xi_42_0) (xi_42_1)) (cond (Nat.blt pc 89) (xi_42_2) (xi_42_3))
theorem xi_ok42 (pc : Nat) : xi_ok cX0_growClique (xi_42 pc) = true := xi_c (xi_c (xi_ok42_0) (xi_ok42_1)) (xi_c (xi_ok42_2) (xi_ok42_3))
def xi_43_0 : XIs := [(0, .aload_n 0, 1), (1, .getfield 15, 3), (4, .aload_n 1, 1), (5, .getfield 31, 3), (8, .if_icmp .eq 16, 3), (11, .aload_n 0, 1), (12, .aload_n 1, 1), (13, .getfield 31, 3), (16, .putfield 15, 3), (19, .aload_n 0, 1), (20, .aload_n 1, 1), (21, .invokevirtual 62, 3), (24, .aload_n 0, 1), (25, .getfield 28, 3), (28, .iload_n 2, 1), (29, .iaload, 1)]
set_option maxRecDepth 100000 in
theorem xi_ok43_0 : xi_ok cX0_colourOf xi_43_0 = true := by decide +kernel
def xi_43_1 : XIs := [(30, .ireturn, 1)]
set_option maxRecDepth 100000 in
theorem xi_ok43_1 : xi_ok cX0_colourOf xi_43_1 = true := by decide +kernel
def xi_43 (pc : Nat) : XIs := cond (Nat.blt pc 30) (xi_43_0) (xi_43_1)
theorem xi_ok43 (pc : Nat) : xi_ok cX0_colourOf (xi_43 pc) = true := xi_c (xi_ok43_0) (xi_ok43_1)
def xi_44 (pc : Nat) : XIs := []
theorem xi_ok44 (pc : Nat) : xi_ok cX0_makeColours (xi_44 pc) = true := rfl
def xi_45 (pc : Nat) : XIs := []
theorem xi_ok45 (pc : Nat) : xi_ok cX0_classOf (xi_45 pc) = true := rfl
def xi_46 (pc : Nat) : XIs := []
theorem xi_ok46 (pc : Nat) : xi_ok cX0_fill (xi_46 pc) = true := rfl
def xi_47 (pc : Nat) : XIs := []
theorem xi_ok47 (pc : Nat) : xi_ok cX0_fillPiece (xi_47 pc) = true := rfl
def xi_48 (pc : Nat) : XIs := []
theorem xi_ok48 (pc : Nat) : xi_ok cX0_besides (xi_48 pc) = true := rfl
def xi_49 (pc : Nat) : XIs := []
theorem xi_ok49 (pc : Nat) : xi_ok cX0_setAside (xi_49 pc) = true := rfl
def xi_50 (pc : Nat) : XIs := []
theorem xi_ok50 (pc : Nat) : xi_ok cX0_takeBack (xi_50 pc) = true := rfl
def xi_51 (pc : Nat) : XIs := []
theorem xi_ok51 (pc : Nat) : xi_ok cX0_freeColours (xi_51 pc) = true := rfl
def xi_52 (pc : Nat) : XIs := []
theorem xi_ok52 (pc : Nat) : xi_ok cX0_tightest (xi_52 pc) = true := rfl
def xi_53 (pc : Nat) : XIs := []
theorem xi_ok53 (pc : Nat) : xi_ok cX0_lessen (xi_53 pc) = true := rfl
def xi_54 (pc : Nat) : XIs := []
theorem xi_ok54 (pc : Nat) : xi_ok cX0_canLower (xi_54 pc) = true := rfl
def xi_55 (pc : Nat) : XIs := []
theorem xi_ok55 (pc : Nat) : xi_ok cX1_init (xi_55 pc) = true := rfl
def xi_56_0 : XIs := [(0, .aload_n 1, 1), (1, .invokevirtual 38, 3), (4, .aload_n 1, 1), (5, .getfield 43, 3), (8, .bipush 120, 2), (10, .if_icmp .le 11, 3), (13, .aload_n 1, 1), (14, .iconst 2, 1), (15, .bipush 120, 2), (17, .invokevirtual 46, 3), (20, .ireturn, 1), (21, .aload_n 0, 1), (22, .iconst 0, 1), (23, .putfield 50, 3), (26, .aload_n 1, 1), (27, .bipush 6, 2)]
set_option maxRecDepth 100000 in
theorem xi_ok56_0 : xi_ok cX1_adopt xi_56_0 = true := by decide +kernel
def xi_56_1 : XIs := [(29, .iconst 0, 1), (30, .invokevirtual 53, 3), (33, .aload_n 0, 1), (34, .aload_n 1, 1), (35, .iconst 0, 1), (36, .invokevirtual 57, 3), (39, .ifCond .ne 5, 3), (42, .iconst 0, 1), (43, .ireturn, 1), (44, .aload_n 1, 1), (45, .bipush 59, 2), (47, .invokevirtual 61, 3), (50, .ifCond .ne 10, 3), (53, .aload_n 1, 1), (54, .iconst 2, 1), (55, .iconst 4, 1)]
set_option maxRecDepth 100000 in
theorem xi_ok56_1 : xi_ok cX1_adopt xi_56_1 = true := by decide +kernel
def xi_56_2 : XIs := [(56, .invokevirtual 65, 3), (59, .ireturn, 1), (60, .aload_n 0, 1), (61, .getfield 50, 3), (64, .istore_n 2, 1), (65, .aload_n 1, 1), (66, .bipush 6, 2), (68, .iconst 0, 1), (69, .invokevirtual 53, 3), (72, .aload_n 0, 1), (73, .aload_n 1, 1), (74, .iconst 0, 1), (75, .invokevirtual 57, 3), (78, .ifCond .ne 5, 3), (81, .iconst 0, 1), (82, .ireturn, 1)]
set_option maxRecDepth 100000 in
theorem xi_ok56_2 : xi_ok cX1_adopt xi_56_2 = true := by decide +kernel
def xi_56_3 : XIs := [(83, .aload_n 1, 1), (84, .getfield 68, 3), (87, .ifCond .eq 10, 3), (90, .aload_n 1, 1), (91, .iconst 2, 1), (92, .iconst 4, 1), (93, .invokevirtual 65, 3), (96, .ireturn, 1), (97, .aload_n 0, 1), (98, .iload_n 2, 1), (99, .putfield 15, 3), (102, .aload_n 0, 1), (103, .aload_n 0, 1), (104, .getfield 50, 3), (107, .putfield 19, 3), (110, .aload_n 0, 1)]
set_option maxRecDepth 100000 in
theorem xi_ok56_3 : xi_ok cX1_adopt xi_56_3 = true := by decide +kernel
def xi_56_4 : XIs := [(111, .getfield 22, 3), (114, .iconst 0, 1), (115, .aload_n 0, 1), (116, .getfield 11, 3), (119, .iconst 0, 1), (120, .aload_n 0, 1), (121, .getfield 50, 3), (124, .invokestatic 71, 3), (127, .iconst 1, 1), (128, .ireturn, 1)]
set_option maxRecDepth 100000 in
theorem xi_ok56_4 : xi_ok cX1_adopt xi_56_4 = true := by decide +kernel
def xi_56 (pc : Nat) : XIs := cond (Nat.blt pc 56) (cond (Nat.blt pc 29) (xi_56_0) (xi_56_1)) (cond (Nat.blt pc 83) (xi_56_2) (cond (Nat.blt pc 111) (xi_56_3) (xi_56_4)))
theorem xi_ok56 (pc : Nat) : xi_ok cX1_adopt (xi_56 pc) = true := xi_c (xi_c (xi_ok56_0) (xi_ok56_1)) (xi_c (xi_ok56_2) (xi_c (xi_ok56_3) (xi_ok56_4)))
def xi_57_0 : XIs := [(0, .aload_n 0, 1), (1, .getfield 50, 3), (4, .bipush 120, 2), (6, .if_icmp .ge 23, 3), (9, .aload_n 0, 1), (10, .getfield 22, 3), (13, .aload_n 0, 1), (14, .getfield 50, 3), (17, .iload_n 1, 1), (18, .iastore, 1), (19, .aload_n 0, 1), (20, .dup, 1), (21, .getfield 50, 3), (24, .iconst 1, 1), (25, .iadd, 1), (26, .putfield 50, 3)]
set_option maxRecDepth 100000 in
theorem xi_ok57_0 : xi_ok cX1_emit xi_57_0 = true := by decide +kernel
def xi_57_1 : XIs := [(29, .iconst 1, 1), (30, .ireturn, 1)]
set_option maxRecDepth 100000 in
theorem xi_ok57_1 : xi_ok cX1_emit xi_57_1 = true := by decide +kernel
def xi_57 (pc : Nat) : XIs := cond (Nat.blt pc 29) (xi_57_0) (xi_57_1)
theorem xi_ok57 (pc : Nat) : xi_ok cX1_emit (xi_57 pc) = true := xi_c (xi_ok57_0) (xi_ok57_1)
def xi_58_0 : XIs := [(0, .aload_n 0, 1), (1, .aload_n 1, 1), (2, .iload_n 2, 1), (3, .invokevirtual 77, 3), (6, .ifCond .ne 5, 3), (9, .iconst 0, 1), (10, .ireturn, 1), (11, .aload_n 1, 1), (12, .bipush 60, 2), (14, .invokevirtual 61, 3), (17, .ifCond .ne 14, 3), (20, .aload_n 1, 1), (21, .bipush 61, 2), (23, .invokevirtual 61, 3), (26, .ifCond .ne 5, 3), (29, .iconst 1, 1)]
set_option maxRecDepth 100000 in
theorem xi_ok58_0 : xi_ok cX1_readExpression xi_58_0 = true := by decide +kernel
def xi_58_1 : XIs := [(30, .ireturn, 1), (31, .aload_n 1, 1), (32, .getfield 80, 3), (35, .istore_n 3, 1), (36, .aload_n 1, 1), (37, .bipush 6, 2), (39, .iconst 0, 1), (40, .invokevirtual 53, 3), (43, .aload_n 0, 1), (44, .aload_n 1, 1), (45, .iload_n 2, 1), (46, .invokevirtual 77, 3), (49, .ifCond .eq 18, 3), (52, .aload_n 0, 1), (53, .ldc 83, 2), (55, .iload_n 3, 1)]
set_option maxRecDepth 100000 in
theorem xi_ok58_1 : xi_ok cX1_readExpression xi_58_1 = true := by decide +kernel
def xi_58_2 : XIs := [(56, .iadd, 1), (57, .invokevirtual 84, 3), (60, .ifCond .eq 7, 3), (63, .iconst 1, 1), (64, .goto 4, 3), (67, .iconst 0, 1), (68, .ireturn, 1)]
set_option maxRecDepth 100000 in
theorem xi_ok58_2 : xi_ok cX1_readExpression xi_58_2 = true := by decide +kernel
def xi_58 (pc : Nat) : XIs := cond (Nat.blt pc 30) (xi_58_0) (cond (Nat.blt pc 56) (xi_58_1) (xi_58_2))
theorem xi_ok58 (pc : Nat) : xi_ok cX1_readExpression (xi_58 pc) = true := xi_c (xi_ok58_0) (xi_c (xi_ok58_1) (xi_ok58_2))
def xi_59_0 : XIs := [(0, .aload_n 0, 1), (1, .aload_n 1, 1), (2, .iload_n 2, 1), (3, .invokevirtual 87, 3), (6, .ifCond .ne 5, 3), (9, .iconst 0, 1), (10, .ireturn, 1), (11, .iconst 0, 1), (12, .istore_n 3, 1), (13, .iload_n 3, 1), (14, .bipush 120, 2), (16, .if_icmp .ge 61, 3), (19, .aload_n 1, 1), (20, .bipush 43, 2), (22, .invokevirtual 61, 3), (25, .ifCond .ne 12, 3)]
set_option maxRecDepth 100000 in
theorem xi_ok59_0 : xi_ok cX1_readSum xi_59_0 = true := by decide +kernel
def xi_59_1 : XIs := [(28, .aload_n 1, 1), (29, .bipush 45, 2), (31, .invokevirtual 61, 3), (34, .ifCond .eq 43, 3), (37, .aload_n 1, 1), (38, .getfield 80, 3), (41, .istore 4, 2), (43, .aload_n 1, 1), (44, .bipush 6, 2), (46, .iconst 0, 1), (47, .invokevirtual 53, 3), (50, .aload_n 0, 1), (51, .aload_n 1, 1), (52, .iload_n 2, 1), (53, .invokevirtual 87, 3), (56, .ifCond .ne 5, 3)]
set_option maxRecDepth 100000 in
theorem xi_ok59_1 : xi_ok cX1_readSum xi_59_1 = true := by decide +kernel
def xi_59_2 : XIs := [(59, .iconst 0, 1), (60, .ireturn, 1), (61, .aload_n 0, 1), (62, .ldc 83, 2), (64, .iload 4, 2), (66, .iadd, 1), (67, .invokevirtual 84, 3), (70, .pop, 1), (71, .iinc 3 1, 3), (74, .goto (-61), 3), (77, .iconst 1, 1), (78, .ireturn, 1)]
set_option maxRecDepth 100000 in
theorem xi_ok59_2 : xi_ok cX1_readSum xi_59_2 = true := by decide +kernel
def xi_59 (pc : Nat) : XIs := cond (Nat.blt pc 28) (xi_59_0) (cond (Nat.blt pc 59) (xi_59_1) (xi_59_2))
theorem xi_ok59 (pc : Nat) : xi_ok cX1_readSum (xi_59 pc) = true := xi_c (xi_ok59_0) (xi_c (xi_ok59_1) (xi_ok59_2))
def xi_60_0 : XIs := [(0, .aload_n 0, 1), (1, .aload_n 1, 1), (2, .iload_n 2, 1), (3, .invokevirtual 90, 3), (6, .ifCond .ne 5, 3), (9, .iconst 0, 1), (10, .ireturn, 1), (11, .iconst 0, 1), (12, .istore_n 3, 1), (13, .iload_n 3, 1), (14, .bipush 120, 2), (16, .if_icmp .ge 43, 3), (19, .aload_n 1, 1), (20, .bipush 42, 2), (22, .invokevirtual 61, 3), (25, .ifCond .eq 34, 3)]
set_option maxRecDepth 100000 in
theorem xi_ok60_0 : xi_ok cX1_readProduct xi_60_0 = true := by decide +kernel
def xi_60_1 : XIs := [(28, .aload_n 1, 1), (29, .bipush 6, 2), (31, .iconst 0, 1), (32, .invokevirtual 53, 3), (35, .aload_n 0, 1), (36, .aload_n 1, 1), (37, .iload_n 2, 1), (38, .invokevirtual 90, 3), (41, .ifCond .ne 5, 3), (44, .iconst 0, 1), (45, .ireturn, 1), (46, .aload_n 0, 1), (47, .ldc 93, 2), (49, .invokevirtual 84, 3), (52, .pop, 1), (53, .iinc 3 1, 3)]
set_option maxRecDepth 100000 in
theorem xi_ok60_1 : xi_ok cX1_readProduct xi_60_1 = true := by decide +kernel
def xi_60_2 : XIs := [(56, .goto (-43), 3), (59, .iconst 1, 1), (60, .ireturn, 1)]
set_option maxRecDepth 100000 in
theorem xi_ok60_2 : xi_ok cX1_readProduct xi_60_2 = true := by decide +kernel
def xi_60 (pc : Nat) : XIs := cond (Nat.blt pc 28) (xi_60_0) (cond (Nat.blt pc 56) (xi_60_1) (xi_60_2))
theorem xi_ok60 (pc : Nat) : xi_ok cX1_readProduct (xi_60 pc) = true := xi_c (xi_ok60_0) (xi_c (xi_ok60_1) (xi_ok60_2))
def xi_61 (pc : Nat) : XIs := []
theorem xi_ok61 (pc : Nat) : xi_ok cX1_readFactor (xi_61 pc) = true := rfl
def xi_62_0 : XIs := [(0, .aload_n 1, 1), (1, .getfield 80, 3), (4, .istore_n 2, 1), (5, .aload_n 1, 1), (6, .getfield 68, 3), (9, .iconst 1, 1), (10, .if_icmp .ne 36, 3), (13, .ldc 102, 2), (15, .bipush 97, 2), (17, .aload_n 1, 1), (18, .getfield 80, 3), (21, .iadd, 1), (22, .i2c, 1), (23, .invokevirtual 104, 3), (26, .istore_n 3, 1), (27, .iload_n 3, 1)]
set_option maxRecDepth 100000 in
theorem xi_ok62_0 : xi_ok cX1_readAtom xi_62_0 = true := by decide +kernel
def xi_62_1 : XIs := [(28, .ifCond .ge 13, 3), (31, .aload_n 1, 1), (32, .iconst 5, 1), (33, .aload_n 1, 1), (34, .getfield 98, 3), (37, .invokevirtual 46, 3), (40, .ireturn, 1), (41, .ldc 110, 2), (43, .iload_n 3, 1), (44, .iadd, 1), (45, .istore_n 2, 1), (46, .aload_n 0, 1), (47, .iload_n 2, 1), (48, .invokevirtual 84, 3), (51, .pop, 1), (52, .aload_n 1, 1)]
set_option maxRecDepth 100000 in
theorem xi_ok62_1 : xi_ok cX1_readAtom xi_62_1 = true := by decide +kernel
def xi_62_2 : XIs := [(53, .bipush 6, 2), (55, .iconst 0, 1), (56, .invokevirtual 53, 3), (59, .iconst 1, 1), (60, .ireturn, 1)]
set_option maxRecDepth 100000 in
theorem xi_ok62_2 : xi_ok cX1_readAtom xi_62_2 = true := by decide +kernel
def xi_62 (pc : Nat) : XIs := cond (Nat.blt pc 28) (xi_62_0) (cond (Nat.blt pc 53) (xi_62_1) (xi_62_2))
theorem xi_ok62 (pc : Nat) : xi_ok cX1_readAtom (xi_62 pc) = true := xi_c (xi_ok62_0) (xi_c (xi_ok62_1) (xi_ok62_2))
def xi_63_0 : XIs := [(0, .aload_n 1, 1), (1, .invokevirtual 111, 3), (4, .aload_n 0, 1), (5, .aload_n 1, 1), (6, .getfield 116, 3), (9, .putfield 119, 3), (12, .aload_n 0, 1), (13, .getfield 35, 3), (16, .lconst 0, 1), (17, .invokestatic 120, 3), (20, .aload_n 0, 1), (21, .aload_n 1, 1), (22, .iconst 0, 1), (23, .invokevirtual 126, 3), (26, .pop, 1), (27, .iconst 1, 1)]
set_option maxRecDepth 100000 in
theorem xi_ok63_0 : xi_ok cX1_work xi_63_0 = true := by decide +kernel
def xi_63_1 : XIs := [(28, .istore_n 3, 1), (29, .iload_n 3, 1), (30, .iload_n 2, 1), (31, .if_icmp .gt 35, 3), (34, .aload_n 0, 1), (35, .getfield 32, 3), (38, .iconst 0, 1), (39, .aload_n 0, 1), (40, .getfield 35, 3), (43, .iconst 0, 1), (44, .bipush 32, 2), (46, .invokestatic 71, 3), (49, .aload_n 0, 1), (50, .aload_n 1, 1), (51, .iload_n 3, 1), (52, .invokevirtual 126, 3)]
set_option maxRecDepth 100000 in
theorem xi_ok63_1 : xi_ok cX1_work xi_63_1 = true := by decide +kernel
def xi_63_2 : XIs := [(55, .ifCond .ne 5, 3), (58, .iload_n 3, 1), (59, .ireturn, 1), (60, .iinc 3 1, 3), (63, .goto (-34), 3), (66, .iload_n 2, 1), (67, .ireturn, 1)]
set_option maxRecDepth 100000 in
theorem xi_ok63_2 : xi_ok cX1_work xi_63_2 = true := by decide +kernel
def xi_63 (pc : Nat) : XIs := cond (Nat.blt pc 28) (xi_63_0) (cond (Nat.blt pc 55) (xi_63_1) (xi_63_2))
theorem xi_ok63 (pc : Nat) : xi_ok cX1_work (xi_63 pc) = true := xi_c (xi_ok63_0) (xi_c (xi_ok63_1) (xi_ok63_2))
def xi_64_0 : XIs := [(0, .iconst 0, 1), (1, .istore_n 3, 1), (2, .iconst 0, 1), (3, .istore 4, 2), (5, .iload 4, 2), (7, .aload_n 1, 1), (8, .getfield 116, 3), (11, .if_icmp .ge 78, 3), (14, .aload_n 0, 1), (15, .aload_n 1, 1), (16, .iload 4, 2), (18, .iload_n 2, 1), (19, .invokevirtual 130, 3), (22, .aload_n 0, 1), (23, .getfield 32, 3), (26, .iload 4, 2)]
set_option maxRecDepth 100000 in
theorem xi_ok64_0 : xi_ok cX1_doRound xi_64_0 = true := by decide +kernel
def xi_64_1 : XIs := [(28, .iload_n 2, 1), (29, .ifCond .ne 15, 3), (32, .aload_n 0, 1), (33, .iconst 0, 1), (34, .aload_n 0, 1), (35, .getfield 15, 3), (38, .invokevirtual 134, 3), (41, .goto 15, 3), (44, .aload_n 0, 1), (45, .aload_n 0, 1), (46, .getfield 15, 3), (49, .aload_n 0, 1), (50, .getfield 19, 3), (53, .invokevirtual 134, 3), (56, .lastore, 1), (57, .iload_n 3, 1)]
set_option maxRecDepth 100000 in
theorem xi_ok64_1 : xi_ok cX1_doRound xi_64_1 = true := by decide +kernel
def xi_64_2 : XIs := [(58, .aload_n 0, 1), (59, .getfield 32, 3), (62, .iload 4, 2), (64, .laload, 1), (65, .aload_n 0, 1), (66, .getfield 35, 3), (69, .iload 4, 2), (71, .laload, 1), (72, .lcmp, 1), (73, .ifCond .eq 7, 3), (76, .iconst 1, 1), (77, .goto 4, 3), (80, .iconst 0, 1), (81, .ior, 1), (82, .istore_n 3, 1), (83, .iinc 4 1, 3)]
set_option maxRecDepth 100000 in
theorem xi_ok64_2 : xi_ok cX1_doRound xi_64_2 = true := by decide +kernel
def xi_64_3 : XIs := [(86, .goto (-81), 3), (89, .iload_n 3, 1), (90, .ireturn, 1)]
set_option maxRecDepth 100000 in
theorem xi_ok64_3 : xi_ok cX1_doRound xi_64_3 = true := by decide +kernel
def xi_64 (pc : Nat) : XIs := cond (Nat.blt pc 58) (cond (Nat.blt pc 28) (xi_64_0) (xi_64_1)) (cond (Nat.blt pc 86) (xi_64_2) (xi_64_3))
theorem xi_ok64 (pc : Nat) : xi_ok cX1_doRound (xi_64 pc) = true := xi_c (xi_c (xi_ok64_0) (xi_ok64_1)) (xi_c (xi_ok64_2) (xi_ok64_3))
def xi_65 (pc : Nat) : XIs := []
theorem xi_ok65 (pc : Nat) : xi_ok cX1_look (xi_65 pc) = true := rfl
def xi_66 (pc : Nat) : XIs := []
theorem xi_ok66 (pc : Nat) : xi_ok cX1_compute (xi_66 pc) = true := rfl
def xi_67_0 : XIs := [(0, .iload_n 0, 1), (1, .lookupswitch 75 #[(42, 57), (43, 43), (45, 50), (60, 63)], 43), (44, .lload_n 1, 1), (45, .lload_n 3, 1), (46, .ladd, 1), (47, .invokestatic 154, 3), (50, .lreturn, 1), (51, .lload_n 1, 1), (52, .lload_n 3, 1), (53, .lsub, 1), (54, .invokestatic 154, 3), (57, .lreturn, 1), (58, .lload_n 1, 1), (59, .lload_n 3, 1), (60, .invokestatic 180, 3), (63, .lreturn, 1)]
set_option maxRecDepth 100000 in
theorem xi_ok67_0 : xi_ok cX1_combine xi_67_0 = true := by decide +kernel
def xi_67_1 : XIs := [(64, .lload_n 1, 1), (65, .lload_n 3, 1), (66, .lcmp, 1), (67, .ifCond .ge 7, 3), (70, .lconst 1, 1), (71, .goto 4, 3), (74, .lconst 0, 1), (75, .lreturn, 1), (76, .lload_n 1, 1), (77, .lload_n 3, 1), (78, .lcmp, 1), (79, .ifCond .ne 7, 3), (82, .lconst 1, 1), (83, .goto 4, 3), (86, .lconst 0, 1), (87, .lreturn, 1)]
set_option maxRecDepth 100000 in
theorem xi_ok67_1 : xi_ok cX1_combine xi_67_1 = true := by decide +kernel
def xi_67 (pc : Nat) : XIs := cond (Nat.blt pc 64) (xi_67_0) (xi_67_1)
theorem xi_ok67 (pc : Nat) : xi_ok cX1_combine (xi_67 pc) = true := xi_c (xi_ok67_0) (xi_ok67_1)
def xi_68_0 : XIs := [(0, .lload_n 0, 1), (1, .lconst 0, 1), (2, .lcmp, 1), (3, .ifCond .eq 19, 3), (6, .lload_n 2, 1), (7, .invokestatic 183, 3), (10, .ldc2_w 138, 3), (13, .lload_n 0, 1), (14, .invokestatic 183, 3), (17, .ldiv, 1), (18, .lcmp, 1), (19, .ifCond .gt 7, 3), (22, .lload_n 0, 1), (23, .lload_n 2, 1), (24, .lmul, 1), (25, .lreturn, 1)]
set_option maxRecDepth 100000 in
theorem xi_ok68_0 : xi_ok cX1_times xi_68_0 = true := by decide +kernel
def xi_68_1 : XIs := [(26, .lload_n 0, 1), (27, .lconst 0, 1), (28, .lcmp, 1), (29, .ifCond .le 7, 3), (32, .iconst 1, 1), (33, .goto 4, 3), (36, .iconst 0, 1), (37, .lload_n 2, 1), (38, .lconst 0, 1), (39, .lcmp, 1), (40, .ifCond .le 7, 3), (43, .iconst 1, 1), (44, .goto 4, 3), (47, .iconst 0, 1), (48, .if_icmp .ne 9, 3), (51, .ldc2_w 138, 3)]
set_option maxRecDepth 100000 in
theorem xi_ok68_1 : xi_ok cX1_times xi_68_1 = true := by decide +kernel
def xi_68_2 : XIs := [(54, .goto 6, 3), (57, .ldc2_w 140, 3), (60, .lreturn, 1)]
set_option maxRecDepth 100000 in
theorem xi_ok68_2 : xi_ok cX1_times xi_68_2 = true := by decide +kernel
def xi_68 (pc : Nat) : XIs := cond (Nat.blt pc 26) (xi_68_0) (cond (Nat.blt pc 54) (xi_68_1) (xi_68_2))
theorem xi_ok68 (pc : Nat) : xi_ok cX1_times (xi_68 pc) = true := xi_c (xi_ok68_0) (xi_c (xi_ok68_1) (xi_ok68_2))
def xi_69_0 : XIs := [(0, .ldc2_w 140, 3), (3, .ldc2_w 138, 3), (6, .lload_n 0, 1), (7, .invokestatic 158, 3), (10, .invokestatic 164, 3), (13, .lreturn, 1)]
set_option maxRecDepth 100000 in
theorem xi_ok69_0 : xi_ok cX1_clip xi_69_0 = true := by decide +kernel
def xi_69 (pc : Nat) : XIs := xi_69_0
theorem xi_ok69 (pc : Nat) : xi_ok cX1_clip (xi_69 pc) = true := xi_ok69_0
def xi_70 (pc : Nat) : XIs := []
theorem xi_ok70 (pc : Nat) : xi_ok cX1_post (xi_70 pc) = true := rfl
def xi_71_0 : XIs := [(0, .iload_n 1, 1), (1, .iconst 1, 1), (2, .if_icmp .ge 5, 3), (5, .iconst 0, 1), (6, .ireturn, 1), (7, .iconst 0, 1), (8, .istore_n 2, 1), (9, .iconst 0, 1), (10, .istore_n 3, 1), (11, .iload_n 3, 1), (12, .aload_n 0, 1), (13, .getfield 116, 3), (16, .if_icmp .ge 67, 3), (19, .iconst 0, 1), (20, .istore 4, 2), (22, .aload_n 0, 1)]
set_option maxRecDepth 100000 in
theorem xi_ok71_0 : xi_ok cX1_lettersOf xi_71_0 = true := by decide +kernel
def xi_71_1 : XIs := [(23, .getfield 203, 3), (26, .iload_n 3, 1), (27, .iaload, 1), (28, .istore 5, 2), (30, .iload 5, 2), (32, .ifCond .eq 29, 3), (35, .iload 4, 2), (37, .iconst 1, 1), (38, .iload 5, 2), (40, .invokestatic 206, 3), (43, .iload_n 1, 1), (44, .irem, 1), (45, .ishl, 1), (46, .ior, 1), (47, .istore 4, 2), (49, .iload 5, 2)]
set_option maxRecDepth 100000 in
theorem xi_ok71_1 : xi_ok cX1_lettersOf xi_71_1 = true := by decide +kernel
def xi_71_2 : XIs := [(51, .iload 5, 2), (53, .iconst 1, 1), (54, .isub, 1), (55, .iand, 1), (56, .istore 5, 2), (58, .goto (-28), 3), (61, .iload_n 2, 1), (62, .iload 4, 2), (64, .iconst 1, 1), (65, .iload_n 3, 1), (66, .iload_n 1, 1), (67, .irem, 1), (68, .ishl, 1), (69, .iconst (-1), 1), (70, .ixor, 1), (71, .iand, 1)]
set_option maxRecDepth 100000 in
theorem xi_ok71_2 : xi_ok cX1_lettersOf xi_71_2 = true := by decide +kernel
def xi_71_3 : XIs := [(72, .invokestatic 209, 3), (75, .iadd, 1), (76, .istore_n 2, 1), (77, .iinc 3 1, 3), (80, .goto (-69), 3), (83, .iload_n 2, 1), (84, .ireturn, 1)]
set_option maxRecDepth 100000 in
theorem xi_ok71_3 : xi_ok cX1_lettersOf xi_71_3 = true := by decide +kernel
def xi_71 (pc : Nat) : XIs := cond (Nat.blt pc 51) (cond (Nat.blt pc 23) (xi_71_0) (xi_71_1)) (cond (Nat.blt pc 72) (xi_71_2) (xi_71_3))
theorem xi_ok71 (pc : Nat) : xi_ok cX1_lettersOf (xi_71 pc) = true := xi_c (xi_c (xi_ok71_0) (xi_ok71_1)) (xi_c (xi_ok71_2) (xi_ok71_3))
def xi_72_0 : XIs := [(0, .iconst 0, 1), (1, .istore 5, 2), (3, .iconst 0, 1), (4, .istore 6, 2), (6, .iload 6, 2), (8, .iload_n 1, 1), (9, .if_icmp .ge 42, 3), (12, .aload_n 0, 1), (13, .dup, 1), (14, .getfield 186, 3), (17, .iconst 1, 1), (18, .iadd, 1), (19, .putfield 186, 3), (22, .lload_n 3, 1), (23, .ldc2_w 214, 3), (26, .aload_n 0, 1)]
set_option maxRecDepth 100000 in
theorem xi_ok72_0 : xi_ok cX1_sendAll xi_72_0 = true := by decide +kernel
def xi_72_1 : XIs := [(27, .getfield 186, 3), (30, .i2l, 1), (31, .lmul, 1), (32, .ladd, 1), (33, .invokestatic 216, 3), (36, .iload_n 2, 1), (37, .i2l, 1), (38, .lcmp, 1), (39, .ifCond .ge 6, 3), (42, .iinc 5 1, 3), (45, .iinc 6 1, 3), (48, .goto (-42), 3), (51, .aload_n 0, 1), (52, .dup, 1), (53, .getfield 189, 3), (56, .iload 5, 2)]
set_option maxRecDepth 100000 in
theorem xi_ok72_1 : xi_ok cX1_sendAll xi_72_1 = true := by decide +kernel
def xi_72_2 : XIs := [(58, .iadd, 1), (59, .putfield 189, 3), (62, .iload 5, 2), (64, .ireturn, 1)]
set_option maxRecDepth 100000 in
theorem xi_ok72_2 : xi_ok cX1_sendAll xi_72_2 = true := by decide +kernel
def xi_72 (pc : Nat) : XIs := cond (Nat.blt pc 27) (xi_72_0) (cond (Nat.blt pc 58) (xi_72_1) (xi_72_2))
theorem xi_ok72 (pc : Nat) : xi_ok cX1_sendAll (xi_72 pc) = true := xi_c (xi_ok72_0) (xi_c (xi_ok72_1) (xi_ok72_2))
def xi_73_0 : XIs := [(0, .lload_n 0, 1), (1, .lstore_n 2, 1), (2, .lload_n 2, 1), (3, .lload_n 2, 1), (4, .bipush 30, 2), (6, .lushr, 1), (7, .lxor, 1), (8, .ldc2_w 219, 3), (11, .lmul, 1), (12, .lstore_n 2, 1), (13, .lload_n 2, 1), (14, .lload_n 2, 1), (15, .bipush 27, 2), (17, .lushr, 1), (18, .lxor, 1), (19, .ldc2_w 221, 3)]
set_option maxRecDepth 100000 in
theorem xi_ok73_0 : xi_ok cX1_draw xi_73_0 = true := by decide +kernel
def xi_73_1 : XIs := [(22, .lmul, 1), (23, .lstore_n 2, 1), (24, .lload_n 2, 1), (25, .lload_n 2, 1), (26, .bipush 31, 2), (28, .lushr, 1), (29, .lxor, 1), (30, .lstore_n 2, 1), (31, .lload_n 2, 1), (32, .bipush 33, 2), (34, .lushr, 1), (35, .ldc2_w 223, 3), (38, .lrem, 1), (39, .lreturn, 1)]
set_option maxRecDepth 100000 in
theorem xi_ok73_1 : xi_ok cX1_draw xi_73_1 = true := by decide +kernel
def xi_73 (pc : Nat) : XIs := cond (Nat.blt pc 22) (xi_73_0) (xi_73_1)
theorem xi_ok73 (pc : Nat) : xi_ok cX1_draw (xi_73 pc) = true := xi_c (xi_ok73_0) (xi_ok73_1)
def xi_74 (pc : Nat) : XIs := []
theorem xi_ok74 (pc : Nat) : xi_ok cX2_init (xi_74 pc) = true := rfl
def xi_75_0 : XIs := [(0, .aload_n 0, 1), (1, .getfield 9, 3), (4, .aload_n 1, 1), (5, .getfield 50, 3), (8, .if_icmp .ne 24, 3), (11, .aload_n 0, 1), (12, .getfield 55, 3), (15, .iload_n 2, 1), (16, .if_icmp .ne 16, 3), (19, .aload_n 0, 1), (20, .getfield 58, 3), (23, .iload_n 3, 1), (24, .if_icmp .ne 8, 3), (27, .aload_n 0, 1), (28, .getfield 61, 3), (31, .lreturn, 1)]
set_option maxRecDepth 100000 in
theorem xi_ok75_0 : xi_ok cX2_greatest xi_75_0 = true := by decide +kernel
def xi_75_1 : XIs := [(32, .aload_n 0, 1), (33, .aload_n 1, 1), (34, .getfield 50, 3), (37, .putfield 9, 3), (40, .aload_n 0, 1), (41, .iload_n 2, 1), (42, .putfield 55, 3), (45, .aload_n 0, 1), (46, .iload_n 3, 1), (47, .putfield 58, 3), (50, .aload_n 0, 1), (51, .lconst 0, 1), (52, .putfield 61, 3), (55, .aload_n 0, 1), (56, .aload_n 1, 1), (57, .invokevirtual 65, 3)]
set_option maxRecDepth 100000 in
theorem xi_ok75_1 : xi_ok cX2_greatest xi_75_1 = true := by decide +kernel
def xi_75_2 : XIs := [(60, .iconst 0, 1), (61, .istore 4, 2), (63, .iload 4, 2), (65, .ldc 69, 2), (67, .if_icmp .ge 34, 3), (70, .aload_n 0, 1), (71, .iload_n 2, 1), (72, .iload_n 3, 1), (73, .invokevirtual 70, 3), (76, .ifCond .eq 25, 3), (79, .aload_n 0, 1), (80, .dup, 1), (81, .getfield 61, 3), (84, .aload_n 0, 1), (85, .iload_n 2, 1), (86, .iload_n 3, 1)]
set_option maxRecDepth 100000 in
theorem xi_ok75_2 : xi_ok cX2_greatest xi_75_2 = true := by decide +kernel
def xi_75_3 : XIs := [(87, .invokevirtual 74, 3), (90, .i2l, 1), (91, .ladd, 1), (92, .putfield 61, 3), (95, .iinc 4 1, 3), (98, .goto (-35), 3), (101, .aload_n 0, 1), (102, .getfield 61, 3), (105, .lreturn, 1)]
set_option maxRecDepth 100000 in
theorem xi_ok75_3 : xi_ok cX2_greatest xi_75_3 = true := by decide +kernel
def xi_75 (pc : Nat) : XIs := cond (Nat.blt pc 60) (cond (Nat.blt pc 32) (xi_75_0) (xi_75_1)) (cond (Nat.blt pc 87) (xi_75_2) (xi_75_3))
theorem xi_ok75 (pc : Nat) : xi_ok cX2_greatest (xi_75 pc) = true := xi_c (xi_c (xi_ok75_0) (xi_ok75_1)) (xi_c (xi_ok75_2) (xi_ok75_3))
def xi_76_0 : XIs := [(0, .aload_n 0, 1), (1, .getfield 15, 3), (4, .iconst 0, 1), (5, .invokestatic 78, 3), (8, .aload_n 0, 1), (9, .getfield 19, 3), (12, .iconst 0, 1), (13, .invokestatic 78, 3), (16, .iconst 0, 1), (17, .istore_n 2, 1), (18, .iload_n 2, 1), (19, .aload_n 1, 1), (20, .getfield 84, 3), (23, .if_icmp .ge 78, 3), (26, .aload_n 1, 1), (27, .iload_n 2, 1)]
set_option maxRecDepth 100000 in
theorem xi_ok76_0 : xi_ok cX2_openAll xi_76_0 = true := by decide +kernel
def xi_76_1 : XIs := [(28, .invokevirtual 87, 3), (31, .ifCond .eq 64, 3), (34, .aload_n 1, 1), (35, .getfield 91, 3), (38, .iload_n 2, 1), (39, .iaload, 1), (40, .ifCond .le 55, 3), (43, .aload_n 0, 1), (44, .getfield 15, 3), (47, .aload_n 1, 1), (48, .getfield 94, 3), (51, .iload_n 2, 1), (52, .iaload, 1), (53, .bipush 32, 2), (55, .imul, 1), (56, .aload_n 1, 1)]
set_option maxRecDepth 100000 in
theorem xi_ok76_1 : xi_ok cX2_openAll xi_76_1 = true := by decide +kernel
def xi_76_2 : XIs := [(57, .getfield 97, 3), (60, .iload_n 2, 1), (61, .iaload, 1), (62, .iadd, 1), (63, .dup2, 1), (64, .iaload, 1), (65, .aload_n 1, 1), (66, .getfield 91, 3), (69, .iload_n 2, 1), (70, .iaload, 1), (71, .iadd, 1), (72, .iastore, 1), (73, .aload_n 0, 1), (74, .getfield 19, 3), (77, .aload_n 1, 1), (78, .getfield 94, 3)]
set_option maxRecDepth 100000 in
theorem xi_ok76_2 : xi_ok cX2_openAll xi_76_2 = true := by decide +kernel
def xi_76_3 : XIs := [(81, .iload_n 2, 1), (82, .iaload, 1), (83, .dup2, 1), (84, .iaload, 1), (85, .iconst 1, 1), (86, .aload_n 1, 1), (87, .getfield 97, 3), (90, .iload_n 2, 1), (91, .iaload, 1), (92, .ishl, 1), (93, .ior, 1), (94, .iastore, 1), (95, .iinc 2 1, 3), (98, .goto (-80), 3), (101, .return_, 1)]
set_option maxRecDepth 100000 in
theorem xi_ok76_3 : xi_ok cX2_openAll xi_76_3 = true := by decide +kernel
def xi_76 (pc : Nat) : XIs := cond (Nat.blt pc 57) (cond (Nat.blt pc 28) (xi_76_0) (xi_76_1)) (cond (Nat.blt pc 81) (xi_76_2) (xi_76_3))
theorem xi_ok76 (pc : Nat) : xi_ok cX2_openAll (xi_76 pc) = true := xi_c (xi_c (xi_ok76_0) (xi_ok76_1)) (xi_c (xi_ok76_2) (xi_ok76_3))
def xi_77 (pc : Nat) : XIs := []
theorem xi_ok77 (pc : Nat) : xi_ok cX2_reach (xi_77 pc) = true := rfl
def xi_78 (pc : Nat) : XIs := []
theorem xi_ok78 (pc : Nat) : xi_ok cX2_push (xi_78 pc) = true := rfl
def xi_79 (pc : Nat) : XIs := []
theorem xi_ok79 (pc : Nat) : xi_ok cX2_cheapest (xi_79 pc) = true := rfl
def xi_80_0 : XIs := [(0, .aload_n 0, 1), (1, .getfield 40, 3), (4, .iconst 0, 1), (5, .invokestatic 78, 3), (8, .aload_n 0, 1), (9, .iconst 0, 1), (10, .putfield 136, 3), (13, .lconst 0, 1), (14, .lstore_n 2, 1), (15, .iconst 0, 1), (16, .istore 4, 2), (18, .iload 4, 2), (20, .aload_n 1, 1), (21, .getfield 84, 3), (24, .if_icmp .ge 94, 3), (27, .aload_n 1, 1)]
set_option maxRecDepth 100000 in
theorem xi_ok80_0 : xi_ok cX2_layArcs xi_80_0 = true := by decide +kernel
def xi_80_1 : XIs := [(28, .iload 4, 2), (30, .invokevirtual 87, 3), (33, .ifCond .eq 38, 3), (36, .aload_n 0, 1), (37, .aload_n 1, 1), (38, .getfield 94, 3), (41, .iload 4, 2), (43, .iaload, 1), (44, .aload_n 1, 1), (45, .getfield 97, 3), (48, .iload 4, 2), (50, .iaload, 1), (51, .aload_n 1, 1), (52, .getfield 139, 3), (55, .iload 4, 2), (57, .iaload, 1)]
set_option maxRecDepth 100000 in
theorem xi_ok80_1 : xi_ok cX2_layArcs xi_80_1 = true := by decide +kernel
def xi_80_2 : XIs := [(58, .aload_n 1, 1), (59, .getfield 91, 3), (62, .iload 4, 2), (64, .iaload, 1), (65, .invokevirtual 142, 3), (68, .goto 44, 3), (71, .aload_n 1, 1), (72, .getfield 94, 3), (75, .iload 4, 2), (77, .iaload, 1), (78, .iconst (-1), 1), (79, .if_icmp .eq 33, 3), (82, .aload_n 1, 1), (83, .getfield 139, 3), (86, .iload 4, 2), (88, .iaload, 1)]
set_option maxRecDepth 100000 in
theorem xi_ok80_2 : xi_ok cX2_layArcs xi_80_2 = true := by decide +kernel
def xi_80_3 : XIs := [(89, .ifCond .ge 23, 3), (92, .lload_n 2, 1), (93, .aload_n 1, 1), (94, .getfield 139, 3), (97, .iload 4, 2), (99, .iaload, 1), (100, .i2l, 1), (101, .aload_n 1, 1), (102, .getfield 91, 3), (105, .iload 4, 2), (107, .iaload, 1), (108, .i2l, 1), (109, .lmul, 1), (110, .ladd, 1), (111, .lstore_n 2, 1), (112, .iinc 4 1, 3)]
set_option maxRecDepth 100000 in
theorem xi_ok80_3 : xi_ok cX2_layArcs xi_80_3 = true := by decide +kernel
def xi_80_4 : XIs := [(115, .goto (-97), 3), (118, .lload_n 2, 1), (119, .lreturn, 1)]
set_option maxRecDepth 100000 in
theorem xi_ok80_4 : xi_ok cX2_layArcs xi_80_4 = true := by decide +kernel
def xi_80 (pc : Nat) : XIs := cond (Nat.blt pc 58) (cond (Nat.blt pc 28) (xi_80_0) (xi_80_1)) (cond (Nat.blt pc 89) (xi_80_2) (cond (Nat.blt pc 115) (xi_80_3) (xi_80_4)))
theorem xi_ok80 (pc : Nat) : xi_ok cX2_layArcs (xi_80 pc) = true := xi_c (xi_c (xi_ok80_0) (xi_ok80_1)) (xi_c (xi_ok80_2) (xi_c (xi_ok80_3) (xi_ok80_4)))
def xi_81_0 : XIs := [(0, .aload_n 0, 1), (1, .getfield 43, 3), (4, .lconst 0, 1), (5, .invokestatic 146, 3), (8, .aload_n 0, 1), (9, .iload_n 1, 1), (10, .iload_n 2, 1), (11, .invokevirtual 149, 3), (14, .iconst 0, 1), (15, .istore 4, 2), (17, .iload 4, 2), (19, .aload_n 0, 1), (20, .getfield 136, 3), (23, .if_icmp .ge 118, 3), (26, .aload_n 0, 1), (27, .getfield 43, 3)]
set_option maxRecDepth 100000 in
theorem xi_ok81_0 : xi_ok cX2_turnEarners xi_81_0 = true := by decide +kernel
def xi_81_1 : XIs := [(30, .aload_n 0, 1), (31, .getfield 25, 3), (34, .iload 4, 2), (36, .iaload, 1), (37, .laload, 1), (38, .aload_n 0, 1), (39, .getfield 31, 3), (42, .iload 4, 2), (44, .iaload, 1), (45, .i2l, 1), (46, .ladd, 1), (47, .aload_n 0, 1), (48, .getfield 43, 3), (51, .aload_n 0, 1), (52, .getfield 28, 3), (55, .iload 4, 2)]
set_option maxRecDepth 100000 in
theorem xi_ok81_1 : xi_ok cX2_turnEarners xi_81_1 = true := by decide +kernel
def xi_81_2 : XIs := [(57, .iaload, 1), (58, .laload, 1), (59, .lsub, 1), (60, .lstore 5, 2), (62, .aload_n 0, 1), (63, .getfield 34, 3), (66, .iload 4, 2), (68, .iaload, 1), (69, .aload_n 0, 1), (70, .getfield 37, 3), (73, .iload 4, 2), (75, .iaload, 1), (76, .isub, 1), (77, .istore 7, 2), (79, .lload 5, 2), (81, .lconst 0, 1)]
set_option maxRecDepth 100000 in
theorem xi_ok81_2 : xi_ok cX2_turnEarners xi_81_2 = true := by decide +kernel
def xi_81_3 : XIs := [(82, .lcmp, 1), (83, .ifCond .ge 20, 3), (86, .iload 7, 2), (88, .iload_n 3, 1), (89, .if_icmp .lt 14, 3), (92, .aload_n 0, 1), (93, .iload 4, 2), (95, .iload 7, 2), (97, .invokevirtual 152, 3), (100, .goto 35, 3), (103, .lload 5, 2), (105, .lconst 0, 1), (106, .lcmp, 1), (107, .ifCond .le 28, 3), (110, .aload_n 0, 1), (111, .getfield 37, 3)]
set_option maxRecDepth 100000 in
theorem xi_ok81_3 : xi_ok cX2_turnEarners xi_81_3 = true := by decide +kernel
def xi_81_4 : XIs := [(114, .iload 4, 2), (116, .iaload, 1), (117, .iload_n 3, 1), (118, .if_icmp .lt 17, 3), (121, .aload_n 0, 1), (122, .iload 4, 2), (124, .aload_n 0, 1), (125, .getfield 37, 3), (128, .iload 4, 2), (130, .iaload, 1), (131, .ineg, 1), (132, .invokevirtual 152, 3), (135, .iinc 4 1, 3), (138, .goto (-121), 3), (141, .return_, 1)]
set_option maxRecDepth 100000 in
theorem xi_ok81_4 : xi_ok cX2_turnEarners xi_81_4 = true := by decide +kernel
def xi_81 (pc : Nat) : XIs := cond (Nat.blt pc 57) (cond (Nat.blt pc 30) (xi_81_0) (xi_81_1)) (cond (Nat.blt pc 82) (xi_81_2) (cond (Nat.blt pc 114) (xi_81_3) (xi_81_4)))
theorem xi_ok81 (pc : Nat) : xi_ok cX2_turnEarners (xi_81 pc) = true := xi_c (xi_c (xi_ok81_0) (xi_ok81_1)) (xi_c (xi_ok81_2) (xi_c (xi_ok81_3) (xi_ok81_4)))
def xi_82_0 : XIs := [(0, .aload_n 0, 1), (1, .getfield 37, 3), (4, .iload_n 1, 1), (5, .dup2, 1), (6, .iaload, 1), (7, .iload_n 2, 1), (8, .iadd, 1), (9, .iastore, 1), (10, .aload_n 0, 1), (11, .getfield 40, 3), (14, .aload_n 0, 1), (15, .getfield 28, 3), (18, .iload_n 1, 1), (19, .iaload, 1), (20, .dup2, 1), (21, .iaload, 1)]
set_option maxRecDepth 100000 in
theorem xi_ok82_0 : xi_ok cX2_turn xi_82_0 = true := by decide +kernel
def xi_82_1 : XIs := [(22, .iload_n 2, 1), (23, .iadd, 1), (24, .iastore, 1), (25, .aload_n 0, 1), (26, .getfield 40, 3), (29, .aload_n 0, 1), (30, .getfield 25, 3), (33, .iload_n 1, 1), (34, .iaload, 1), (35, .dup2, 1), (36, .iaload, 1), (37, .iload_n 2, 1), (38, .isub, 1), (39, .iastore, 1), (40, .return_, 1)]
set_option maxRecDepth 100000 in
theorem xi_ok82_1 : xi_ok cX2_turn xi_82_1 = true := by decide +kernel
def xi_82 (pc : Nat) : XIs := cond (Nat.blt pc 22) (xi_82_0) (xi_82_1)
theorem xi_ok82 (pc : Nat) : xi_ok cX2_turn (xi_82 pc) = true := xi_c (xi_ok82_0) (xi_ok82_1)
def xi_83_0 : XIs := [(0, .iconst 0, 1), (1, .istore_n 3, 1), (2, .iload_n 3, 1), (3, .ldc 69, 2), (5, .if_icmp .ge 31, 3), (8, .aload_n 0, 1), (9, .iload_n 1, 1), (10, .iload_n 2, 1), (11, .invokevirtual 155, 3), (14, .istore 4, 2), (16, .iload 4, 2), (18, .iconst (-1), 1), (19, .if_icmp .ne 4, 3), (22, .return_, 1), (23, .aload_n 0, 1), (24, .iload 4, 2)]
set_option maxRecDepth 100000 in
theorem xi_ok83_0 : xi_ok cX2_carryAll xi_83_0 = true := by decide +kernel
def xi_83_1 : XIs := [(26, .invokevirtual 158, 3), (29, .pop2, 1), (30, .iinc 3 1, 3), (33, .goto (-31), 3), (36, .return_, 1)]
set_option maxRecDepth 100000 in
theorem xi_ok83_1 : xi_ok cX2_carryAll xi_83_1 = true := by decide +kernel
def xi_83 (pc : Nat) : XIs := cond (Nat.blt pc 26) (xi_83_0) (xi_83_1)
theorem xi_ok83 (pc : Nat) : xi_ok cX2_carryAll (xi_83 pc) = true := xi_c (xi_ok83_0) (xi_ok83_1)
def xi_84_0 : XIs := [(0, .aload_n 0, 1), (1, .getfield 136, 3), (4, .sipush 160, 3), (7, .if_icmp .ge 64, 3), (10, .aload_n 0, 1), (11, .getfield 25, 3), (14, .aload_n 0, 1), (15, .getfield 136, 3), (18, .iload_n 1, 1), (19, .iastore, 1), (20, .aload_n 0, 1), (21, .getfield 28, 3), (24, .aload_n 0, 1), (25, .getfield 136, 3), (28, .iload_n 2, 1), (29, .iastore, 1)]
set_option maxRecDepth 100000 in
theorem xi_ok84_0 : xi_ok cX2_lay xi_84_0 = true := by decide +kernel
def xi_84_1 : XIs := [(30, .aload_n 0, 1), (31, .getfield 31, 3), (34, .aload_n 0, 1), (35, .getfield 136, 3), (38, .iload_n 3, 1), (39, .iastore, 1), (40, .aload_n 0, 1), (41, .getfield 34, 3), (44, .aload_n 0, 1), (45, .getfield 136, 3), (48, .iload 4, 2), (50, .iastore, 1), (51, .aload_n 0, 1), (52, .getfield 37, 3), (55, .aload_n 0, 1), (56, .getfield 136, 3)]
set_option maxRecDepth 100000 in
theorem xi_ok84_1 : xi_ok cX2_lay xi_84_1 = true := by decide +kernel
def xi_84_2 : XIs := [(59, .iconst 0, 1), (60, .iastore, 1), (61, .aload_n 0, 1), (62, .dup, 1), (63, .getfield 136, 3), (66, .iconst 1, 1), (67, .iadd, 1), (68, .putfield 136, 3), (71, .return_, 1)]
set_option maxRecDepth 100000 in
theorem xi_ok84_2 : xi_ok cX2_lay xi_84_2 = true := by decide +kernel
def xi_84 (pc : Nat) : XIs := cond (Nat.blt pc 30) (xi_84_0) (cond (Nat.blt pc 59) (xi_84_1) (xi_84_2))
theorem xi_ok84 (pc : Nat) : xi_ok cX2_lay (xi_84 pc) = true := xi_c (xi_ok84_0) (xi_c (xi_ok84_1) (xi_ok84_2))
def xi_85_0 : XIs := [(0, .iconst 0, 1), (1, .istore_n 3, 1), (2, .iload_n 3, 1), (3, .iload_n 1, 1), (4, .if_icmp .ge 39, 3), (7, .aload_n 0, 1), (8, .getfield 43, 3), (11, .iload_n 3, 1), (12, .aload_n 0, 1), (13, .getfield 40, 3), (16, .iload_n 3, 1), (17, .iaload, 1), (18, .iload_n 2, 1), (19, .if_icmp .lt 7, 3), (22, .lconst 0, 1), (23, .goto 6, 3)]
set_option maxRecDepth 100000 in
theorem xi_ok85_0 : xi_ok cX2_nearestLack xi_85_0 = true := by decide +kernel
def xi_85_1 : XIs := [(26, .ldc2_w 162, 3), (29, .lastore, 1), (30, .aload_n 0, 1), (31, .getfield 22, 3), (34, .iload_n 3, 1), (35, .iconst (-1), 1), (36, .iastore, 1), (37, .iinc 3 1, 3), (40, .goto (-38), 3), (43, .aload_n 0, 1), (44, .iload_n 1, 1), (45, .iload_n 2, 1), (46, .invokevirtual 149, 3), (49, .iconst (-1), 1), (50, .istore_n 3, 1), (51, .iconst 0, 1)]
set_option maxRecDepth 100000 in
theorem xi_ok85_1 : xi_ok cX2_nearestLack xi_85_1 = true := by decide +kernel
def xi_85_2 : XIs := [(52, .istore 4, 2), (54, .iload 4, 2), (56, .iload_n 1, 1), (57, .if_icmp .ge 60, 3), (60, .aload_n 0, 1), (61, .getfield 40, 3), (64, .iload 4, 2), (66, .iaload, 1), (67, .iload_n 2, 1), (68, .ineg, 1), (69, .if_icmp .gt 42, 3), (72, .aload_n 0, 1), (73, .getfield 43, 3), (76, .iload 4, 2), (78, .laload, 1), (79, .ldc2_w 162, 3)]
set_option maxRecDepth 100000 in
theorem xi_ok85_2 : xi_ok cX2_nearestLack xi_85_2 = true := by decide +kernel
def xi_85_3 : XIs := [(82, .lcmp, 1), (83, .ifCond .eq 28, 3), (86, .iload_n 3, 1), (87, .iconst (-1), 1), (88, .if_icmp .eq 20, 3), (91, .aload_n 0, 1), (92, .getfield 43, 3), (95, .iload 4, 2), (97, .laload, 1), (98, .aload_n 0, 1), (99, .getfield 43, 3), (102, .iload_n 3, 1), (103, .laload, 1), (104, .lcmp, 1), (105, .ifCond .ge 6, 3), (108, .iload 4, 2)]
set_option maxRecDepth 100000 in
theorem xi_ok85_3 : xi_ok cX2_nearestLack xi_85_3 = true := by decide +kernel
def xi_85_4 : XIs := [(110, .istore_n 3, 1), (111, .iinc 4 1, 3), (114, .goto (-60), 3), (117, .iload_n 3, 1), (118, .ireturn, 1)]
set_option maxRecDepth 100000 in
theorem xi_ok85_4 : xi_ok cX2_nearestLack xi_85_4 = true := by decide +kernel
def xi_85 (pc : Nat) : XIs := cond (Nat.blt pc 52) (cond (Nat.blt pc 26) (xi_85_0) (xi_85_1)) (cond (Nat.blt pc 82) (xi_85_2) (cond (Nat.blt pc 110) (xi_85_3) (xi_85_4)))
theorem xi_ok85 (pc : Nat) : xi_ok cX2_nearestLack (xi_85 pc) = true := xi_c (xi_c (xi_ok85_0) (xi_ok85_1)) (xi_c (xi_ok85_2) (xi_c (xi_ok85_3) (xi_ok85_4)))
def xi_86_0 : XIs := [(0, .iconst 1, 1), (1, .istore_n 3, 1), (2, .iconst 0, 1), (3, .istore 4, 2), (5, .iload 4, 2), (7, .iload_n 1, 1), (8, .if_icmp .gt 43, 3), (11, .iload_n 3, 1), (12, .ifCond .eq 39, 3), (15, .iconst 0, 1), (16, .istore_n 3, 1), (17, .iconst 0, 1), (18, .istore 5, 2), (20, .iload 5, 2), (22, .aload_n 0, 1), (23, .getfield 136, 3)]
set_option maxRecDepth 100000 in
theorem xi_ok86_0 : xi_ok cX2_relaxAll xi_86_0 = true := by decide +kernel
def xi_86_1 : XIs := [(26, .if_icmp .ge 19, 3), (29, .iload_n 3, 1), (30, .aload_n 0, 1), (31, .iload 5, 2), (33, .iload_n 2, 1), (34, .invokevirtual 164, 3), (37, .ior, 1), (38, .istore_n 3, 1), (39, .iinc 5 1, 3), (42, .goto (-22), 3), (45, .iinc 4 1, 3), (48, .goto (-43), 3), (51, .return_, 1)]
set_option maxRecDepth 100000 in
theorem xi_ok86_1 : xi_ok cX2_relaxAll xi_86_1 = true := by decide +kernel
def xi_86 (pc : Nat) : XIs := cond (Nat.blt pc 26) (xi_86_0) (xi_86_1)
theorem xi_ok86 (pc : Nat) : xi_ok cX2_relaxAll (xi_86 pc) = true := xi_c (xi_ok86_0) (xi_ok86_1)
def xi_87_0 : XIs := [(0, .aload_n 0, 1), (1, .getfield 25, 3), (4, .iload_n 1, 1), (5, .iaload, 1), (6, .istore_n 3, 1), (7, .aload_n 0, 1), (8, .getfield 28, 3), (11, .iload_n 1, 1), (12, .iaload, 1), (13, .istore 4, 2), (15, .aload_n 0, 1), (16, .getfield 34, 3), (19, .iload_n 1, 1), (20, .iaload, 1), (21, .aload_n 0, 1), (22, .getfield 37, 3)]
set_option maxRecDepth 100000 in
theorem xi_ok87_0 : xi_ok cX2_relaxPipe xi_87_0 = true := by decide +kernel
def xi_87_1 : XIs := [(25, .iload_n 1, 1), (26, .iaload, 1), (27, .isub, 1), (28, .iload_n 2, 1), (29, .if_icmp .lt 74, 3), (32, .aload_n 0, 1), (33, .getfield 43, 3), (36, .iload_n 3, 1), (37, .laload, 1), (38, .ldc2_w 162, 3), (41, .lcmp, 1), (42, .ifCond .eq 61, 3), (45, .aload_n 0, 1), (46, .getfield 43, 3), (49, .iload_n 3, 1), (50, .laload, 1)]
set_option maxRecDepth 100000 in
theorem xi_ok87_1 : xi_ok cX2_relaxPipe xi_87_1 = true := by decide +kernel
def xi_87_2 : XIs := [(51, .aload_n 0, 1), (52, .getfield 31, 3), (55, .iload_n 1, 1), (56, .iaload, 1), (57, .i2l, 1), (58, .ladd, 1), (59, .aload_n 0, 1), (60, .getfield 43, 3), (63, .iload 4, 2), (65, .laload, 1), (66, .lcmp, 1), (67, .ifCond .ge 36, 3), (70, .aload_n 0, 1), (71, .getfield 43, 3), (74, .iload 4, 2), (76, .aload_n 0, 1)]
set_option maxRecDepth 100000 in
theorem xi_ok87_2 : xi_ok cX2_relaxPipe xi_87_2 = true := by decide +kernel
def xi_87_3 : XIs := [(77, .getfield 43, 3), (80, .iload_n 3, 1), (81, .laload, 1), (82, .aload_n 0, 1), (83, .getfield 31, 3), (86, .iload_n 1, 1), (87, .iaload, 1), (88, .i2l, 1), (89, .ladd, 1), (90, .lastore, 1), (91, .aload_n 0, 1), (92, .getfield 22, 3), (95, .iload 4, 2), (97, .iconst 2, 1), (98, .iload_n 1, 1), (99, .imul, 1)]
set_option maxRecDepth 100000 in
theorem xi_ok87_3 : xi_ok cX2_relaxPipe xi_87_3 = true := by decide +kernel
def xi_87_4 : XIs := [(100, .iastore, 1), (101, .iconst 1, 1), (102, .ireturn, 1), (103, .aload_n 0, 1), (104, .getfield 37, 3), (107, .iload_n 1, 1), (108, .iaload, 1), (109, .iload_n 2, 1), (110, .if_icmp .lt 76, 3), (113, .aload_n 0, 1), (114, .getfield 43, 3), (117, .iload 4, 2), (119, .laload, 1), (120, .ldc2_w 162, 3), (123, .lcmp, 1), (124, .ifCond .eq 62, 3)]
set_option maxRecDepth 100000 in
theorem xi_ok87_4 : xi_ok cX2_relaxPipe xi_87_4 = true := by decide +kernel
def xi_87_5 : XIs := [(127, .aload_n 0, 1), (128, .getfield 43, 3), (131, .iload 4, 2), (133, .laload, 1), (134, .aload_n 0, 1), (135, .getfield 31, 3), (138, .iload_n 1, 1), (139, .iaload, 1), (140, .i2l, 1), (141, .lsub, 1), (142, .aload_n 0, 1), (143, .getfield 43, 3), (146, .iload_n 3, 1), (147, .laload, 1), (148, .lcmp, 1), (149, .ifCond .ge 37, 3)]
set_option maxRecDepth 100000 in
theorem xi_ok87_5 : xi_ok cX2_relaxPipe xi_87_5 = true := by decide +kernel
def xi_87_6 : XIs := [(152, .aload_n 0, 1), (153, .getfield 43, 3), (156, .iload_n 3, 1), (157, .aload_n 0, 1), (158, .getfield 43, 3), (161, .iload 4, 2), (163, .laload, 1), (164, .aload_n 0, 1), (165, .getfield 31, 3), (168, .iload_n 1, 1), (169, .iaload, 1), (170, .i2l, 1), (171, .lsub, 1), (172, .lastore, 1), (173, .aload_n 0, 1), (174, .getfield 22, 3)]
set_option maxRecDepth 100000 in
theorem xi_ok87_6 : xi_ok cX2_relaxPipe xi_87_6 = true := by decide +kernel
def xi_87_7 : XIs := [(177, .iload_n 3, 1), (178, .iconst 2, 1), (179, .iload_n 1, 1), (180, .imul, 1), (181, .iconst 1, 1), (182, .iadd, 1), (183, .iastore, 1), (184, .iconst 1, 1), (185, .ireturn, 1), (186, .iconst 0, 1), (187, .ireturn, 1)]
set_option maxRecDepth 100000 in
theorem xi_ok87_7 : xi_ok cX2_relaxPipe xi_87_7 = true := by decide +kernel
def xi_87 (pc : Nat) : XIs := cond (Nat.blt pc 100) (cond (Nat.blt pc 51) (cond (Nat.blt pc 25) (xi_87_0) (xi_87_1)) (cond (Nat.blt pc 77) (xi_87_2) (xi_87_3))) (cond (Nat.blt pc 152) (cond (Nat.blt pc 127) (xi_87_4) (xi_87_5)) (cond (Nat.blt pc 177) (xi_87_6) (xi_87_7)))
theorem xi_ok87 (pc : Nat) : xi_ok cX2_relaxPipe (xi_87 pc) = true := xi_c (xi_c (xi_c (xi_ok87_0) (xi_ok87_1)) (xi_c (xi_ok87_2) (xi_ok87_3))) (xi_c (xi_c (xi_ok87_4) (xi_ok87_5)) (xi_c (xi_ok87_6) (xi_ok87_7)))
def xi_88 (pc : Nat) : XIs := []
theorem xi_ok88 (pc : Nat) : xi_ok cX2_carryTo (xi_88 pc) = true := rfl
def xi_89 (pc : Nat) : XIs := []
theorem xi_ok89 (pc : Nat) : xi_ok cX2_pair (xi_89 pc) = true := rfl
def xi_90_0 : XIs := [(0, .aload_n 0, 1), (1, .getfield 177, 3), (4, .iload_n 1, 1), (5, .iaload, 1), (6, .bipush 13, 2), (8, .if_icmp .ge 7, 3), (11, .iconst 1, 1), (12, .goto 4, 3), (15, .iconst 0, 1), (16, .ireturn, 1)]
set_option maxRecDepth 100000 in
theorem xi_ok90_0 : xi_ok cX2_isLow xi_90_0 = true := by decide +kernel
def xi_90 (pc : Nat) : XIs := xi_90_0
theorem xi_ok90 (pc : Nat) : xi_ok cX2_isLow (xi_90 pc) = true := xi_ok90_0
def xi_91 (pc : Nat) : XIs := []
theorem xi_ok91 (pc : Nat) : xi_ok cX3_init (xi_91 pc) = true := rfl
def xi_92_0 : XIs := [(0, .aload_n 0, 1), (1, .iconst 0, 1), (2, .putfield 61, 3), (5, .aload_n 0, 1), (6, .iconst 0, 1), (7, .putfield 64, 3), (10, .aload_n 0, 1), (11, .iconst 0, 1), (12, .putfield 67, 3), (15, .aload_n 0, 1), (16, .iconst 0, 1), (17, .putfield 70, 3), (20, .aload_n 0, 1), (21, .iconst (-1), 1), (22, .putfield 51, 3), (25, .aload_n 0, 1)]
set_option maxRecDepth 100000 in
theorem xi_ok92_0 : xi_ok cX3_clear xi_92_0 = true := by decide +kernel
def xi_92_1 : XIs := [(26, .getfield 15, 3), (29, .iconst (-1), 1), (30, .invokestatic 55, 3), (33, .return_, 1)]
set_option maxRecDepth 100000 in
theorem xi_ok92_1 : xi_ok cX3_clear xi_92_1 = true := by decide +kernel
def xi_92 (pc : Nat) : XIs := cond (Nat.blt pc 26) (xi_92_0) (xi_92_1)
theorem xi_ok92 (pc : Nat) : xi_ok cX3_clear (xi_92 pc) = true := xi_c (xi_ok92_0) (xi_ok92_1)
def xi_93_0 : XIs := [(0, .aload_n 0, 1), (1, .aload_n 1, 1), (2, .getfield 61, 3), (5, .putfield 61, 3), (8, .aload_n 0, 1), (9, .aload_n 1, 1), (10, .getfield 64, 3), (13, .putfield 64, 3), (16, .aload_n 0, 1), (17, .aload_n 1, 1), (18, .getfield 67, 3), (21, .putfield 67, 3), (24, .aload_n 0, 1), (25, .aload_n 1, 1), (26, .getfield 70, 3), (29, .putfield 70, 3)]
set_option maxRecDepth 100000 in
theorem xi_ok93_0 : xi_ok cX3_copyOf xi_93_0 = true := by decide +kernel
def xi_93_1 : XIs := [(32, .aload_n 0, 1), (33, .iconst (-1), 1), (34, .putfield 51, 3), (37, .aload_n 1, 1), (38, .getfield 9, 3), (41, .iconst 0, 1), (42, .aload_n 0, 1), (43, .getfield 9, 3), (46, .iconst 0, 1), (47, .bipush 32, 2), (49, .invokestatic 73, 3), (52, .aload_n 1, 1), (53, .getfield 15, 3), (56, .iconst 0, 1), (57, .aload_n 0, 1), (58, .getfield 15, 3)]
set_option maxRecDepth 100000 in
theorem xi_ok93_1 : xi_ok cX3_copyOf xi_93_1 = true := by decide +kernel
def xi_93_2 : XIs := [(61, .iconst 0, 1), (62, .sipush 160, 3), (65, .invokestatic 73, 3), (68, .aload_n 1, 1), (69, .getfield 18, 3), (72, .iconst 0, 1), (73, .aload_n 0, 1), (74, .getfield 18, 3), (77, .iconst 0, 1), (78, .sipush 160, 3), (81, .invokestatic 73, 3), (84, .aload_n 1, 1), (85, .getfield 21, 3), (88, .iconst 0, 1), (89, .aload_n 0, 1), (90, .getfield 21, 3)]
set_option maxRecDepth 100000 in
theorem xi_ok93_2 : xi_ok cX3_copyOf xi_93_2 = true := by decide +kernel
def xi_93_3 : XIs := [(93, .iconst 0, 1), (94, .sipush 160, 3), (97, .invokestatic 73, 3), (100, .aload_n 1, 1), (101, .getfield 24, 3), (104, .iconst 0, 1), (105, .aload_n 0, 1), (106, .getfield 24, 3), (109, .iconst 0, 1), (110, .sipush 160, 3), (113, .invokestatic 73, 3), (116, .aload_n 1, 1), (117, .getfield 27, 3), (120, .iconst 0, 1), (121, .aload_n 0, 1), (122, .getfield 27, 3)]
set_option maxRecDepth 100000 in
theorem xi_ok93_3 : xi_ok cX3_copyOf xi_93_3 = true := by decide +kernel
def xi_93_4 : XIs := [(125, .iconst 0, 1), (126, .sipush 160, 3), (129, .invokestatic 73, 3), (132, .return_, 1)]
set_option maxRecDepth 100000 in
theorem xi_ok93_4 : xi_ok cX3_copyOf xi_93_4 = true := by decide +kernel
def xi_93 (pc : Nat) : XIs := cond (Nat.blt pc 61) (cond (Nat.blt pc 32) (xi_93_0) (xi_93_1)) (cond (Nat.blt pc 93) (xi_93_2) (cond (Nat.blt pc 125) (xi_93_3) (xi_93_4)))
theorem xi_ok93 (pc : Nat) : xi_ok cX3_copyOf (xi_93 pc) = true := xi_c (xi_c (xi_ok93_0) (xi_ok93_1)) (xi_c (xi_ok93_2) (xi_c (xi_ok93_3) (xi_ok93_4)))
def xi_94_0 : XIs := [(0, .iload_n 1, 1), (1, .ifCond .lt 15, 3), (4, .iload_n 1, 1), (5, .aload_n 0, 1), (6, .getfield 64, 3), (9, .if_icmp .ge 7, 3), (12, .iconst 1, 1), (13, .goto 4, 3), (16, .iconst 0, 1), (17, .ireturn, 1)]
set_option maxRecDepth 100000 in
theorem xi_ok94_0 : xi_ok cX3_hasNode xi_94_0 = true := by decide +kernel
def xi_94 (pc : Nat) : XIs := xi_94_0
theorem xi_ok94 (pc : Nat) : xi_ok cX3_hasNode (xi_94 pc) = true := xi_ok94_0
def xi_95_0 : XIs := [(0, .aload_n 0, 1), (1, .iload_n 1, 1), (2, .invokevirtual 79, 3), (5, .ifCond .eq 20, 3), (8, .aload_n 0, 1), (9, .iload_n 2, 1), (10, .invokevirtual 79, 3), (13, .ifCond .eq 12, 3), (16, .iload_n 1, 1), (17, .iload_n 2, 1), (18, .if_icmp .eq 7, 3), (21, .iconst 1, 1), (22, .goto 4, 3), (25, .iconst 0, 1), (26, .ireturn, 1)]
set_option maxRecDepth 100000 in
theorem xi_ok95_0 : xi_ok cX3_hasTwo xi_95_0 = true := by decide +kernel
def xi_95 (pc : Nat) : XIs := xi_95_0
theorem xi_ok95 (pc : Nat) : xi_ok cX3_hasTwo (xi_95 pc) = true := xi_ok95_0
def xi_96_0 : XIs := [(0, .iload_n 1, 1), (1, .ifCond .lt 25, 3), (4, .iload_n 1, 1), (5, .aload_n 0, 1), (6, .getfield 70, 3), (9, .if_icmp .ge 17, 3), (12, .aload_n 0, 1), (13, .getfield 15, 3), (16, .iload_n 1, 1), (17, .iaload, 1), (18, .iconst (-1), 1), (19, .if_icmp .eq 7, 3), (22, .iconst 1, 1), (23, .goto 4, 3), (26, .iconst 0, 1), (27, .ireturn, 1)]
set_option maxRecDepth 100000 in
theorem xi_ok96_0 : xi_ok cX3_hasArc xi_96_0 = true := by decide +kernel
def xi_96 (pc : Nat) : XIs := xi_96_0
theorem xi_ok96 (pc : Nat) : xi_ok cX3_hasArc (xi_96 pc) = true := xi_ok96_0
def xi_97_0 : XIs := [(0, .aload_n 0, 1), (1, .getfield 15, 3), (4, .iload_n 1, 1), (5, .iaload, 1), (6, .iconst (-1), 1), (7, .if_icmp .eq 22, 3), (10, .aload_n 0, 1), (11, .getfield 15, 3), (14, .iload_n 1, 1), (15, .iaload, 1), (16, .aload_n 0, 1), (17, .getfield 18, 3), (20, .iload_n 1, 1), (21, .iaload, 1), (22, .if_icmp .eq 7, 3), (25, .iconst 1, 1)]
set_option maxRecDepth 100000 in
theorem xi_ok97_0 : xi_ok cX3_isJoint xi_97_0 = true := by decide +kernel
def xi_97_1 : XIs := [(26, .goto 4, 3), (29, .iconst 0, 1), (30, .ireturn, 1)]
set_option maxRecDepth 100000 in
theorem xi_ok97_1 : xi_ok cX3_isJoint xi_97_1 = true := by decide +kernel
def xi_97 (pc : Nat) : XIs := cond (Nat.blt pc 26) (xi_97_0) (xi_97_1)
theorem xi_ok97 (pc : Nat) : xi_ok cX3_isJoint (xi_97 pc) = true := xi_c (xi_ok97_0) (xi_ok97_1)
def xi_98_0 : XIs := [(0, .iconst 0, 1), (1, .istore_n 1, 1), (2, .iconst 0, 1), (3, .istore_n 2, 1), (4, .iload_n 2, 1), (5, .aload_n 0, 1), (6, .getfield 70, 3), (9, .if_icmp .ge 20, 3), (12, .aload_n 0, 1), (13, .iload_n 2, 1), (14, .invokevirtual 83, 3), (17, .ifCond .eq 6, 3), (20, .iinc 1 1, 3), (23, .iinc 2 1, 3), (26, .goto (-22), 3), (29, .iload_n 1, 1)]
set_option maxRecDepth 100000 in
theorem xi_ok98_0 : xi_ok cX3_joints xi_98_0 = true := by decide +kernel
def xi_98_1 : XIs := [(30, .ireturn, 1)]
set_option maxRecDepth 100000 in
theorem xi_ok98_1 : xi_ok cX3_joints xi_98_1 = true := by decide +kernel
def xi_98 (pc : Nat) : XIs := cond (Nat.blt pc 30) (xi_98_0) (xi_98_1)
theorem xi_ok98 (pc : Nat) : xi_ok cX3_joints (xi_98 pc) = true := xi_c (xi_ok98_0) (xi_ok98_1)
def xi_99_0 : XIs := [(0, .aload_n 1, 1), (1, .iconst 0, 1), (2, .invokestatic 55, 3), (5, .iconst 0, 1), (6, .istore_n 2, 1), (7, .iload_n 2, 1), (8, .aload_n 0, 1), (9, .getfield 70, 3), (12, .if_icmp .ge 41, 3), (15, .aload_n 0, 1), (16, .iload_n 2, 1), (17, .invokevirtual 83, 3), (20, .ifCond .eq 27, 3), (23, .aload_n 1, 1), (24, .aload_n 0, 1), (25, .getfield 15, 3)]
set_option maxRecDepth 100000 in
theorem xi_ok99_0 : xi_ok cX3_countJoints xi_99_0 = true := by decide +kernel
def xi_99_1 : XIs := [(28, .iload_n 2, 1), (29, .iaload, 1), (30, .dup2, 1), (31, .iaload, 1), (32, .iconst 1, 1), (33, .iadd, 1), (34, .iastore, 1), (35, .aload_n 1, 1), (36, .aload_n 0, 1), (37, .getfield 18, 3), (40, .iload_n 2, 1), (41, .iaload, 1), (42, .dup2, 1), (43, .iaload, 1), (44, .iconst 1, 1), (45, .iadd, 1)]
set_option maxRecDepth 100000 in
theorem xi_ok99_1 : xi_ok cX3_countJoints xi_99_1 = true := by decide +kernel
def xi_99_2 : XIs := [(46, .iastore, 1), (47, .iinc 2 1, 3), (50, .goto (-43), 3), (53, .return_, 1)]
set_option maxRecDepth 100000 in
theorem xi_ok99_2 : xi_ok cX3_countJoints xi_99_2 = true := by decide +kernel
def xi_99 (pc : Nat) : XIs := cond (Nat.blt pc 28) (xi_99_0) (cond (Nat.blt pc 46) (xi_99_1) (xi_99_2))
theorem xi_ok99 (pc : Nat) : xi_ok cX3_countJoints (xi_99 pc) = true := xi_c (xi_ok99_0) (xi_c (xi_ok99_1) (xi_ok99_2))
def xi_100_0 : XIs := [(0, .iload_n 2, 1), (1, .ifCond .ne 10, 3), (4, .aload_n 0, 1), (5, .getfield 21, 3), (8, .iload_n 1, 1), (9, .iaload, 1), (10, .ireturn, 1), (11, .iload_n 2, 1), (12, .iconst 1, 1), (13, .if_icmp .ne 12, 3), (16, .aload_n 0, 1), (17, .getfield 24, 3), (20, .iload_n 1, 1), (21, .iaload, 1), (22, .goto 9, 3), (25, .aload_n 0, 1)]
set_option maxRecDepth 100000 in
theorem xi_ok100_0 : xi_ok cX3_valueOf xi_100_0 = true := by decide +kernel
def xi_100_1 : XIs := [(26, .getfield 27, 3), (29, .iload_n 1, 1), (30, .iaload, 1), (31, .ireturn, 1)]
set_option maxRecDepth 100000 in
theorem xi_ok100_1 : xi_ok cX3_valueOf xi_100_1 = true := by decide +kernel
def xi_100 (pc : Nat) : XIs := cond (Nat.blt pc 26) (xi_100_0) (xi_100_1)
theorem xi_ok100 (pc : Nat) : xi_ok cX3_valueOf (xi_100 pc) = true := xi_c (xi_ok100_0) (xi_ok100_1)
def xi_101_0 : XIs := [(0, .iconst 0, 1), (1, .istore_n 1, 1), (2, .iload_n 1, 1), (3, .sipush 160, 3), (6, .if_icmp .ge 21, 3), (9, .aload_n 0, 1), (10, .getfield 15, 3), (13, .iload_n 1, 1), (14, .iaload, 1), (15, .iconst (-1), 1), (16, .if_icmp .ne 5, 3), (19, .iload_n 1, 1), (20, .ireturn, 1), (21, .iinc 1 1, 3), (24, .goto (-22), 3), (27, .iconst (-1), 1)]
set_option maxRecDepth 100000 in
theorem xi_ok101_0 : xi_ok cX3_freePlace xi_101_0 = true := by decide +kernel
def xi_101_1 : XIs := [(28, .ireturn, 1)]
set_option maxRecDepth 100000 in
theorem xi_ok101_1 : xi_ok cX3_freePlace xi_101_1 = true := by decide +kernel
def xi_101 (pc : Nat) : XIs := cond (Nat.blt pc 28) (xi_101_0) (xi_101_1)
theorem xi_ok101 (pc : Nat) : xi_ok cX3_freePlace (xi_101 pc) = true := xi_c (xi_ok101_0) (xi_ok101_1)
def xi_102_0 : XIs := [(0, .aload_n 0, 1), (1, .getfield 64, 3), (4, .bipush 32, 2), (6, .if_icmp .lt 7, 3), (9, .iconst (-1), 1), (10, .goto 11, 3), (13, .iconst 1, 1), (14, .aload_n 0, 1), (15, .getfield 64, 3), (18, .ishl, 1), (19, .iconst 1, 1), (20, .isub, 1), (21, .ireturn, 1)]
set_option maxRecDepth 100000 in
theorem xi_ok102_0 : xi_ok cX3_allNodes xi_102_0 = true := by decide +kernel
def xi_102 (pc : Nat) : XIs := xi_102_0
theorem xi_ok102 (pc : Nat) : xi_ok cX3_allNodes (xi_102 pc) = true := xi_ok102_0
def xi_103_0 : XIs := [(0, .aload_n 0, 1), (1, .getfield 39, 3), (4, .iload_n 1, 1), (5, .iconst 1, 1), (6, .iadd, 1), (7, .iaload, 1), (8, .aload_n 0, 1), (9, .getfield 39, 3), (12, .iload_n 1, 1), (13, .iaload, 1), (14, .isub, 1), (15, .ireturn, 1)]
set_option maxRecDepth 100000 in
theorem xi_ok103_0 : xi_ok cX3_outCount xi_103_0 = true := by decide +kernel
def xi_103 (pc : Nat) : XIs := xi_103_0
theorem xi_ok103 (pc : Nat) : xi_ok cX3_outCount (xi_103 pc) = true := xi_ok103_0
def xi_104_0 : XIs := [(0, .aload_n 0, 1), (1, .getfield 45, 3), (4, .iload_n 1, 1), (5, .iconst 1, 1), (6, .iadd, 1), (7, .iaload, 1), (8, .aload_n 0, 1), (9, .getfield 45, 3), (12, .iload_n 1, 1), (13, .iaload, 1), (14, .isub, 1), (15, .ireturn, 1)]
set_option maxRecDepth 100000 in
theorem xi_ok104_0 : xi_ok cX3_inCount xi_104_0 = true := by decide +kernel
def xi_104 (pc : Nat) : XIs := xi_104_0
theorem xi_ok104 (pc : Nat) : xi_ok cX3_inCount (xi_104 pc) = true := xi_ok104_0
def xi_105 (pc : Nat) : XIs := []
theorem xi_ok105 (pc : Nat) : xi_ok cX3_dropAt (xi_105 pc) = true := rfl
def xi_106 (pc : Nat) : XIs := []
theorem xi_ok106 (pc : Nat) : xi_ok cX3_tie (xi_106 pc) = true := rfl
def xi_107 (pc : Nat) : XIs := []
theorem xi_ok107 (pc : Nat) : xi_ok cX3_tieEnds (xi_107 pc) = true := rfl
def xi_108 (pc : Nat) : XIs := []
theorem xi_ok108 (pc : Nat) : xi_ok cX4_init (xi_108 pc) = true := rfl
def xi_109 (pc : Nat) : XIs := []
theorem xi_ok109 (pc : Nat) : xi_ok cX4_unitsOf (xi_109 pc) = true := rfl
def xi_110 (pc : Nat) : XIs := []
theorem xi_ok110 (pc : Nat) : xi_ok cX4_shareOut (xi_110 pc) = true := rfl
def xi_111_0 : XIs := [(0, .aload_n 0, 1), (1, .aload_n 1, 1), (2, .invokevirtual 84, 3), (5, .aload_n 0, 1), (6, .getfield 29, 3), (9, .aload_n 0, 1), (10, .getfield 25, 3), (13, .iload_n 2, 1), (14, .iaload, 1), (15, .iaload, 1), (16, .invokestatic 87, 3), (19, .ireturn, 1)]
set_option maxRecDepth 100000 in
theorem xi_ok111_0 : xi_ok cX4_groupOf xi_111_0 = true := by decide +kernel
def xi_111 (pc : Nat) : XIs := xi_111_0
theorem xi_ok111 (pc : Nat) : xi_ok cX4_groupOf (xi_111 pc) = true := xi_ok111_0
def xi_112_0 : XIs := [(0, .aload_n 0, 1), (1, .aload_n 1, 1), (2, .invokevirtual 84, 3), (5, .lconst 0, 1), (6, .lstore_n 2, 1), (7, .iconst 0, 1), (8, .istore 4, 2), (10, .iload 4, 2), (12, .aload_n 1, 1), (13, .getfield 90, 3), (16, .if_icmp .ge 57, 3), (19, .aload_n 1, 1), (20, .iload 4, 2), (22, .invokevirtual 93, 3), (25, .ifCond .eq 42, 3), (28, .aload_n 0, 1)]
set_option maxRecDepth 100000 in
theorem xi_ok112_0 : xi_ok cX4_totalGain xi_112_0 = true := by decide +kernel
def xi_112_1 : XIs := [(29, .getfield 25, 3), (32, .aload_n 1, 1), (33, .getfield 97, 3), (36, .iload 4, 2), (38, .iaload, 1), (39, .iaload, 1), (40, .aload_n 0, 1), (41, .getfield 25, 3), (44, .aload_n 1, 1), (45, .getfield 78, 3), (48, .iload 4, 2), (50, .iaload, 1), (51, .iaload, 1), (52, .if_icmp .ne 15, 3), (55, .lload_n 2, 1), (56, .ldc2_w 100, 3)]
set_option maxRecDepth 100000 in
theorem xi_ok112_1 : xi_ok cX4_totalGain xi_112_1 = true := by decide +kernel
def xi_112_2 : XIs := [(59, .aload_n 0, 1), (60, .getfield 102, 3), (63, .i2l, 1), (64, .lmul, 1), (65, .ladd, 1), (66, .lstore_n 2, 1), (67, .iinc 4 1, 3), (70, .goto (-60), 3), (73, .iconst 0, 1), (74, .istore 4, 2), (76, .iload 4, 2), (78, .aload_n 1, 1), (79, .getfield 64, 3), (82, .if_icmp .ge 42, 3), (85, .lload_n 2, 1), (86, .aload_n 0, 1)]
set_option maxRecDepth 100000 in
theorem xi_ok112_2 : xi_ok cX4_totalGain xi_112_2 = true := by decide +kernel
def xi_112_3 : XIs := [(87, .getfield 32, 3), (90, .iload 4, 2), (92, .iaload, 1), (93, .i2l, 1), (94, .aload_n 0, 1), (95, .getfield 35, 3), (98, .aload_n 0, 1), (99, .getfield 25, 3), (102, .iload 4, 2), (104, .iaload, 1), (105, .iaload, 1), (106, .aload_n 0, 1), (107, .getfield 32, 3), (110, .iload 4, 2), (112, .iaload, 1), (113, .isub, 1)]
set_option maxRecDepth 100000 in
theorem xi_ok112_3 : xi_ok cX4_totalGain xi_112_3 = true := by decide +kernel
def xi_112_4 : XIs := [(114, .i2l, 1), (115, .lmul, 1), (116, .lsub, 1), (117, .lstore_n 2, 1), (118, .iinc 4 1, 3), (121, .goto (-45), 3), (124, .lload_n 2, 1), (125, .lreturn, 1)]
set_option maxRecDepth 100000 in
theorem xi_ok112_4 : xi_ok cX4_totalGain xi_112_4 = true := by decide +kernel
def xi_112 (pc : Nat) : XIs := cond (Nat.blt pc 59) (cond (Nat.blt pc 29) (xi_112_0) (xi_112_1)) (cond (Nat.blt pc 87) (xi_112_2) (cond (Nat.blt pc 114) (xi_112_3) (xi_112_4)))
theorem xi_ok112 (pc : Nat) : xi_ok cX4_totalGain (xi_112 pc) = true := xi_c (xi_c (xi_ok112_0) (xi_ok112_1)) (xi_c (xi_ok112_2) (xi_c (xi_ok112_3) (xi_ok112_4)))
def xi_113_0 : XIs := [(0, .aload_n 0, 1), (1, .getfield 22, 3), (4, .aload_n 1, 1), (5, .getfield 41, 3), (8, .if_icmp .ne 4, 3), (11, .return_, 1), (12, .aload_n 0, 1), (13, .aload_n 1, 1), (14, .getfield 41, 3), (17, .putfield 22, 3), (20, .aload_n 0, 1), (21, .aload_n 1, 1), (22, .invokevirtual 105, 3), (25, .iconst 1, 1), (26, .istore_n 2, 1), (27, .iconst 0, 1)]
set_option maxRecDepth 100000 in
theorem xi_ok113_0 : xi_ok cX4_settle xi_113_0 = true := by decide +kernel
def xi_113_1 : XIs := [(28, .istore_n 3, 1), (29, .iload_n 3, 1), (30, .bipush 20, 2), (32, .if_icmp .ge 43, 3), (35, .iload_n 2, 1), (36, .ifCond .eq 39, 3), (39, .iconst 0, 1), (40, .istore_n 2, 1), (41, .iconst 0, 1), (42, .istore 4, 2), (44, .iload 4, 2), (46, .aload_n 1, 1), (47, .getfield 64, 3), (50, .if_icmp .ge 19, 3), (53, .iload_n 2, 1), (54, .aload_n 0, 1)]
set_option maxRecDepth 100000 in
theorem xi_ok113_1 : xi_ok cX4_settle xi_113_1 = true := by decide +kernel
def xi_113_2 : XIs := [(55, .aload_n 1, 1), (56, .iload 4, 2), (58, .invokevirtual 108, 3), (61, .ior, 1), (62, .istore_n 2, 1), (63, .iinc 4 1, 3), (66, .goto (-22), 3), (69, .iinc 3 1, 3), (72, .goto (-43), 3), (75, .return_, 1)]
set_option maxRecDepth 100000 in
theorem xi_ok113_2 : xi_ok cX4_settle xi_113_2 = true := by decide +kernel
def xi_113 (pc : Nat) : XIs := cond (Nat.blt pc 28) (xi_113_0) (cond (Nat.blt pc 55) (xi_113_1) (xi_113_2))
theorem xi_ok113 (pc : Nat) : xi_ok cX4_settle (xi_113 pc) = true := xi_c (xi_ok113_0) (xi_c (xi_ok113_1) (xi_ok113_2))
def xi_114 (pc : Nat) : XIs := []
theorem xi_ok114 (pc : Nat) : xi_ok cX4_begin (xi_114 pc) = true := rfl
def xi_115_0 : XIs := [(0, .aload_n 0, 1), (1, .aload_n 1, 1), (2, .iload_n 2, 1), (3, .invokevirtual 122, 3), (6, .aload_n 0, 1), (7, .getfield 25, 3), (10, .iload_n 2, 1), (11, .iaload, 1), (12, .istore_n 3, 1), (13, .aload_n 0, 1), (14, .iload_n 2, 1), (15, .iload_n 3, 1), (16, .invokevirtual 126, 3), (19, .lstore 4, 2), (21, .iconst (-1), 1), (22, .istore 6, 2)]
set_option maxRecDepth 100000 in
theorem xi_ok115_0 : xi_ok cX4_settleNode xi_115_0 = true := by decide +kernel
def xi_115_1 : XIs := [(24, .iconst 0, 1), (25, .istore 7, 2), (27, .aload_n 1, 1), (28, .getfield 130, 3), (31, .iload_n 2, 1), (32, .iaload, 1), (33, .istore 8, 2), (35, .iload 8, 2), (37, .ifCond .eq 79, 3), (40, .aload_n 0, 1), (41, .getfield 25, 3), (44, .iload 8, 2), (46, .invokestatic 87, 3), (49, .iaload, 1), (50, .istore 9, 2), (52, .iload 9, 2)]
set_option maxRecDepth 100000 in
theorem xi_ok115_1 : xi_ok cX4_settleNode xi_115_1 = true := by decide +kernel
def xi_115_2 : XIs := [(54, .iload_n 3, 1), (55, .if_icmp .eq 49, 3), (58, .iload 7, 2), (60, .iload 9, 2), (62, .ishr, 1), (63, .iconst 1, 1), (64, .iand, 1), (65, .ifCond .ne 39, 3), (68, .iload 7, 2), (70, .iconst 1, 1), (71, .iload 9, 2), (73, .ishl, 1), (74, .ior, 1), (75, .istore 7, 2), (77, .iload 6, 2), (79, .iconst (-1), 1)]
set_option maxRecDepth 100000 in
theorem xi_ok115_2 : xi_ok cX4_settleNode xi_115_2 = true := by decide +kernel
def xi_115_3 : XIs := [(80, .if_icmp .eq 15, 3), (83, .aload_n 0, 1), (84, .iload_n 2, 1), (85, .iload 9, 2), (87, .iload 6, 2), (89, .invokevirtual 133, 3), (92, .ifCond .eq 8, 3), (95, .iload 9, 2), (97, .goto 5, 3), (100, .iload 6, 2), (102, .istore 6, 2), (104, .iload 8, 2), (106, .iload 8, 2), (108, .iconst 1, 1), (109, .isub, 1), (110, .iand, 1)]
set_option maxRecDepth 100000 in
theorem xi_ok115_3 : xi_ok cX4_settleNode xi_115_3 = true := by decide +kernel
def xi_115_4 : XIs := [(111, .istore 8, 2), (113, .goto (-78), 3), (116, .iload 6, 2), (118, .iconst (-1), 1), (119, .if_icmp .eq 15, 3), (122, .aload_n 0, 1), (123, .iload_n 2, 1), (124, .iload 6, 2), (126, .invokevirtual 126, 3), (129, .lconst 0, 1), (130, .lcmp, 1), (131, .ifCond .ge 28, 3), (134, .lconst 0, 1), (135, .lload 4, 2), (137, .lcmp, 1), (138, .ifCond .le 19, 3)]
set_option maxRecDepth 100000 in
theorem xi_ok115_4 : xi_ok cX4_settleNode xi_115_4 = true := by decide +kernel
def xi_115_5 : XIs := [(141, .aload_n 0, 1), (142, .iload_n 2, 1), (143, .aload_n 0, 1), (144, .invokevirtual 137, 3), (147, .invokevirtual 140, 3), (150, .ifCond .eq 7, 3), (153, .iconst 1, 1), (154, .goto 4, 3), (157, .iconst 0, 1), (158, .ireturn, 1), (159, .aload_n 0, 1), (160, .iload_n 2, 1), (161, .iload 6, 2), (163, .invokevirtual 126, 3), (166, .lload 4, 2), (168, .lcmp, 1)]
set_option maxRecDepth 100000 in
theorem xi_ok115_5 : xi_ok cX4_settleNode xi_115_5 = true := by decide +kernel
def xi_115_6 : XIs := [(169, .ifCond .le 17, 3), (172, .aload_n 0, 1), (173, .iload_n 2, 1), (174, .iload 6, 2), (176, .invokevirtual 140, 3), (179, .ifCond .eq 7, 3), (182, .iconst 1, 1), (183, .goto 4, 3), (186, .iconst 0, 1), (187, .ireturn, 1)]
set_option maxRecDepth 100000 in
theorem xi_ok115_6 : xi_ok cX4_settleNode xi_115_6 = true := by decide +kernel
def xi_115 (pc : Nat) : XIs := cond (Nat.blt pc 80) (cond (Nat.blt pc 24) (xi_115_0) (cond (Nat.blt pc 54) (xi_115_1) (xi_115_2))) (cond (Nat.blt pc 141) (cond (Nat.blt pc 111) (xi_115_3) (xi_115_4)) (cond (Nat.blt pc 169) (xi_115_5) (xi_115_6)))
theorem xi_ok115 (pc : Nat) : xi_ok cX4_settleNode (xi_115 pc) = true := xi_c (xi_c (xi_ok115_0) (xi_c (xi_ok115_1) (xi_ok115_2))) (xi_c (xi_c (xi_ok115_3) (xi_ok115_4)) (xi_c (xi_ok115_5) (xi_ok115_6)))
def xi_116_0 : XIs := [(0, .aload_n 0, 1), (1, .iload_n 1, 1), (2, .iload_n 2, 1), (3, .invokevirtual 126, 3), (6, .aload_n 0, 1), (7, .iload_n 1, 1), (8, .iload_n 3, 1), (9, .invokevirtual 126, 3), (12, .lsub, 1), (13, .lstore 4, 2), (15, .lload 4, 2), (17, .lconst 0, 1), (18, .lcmp, 1), (19, .ifCond .gt 31, 3), (22, .lload 4, 2), (24, .lconst 0, 1)]
set_option maxRecDepth 100000 in
theorem xi_ok116_0 : xi_ok cX4_isBetter xi_116_0 = true := by decide +kernel
def xi_116_1 : XIs := [(25, .lcmp, 1), (26, .ifCond .ne 28, 3), (29, .aload_n 0, 1), (30, .getfield 29, 3), (33, .iload_n 2, 1), (34, .iaload, 1), (35, .invokestatic 87, 3), (38, .aload_n 0, 1), (39, .getfield 29, 3), (42, .iload_n 3, 1), (43, .iaload, 1), (44, .invokestatic 87, 3), (47, .if_icmp .ge 7, 3), (50, .iconst 1, 1), (51, .goto 4, 3), (54, .iconst 0, 1)]
set_option maxRecDepth 100000 in
theorem xi_ok116_1 : xi_ok cX4_isBetter xi_116_1 = true := by decide +kernel
def xi_116_2 : XIs := [(55, .ireturn, 1)]
set_option maxRecDepth 100000 in
theorem xi_ok116_2 : xi_ok cX4_isBetter xi_116_2 = true := by decide +kernel
def xi_116 (pc : Nat) : XIs := cond (Nat.blt pc 25) (xi_116_0) (cond (Nat.blt pc 55) (xi_116_1) (xi_116_2))
theorem xi_ok116 (pc : Nat) : xi_ok cX4_isBetter (xi_116 pc) = true := xi_c (xi_ok116_0) (xi_c (xi_ok116_1) (xi_ok116_2))
def xi_117 (pc : Nat) : XIs := []
theorem xi_ok117 (pc : Nat) : xi_ok cX4_countLinks (xi_117 pc) = true := rfl
def xi_118_0 : XIs := [(0, .aload_n 0, 1), (1, .getfield 25, 3), (4, .iload_n 1, 1), (5, .iaload, 1), (6, .iload_n 2, 1), (7, .if_icmp .ne 19, 3), (10, .aload_n 0, 1), (11, .getfield 35, 3), (14, .iload_n 2, 1), (15, .iaload, 1), (16, .aload_n 0, 1), (17, .getfield 32, 3), (20, .iload_n 1, 1), (21, .iaload, 1), (22, .isub, 1), (23, .goto 9, 3)]
set_option maxRecDepth 100000 in
theorem xi_ok118_0 : xi_ok cX4_score xi_118_0 = true := by decide +kernel
def xi_118_1 : XIs := [(26, .aload_n 0, 1), (27, .getfield 35, 3), (30, .iload_n 2, 1), (31, .iaload, 1), (32, .istore_n 3, 1), (33, .ldc2_w 150, 3), (36, .aload_n 0, 1), (37, .getfield 102, 3), (40, .i2l, 1), (41, .lmul, 1), (42, .aload_n 0, 1), (43, .getfield 38, 3), (46, .iload_n 2, 1), (47, .iaload, 1), (48, .i2l, 1), (49, .lmul, 1)]
set_option maxRecDepth 100000 in
theorem xi_ok118_1 : xi_ok cX4_score xi_118_1 = true := by decide +kernel
def xi_118_2 : XIs := [(50, .aload_n 0, 1), (51, .getfield 32, 3), (54, .iload_n 1, 1), (55, .iaload, 1), (56, .i2l, 1), (57, .iload_n 3, 1), (58, .i2l, 1), (59, .lmul, 1), (60, .lsub, 1), (61, .lreturn, 1)]
set_option maxRecDepth 100000 in
theorem xi_ok118_2 : xi_ok cX4_score xi_118_2 = true := by decide +kernel
def xi_118 (pc : Nat) : XIs := cond (Nat.blt pc 26) (xi_118_0) (cond (Nat.blt pc 50) (xi_118_1) (xi_118_2))
theorem xi_ok118 (pc : Nat) : xi_ok cX4_score (xi_118 pc) = true := xi_c (xi_ok118_0) (xi_c (xi_ok118_1) (xi_ok118_2))
def xi_119_0 : XIs := [(0, .iconst 0, 1), (1, .istore_n 1, 1), (2, .iload_n 1, 1), (3, .bipush 32, 2), (5, .if_icmp .ge 20, 3), (8, .aload_n 0, 1), (9, .getfield 29, 3), (12, .iload_n 1, 1), (13, .iaload, 1), (14, .ifCond .ne 5, 3), (17, .iload_n 1, 1), (18, .ireturn, 1), (19, .iinc 1 1, 3), (22, .goto (-20), 3), (25, .iconst (-1), 1), (26, .ireturn, 1)]
set_option maxRecDepth 100000 in
theorem xi_ok119_0 : xi_ok cX4_freeGroup xi_119_0 = true := by decide +kernel
def xi_119 (pc : Nat) : XIs := xi_119_0
theorem xi_ok119 (pc : Nat) : xi_ok cX4_freeGroup (xi_119 pc) = true := xi_ok119_0
def xi_120 (pc : Nat) : XIs := []
theorem xi_ok120 (pc : Nat) : xi_ok cX4_moveTo (xi_120 pc) = true := rfl
def xi_121 (pc : Nat) : XIs := []
theorem xi_ok121 (pc : Nat) : xi_ok cX5_init (xi_121 pc) = true := rfl
def xi_122_0 : XIs := [(0, .aload_n 0, 1), (1, .getfield 12, 3), (4, .getfield 28, 3), (7, .sipush 4000, 3), (10, .if_icmp .lt 7, 3), (13, .iconst 1, 1), (14, .goto 4, 3), (17, .iconst 0, 1), (18, .ireturn, 1)]
set_option maxRecDepth 100000 in
theorem xi_ok122_0 : xi_ok cX5_isFull xi_122_0 = true := by decide +kernel
def xi_122 (pc : Nat) : XIs := xi_122_0
theorem xi_ok122 (pc : Nat) : xi_ok cX5_isFull (xi_122 pc) = true := xi_ok122_0
def xi_123_0 : XIs := [(0, .aload_n 0, 1), (1, .getfield 12, 3), (4, .iload_n 1, 1), (5, .invokevirtual 32, 3), (8, .ifCond .eq 41, 3), (11, .aload_n 0, 1), (12, .getfield 12, 3), (15, .iload_n 2, 1), (16, .invokevirtual 32, 3), (19, .ifCond .eq 30, 3), (22, .iload_n 3, 1), (23, .invokestatic 36, 3), (26, .ifCond .eq 23, 3), (29, .iload 4, 2), (31, .invokestatic 39, 3), (34, .ifCond .eq 15, 3)]
set_option maxRecDepth 100000 in
theorem xi_ok123_0 : xi_ok cX5_isGoodArc xi_123_0 = true := by decide +kernel
def xi_123_1 : XIs := [(37, .iload 5, 2), (39, .invokestatic 42, 3), (42, .ifCond .eq 7, 3), (45, .iconst 1, 1), (46, .goto 4, 3), (49, .iconst 0, 1), (50, .ireturn, 1)]
set_option maxRecDepth 100000 in
theorem xi_ok123_1 : xi_ok cX5_isGoodArc xi_123_1 = true := by decide +kernel
def xi_123 (pc : Nat) : XIs := cond (Nat.blt pc 37) (xi_123_0) (xi_123_1)
theorem xi_ok123 (pc : Nat) : xi_ok cX5_isGoodArc (xi_123 pc) = true := xi_c (xi_ok123_0) (xi_ok123_1)
def xi_124_0 : XIs := [(0, .aload_n 0, 1), (1, .iconst 0, 1), (2, .aload_n 0, 1), (3, .getfield 12, 3), (6, .getfield 45, 3), (9, .iload_n 1, 1), (10, .iconst 0, 1), (11, .invokevirtual 48, 3), (14, .aload_n 0, 1), (15, .getfield 12, 3), (18, .getfield 45, 3), (21, .iconst 1, 1), (22, .isub, 1), (23, .ireturn, 1)]
set_option maxRecDepth 100000 in
theorem xi_ok124_0 : xi_ok cX5_addNode xi_124_0 = true := by decide +kernel
def xi_124 (pc : Nat) : XIs := xi_124_0
theorem xi_ok124 (pc : Nat) : xi_ok cX5_addNode (xi_124 pc) = true := xi_ok124_0
def xi_125 (pc : Nat) : XIs := []
theorem xi_ok125 (pc : Nat) : xi_ok cX5_addArc (xi_125 pc) = true := rfl
def xi_126_0 : XIs := [(0, .aload_n 0, 1), (1, .iconst 2, 1), (2, .iload_n 1, 1), (3, .iconst 0, 1), (4, .iconst 0, 1), (5, .invokevirtual 48, 3), (8, .return_, 1)]
set_option maxRecDepth 100000 in
theorem xi_ok126_0 : xi_ok cX5_dropArc xi_126_0 = true := by decide +kernel
def xi_126 (pc : Nat) : XIs := xi_126_0
theorem xi_ok126 (pc : Nat) : xi_ok cX5_dropArc (xi_126 pc) = true := xi_ok126_0
def xi_127_0 : XIs := [(0, .aload_n 0, 1), (1, .iconst 3, 1), (2, .iload_n 1, 1), (3, .iload_n 2, 1), (4, .iload_n 3, 1), (5, .invokevirtual 48, 3), (8, .return_, 1)]
set_option maxRecDepth 100000 in
theorem xi_ok127_0 : xi_ok cX5_changeArc xi_127_0 = true := by decide +kernel
def xi_127 (pc : Nat) : XIs := xi_127_0
theorem xi_ok127 (pc : Nat) : xi_ok cX5_changeArc (xi_127 pc) = true := xi_ok127_0
def xi_128_0 : XIs := [(0, .aload_n 0, 1), (1, .iconst 4, 1), (2, .iload_n 1, 1), (3, .iload_n 2, 1), (4, .iconst 0, 1), (5, .invokevirtual 48, 3), (8, .return_, 1)]
set_option maxRecDepth 100000 in
theorem xi_ok128_0 : xi_ok cX5_relabel xi_128_0 = true := by decide +kernel
def xi_128 (pc : Nat) : XIs := xi_128_0
theorem xi_ok128 (pc : Nat) : xi_ok cX5_relabel (xi_128 pc) = true := xi_ok128_0
def xi_129_0 : XIs := [(0, .aload_n 0, 1), (1, .invokevirtual 56, 3), (4, .istore 5, 2), (6, .aload_n 0, 1), (7, .getfield 21, 3), (10, .iload 5, 2), (12, .iload_n 1, 1), (13, .iastore, 1), (14, .aload_n 0, 1), (15, .getfield 21, 3), (18, .iload 5, 2), (20, .iconst 1, 1), (21, .iadd, 1), (22, .iload_n 2, 1), (23, .iastore, 1), (24, .aload_n 0, 1)]
set_option maxRecDepth 100000 in
theorem xi_ok129_0 : xi_ok cX5_note xi_129_0 = true := by decide +kernel
def xi_129_1 : XIs := [(25, .getfield 21, 3), (28, .iload 5, 2), (30, .iconst 2, 1), (31, .iadd, 1), (32, .iload_n 3, 1), (33, .iastore, 1), (34, .aload_n 0, 1), (35, .getfield 21, 3), (38, .iload 5, 2), (40, .iconst 3, 1), (41, .iadd, 1), (42, .iload 4, 2), (44, .iastore, 1), (45, .aload_n 0, 1), (46, .aload_n 0, 1), (47, .getfield 12, 3)]
set_option maxRecDepth 100000 in
theorem xi_ok129_1 : xi_ok cX5_note xi_129_1 = true := by decide +kernel
def xi_129_2 : XIs := [(50, .invokevirtual 59, 3), (53, .return_, 1)]
set_option maxRecDepth 100000 in
theorem xi_ok129_2 : xi_ok cX5_note xi_129_2 = true := by decide +kernel
def xi_129 (pc : Nat) : XIs := cond (Nat.blt pc 25) (xi_129_0) (cond (Nat.blt pc 50) (xi_129_1) (xi_129_2))
theorem xi_ok129 (pc : Nat) : xi_ok cX5_note (xi_129 pc) = true := xi_c (xi_ok129_0) (xi_c (xi_ok129_1) (xi_ok129_2))
def xi_130_0 : XIs := [(0, .aload_n 0, 1), (1, .getfield 12, 3), (4, .getfield 28, 3), (7, .bipush 7, 2), (9, .imul, 1), (10, .istore_n 1, 1), (11, .iload_n 1, 1), (12, .bipush 7, 2), (14, .iadd, 1), (15, .aload_n 0, 1), (16, .getfield 21, 3), (19, .arraylength, 1), (20, .if_icmp .le 34, 3), (23, .aload_n 0, 1), (24, .aload_n 0, 1), (25, .getfield 21, 3)]
set_option maxRecDepth 100000 in
theorem xi_ok130_0 : xi_ok cX5_openRow xi_130_0 = true := by decide +kernel
def xi_130_1 : XIs := [(28, .iload_n 1, 1), (29, .bipush 7, 2), (31, .iadd, 1), (32, .iconst 2, 1), (33, .aload_n 0, 1), (34, .getfield 21, 3), (37, .arraylength, 1), (38, .imul, 1), (39, .sipush 28000, 3), (42, .invokestatic 63, 3), (45, .invokestatic 69, 3), (48, .invokestatic 72, 3), (51, .putfield 21, 3), (54, .iload_n 1, 1), (55, .ireturn, 1)]
set_option maxRecDepth 100000 in
theorem xi_ok130_1 : xi_ok cX5_openRow xi_130_1 = true := by decide +kernel
def xi_130 (pc : Nat) : XIs := cond (Nat.blt pc 28) (xi_130_0) (xi_130_1)
theorem xi_ok130 (pc : Nat) : xi_ok cX5_openRow (xi_130 pc) = true := xi_c (xi_ok130_0) (xi_ok130_1)
def xi_131 (pc : Nat) : XIs := []
theorem xi_ok131 (pc : Nat) : xi_ok cX5_apply (xi_131 pc) = true := rfl
def xi_132 (pc : Nat) : XIs := []
theorem xi_ok132 (pc : Nat) : xi_ok cX5_applyArc (xi_132 pc) = true := rfl
def xi_133_0 : XIs := [(0, .iload_n 3, 1), (1, .ifCond .ne 14, 3), (4, .aload_n 1, 1), (5, .getfield 99, 3), (8, .iload_n 2, 1), (9, .iload 4, 2), (11, .iastore, 1), (12, .goto 27, 3), (15, .iload_n 3, 1), (16, .iconst 1, 1), (17, .if_icmp .ne 14, 3), (20, .aload_n 1, 1), (21, .getfield 102, 3), (24, .iload_n 2, 1), (25, .iload 4, 2), (27, .iastore, 1)]
set_option maxRecDepth 100000 in
theorem xi_ok133_0 : xi_ok cX5_applyValue xi_133_0 = true := by decide +kernel
def xi_133_1 : XIs := [(28, .goto 11, 3), (31, .aload_n 1, 1), (32, .getfield 105, 3), (35, .iload_n 2, 1), (36, .iload 4, 2), (38, .iastore, 1), (39, .return_, 1)]
set_option maxRecDepth 100000 in
theorem xi_ok133_1 : xi_ok cX5_applyValue xi_133_1 = true := by decide +kernel
def xi_133 (pc : Nat) : XIs := cond (Nat.blt pc 28) (xi_133_0) (xi_133_1)
theorem xi_ok133 (pc : Nat) : xi_ok cX5_applyValue (xi_133 pc) = true := xi_c (xi_ok133_0) (xi_ok133_1)
def xi_134_0 : XIs := [(0, .iload_n 2, 1), (1, .aload_n 1, 1), (2, .getfield 28, 3), (5, .if_icmp .ge 7, 3), (8, .aload_n 1, 1), (9, .invokevirtual 114, 3), (12, .aload_n 1, 1), (13, .getfield 28, 3), (16, .istore_n 3, 1), (17, .iload_n 3, 1), (18, .iload_n 2, 1), (19, .if_icmp .ge 14, 3), (22, .aload_n 0, 1), (23, .aload_n 1, 1), (24, .invokevirtual 59, 3), (27, .iinc 3 1, 3)]
set_option maxRecDepth 100000 in
theorem xi_ok134_0 : xi_ok cX5_replay xi_134_0 = true := by decide +kernel
def xi_134_1 : XIs := [(30, .goto (-13), 3), (33, .return_, 1)]
set_option maxRecDepth 100000 in
theorem xi_ok134_1 : xi_ok cX5_replay xi_134_1 = true := by decide +kernel
def xi_134 (pc : Nat) : XIs := cond (Nat.blt pc 30) (xi_134_0) (xi_134_1)
theorem xi_ok134 (pc : Nat) : xi_ok cX5_replay (xi_134 pc) = true := xi_c (xi_ok134_0) (xi_ok134_1)
def xi_135_0 : XIs := [(0, .aload_n 0, 1), (1, .getfield 18, 3), (4, .aload_n 0, 1), (5, .getfield 12, 3), (8, .invokevirtual 117, 3), (11, .aload_n 1, 1), (12, .invokevirtual 119, 3), (15, .iconst 0, 1), (16, .istore_n 2, 1), (17, .iload_n 2, 1), (18, .sipush 1000, 3), (21, .if_icmp .gt 47, 3), (24, .aload_n 1, 1), (25, .bipush 7, 2), (27, .iconst 1, 1), (28, .invokevirtual 124, 3)]
set_option maxRecDepth 100000 in
theorem xi_ok135_0 : xi_ok cX5_carryOut xi_135_0 = true := by decide +kernel
def xi_135_1 : XIs := [(31, .aload_n 1, 1), (32, .getfield 128, 3), (35, .ifCond .ne 5, 3), (38, .iload_n 2, 1), (39, .ireturn, 1), (40, .aload_n 0, 1), (41, .aload_n 1, 1), (42, .invokevirtual 131, 3), (45, .ifCond .ne 17, 3), (48, .aload_n 0, 1), (49, .getfield 12, 3), (52, .aload_n 0, 1), (53, .getfield 18, 3), (56, .invokevirtual 117, 3), (59, .bipush (-4), 2), (61, .ireturn, 1)]
set_option maxRecDepth 100000 in
theorem xi_ok135_1 : xi_ok cX5_carryOut xi_135_1 = true := by decide +kernel
def xi_135_2 : XIs := [(62, .iinc 2 1, 3), (65, .goto (-48), 3), (68, .bipush (-4), 2), (70, .ireturn, 1)]
set_option maxRecDepth 100000 in
theorem xi_ok135_2 : xi_ok cX5_carryOut xi_135_2 = true := by decide +kernel
def xi_135 (pc : Nat) : XIs := cond (Nat.blt pc 31) (xi_135_0) (cond (Nat.blt pc 62) (xi_135_1) (xi_135_2))
theorem xi_ok135 (pc : Nat) : xi_ok cX5_carryOut (xi_135 pc) = true := xi_c (xi_ok135_0) (xi_c (xi_ok135_1) (xi_ok135_2))
def xi_136 (pc : Nat) : XIs := []
theorem xi_ok136 (pc : Nat) : xi_ok cX5_readCommand (xi_136 pc) = true := rfl
def xi_137_0 : XIs := [(0, .iload_n 0, 1), (1, .lookupswitch 55 #[(0, 46), (13, 43), (19, 49), (22, 52)], 43), (44, .ldc 171, 2), (46, .areturn, 1), (47, .ldc 173, 2), (49, .areturn, 1), (50, .ldc 175, 2), (52, .areturn, 1), (53, .ldc 177, 2), (55, .areturn, 1), (56, .ldc 179, 2), (58, .areturn, 1)]
set_option maxRecDepth 100000 in
theorem xi_ok137_0 : xi_ok cX5_shapeOf xi_137_0 = true := by decide +kernel
def xi_137 (pc : Nat) : XIs := xi_137_0
theorem xi_ok137 (pc : Nat) : xi_ok cX5_shapeOf (xi_137 pc) = true := xi_ok137_0
def xi_138 (pc : Nat) : XIs := []
theorem xi_ok138 (pc : Nat) : xi_ok cX5_doCommand (xi_138 pc) = true := rfl
def xi_139 (pc : Nat) : XIs := []
theorem xi_ok139 (pc : Nat) : xi_ok cX6_init (xi_139 pc) = true := rfl
def xi_140_0 : XIs := [(0, .aload_n 1, 1), (1, .invokevirtual 28, 3), (4, .aload_n 1, 1), (5, .getfield 33, 3), (8, .iconst 1, 1), (9, .iload_n 2, 1), (10, .ishl, 1), (11, .iconst (-1), 1), (12, .invokestatic 36, 3), (15, .aload_n 1, 1), (16, .getfield 40, 3), (19, .iconst 1, 1), (20, .iload_n 2, 1), (21, .ishl, 1), (22, .iconst (-1), 1), (23, .invokestatic 36, 3)]
set_option maxRecDepth 100000 in
theorem xi_ok140_0 : xi_ok cX6_strongPart xi_140_0 = true := by decide +kernel
def xi_140_1 : XIs := [(26, .iand, 1), (27, .invokestatic 43, 3), (30, .ireturn, 1)]
set_option maxRecDepth 100000 in
theorem xi_ok140_1 : xi_ok cX6_strongPart xi_140_1 = true := by decide +kernel
def xi_140 (pc : Nat) : XIs := cond (Nat.blt pc 26) (xi_140_0) (xi_140_1)
theorem xi_ok140 (pc : Nat) : xi_ok cX6_strongPart (xi_140 pc) = true := xi_c (xi_ok140_0) (xi_ok140_1)
def xi_141_0 : XIs := [(0, .aload_n 1, 1), (1, .invokevirtual 28, 3), (4, .aload_n 1, 1), (5, .getfield 47, 3), (8, .iconst 1, 1), (9, .iload_n 2, 1), (10, .ishl, 1), (11, .iconst (-1), 1), (12, .invokestatic 36, 3), (15, .invokestatic 43, 3), (18, .ireturn, 1)]
set_option maxRecDepth 100000 in
theorem xi_ok141_0 : xi_ok cX6_weakPart xi_141_0 = true := by decide +kernel
def xi_141 (pc : Nat) : XIs := xi_141_0
theorem xi_ok141 (pc : Nat) : xi_ok cX6_weakPart (xi_141 pc) = true := xi_ok141_0
def xi_142_0 : XIs := [(0, .aload_n 1, 1), (1, .iload_n 2, 1), (2, .invokevirtual 50, 3), (5, .ifCond .ne 5, 3), (8, .iconst 0, 1), (9, .ireturn, 1), (10, .aload_n 1, 1), (11, .getfield 54, 3), (14, .iload_n 2, 1), (15, .iaload, 1), (16, .istore_n 3, 1), (17, .aload_n 1, 1), (18, .getfield 57, 3), (21, .iload_n 2, 1), (22, .iaload, 1), (23, .istore 4, 2)]
set_option maxRecDepth 100000 in
theorem xi_ok142_0 : xi_ok cX6_isBridge xi_142_0 = true := by decide +kernel
def xi_142_1 : XIs := [(25, .iconst 0, 1), (26, .istore 5, 2), (28, .iload 5, 2), (30, .aload_n 1, 1), (31, .getfield 60, 3), (34, .if_icmp .ge 72, 3), (37, .iload 5, 2), (39, .iload_n 2, 1), (40, .if_icmp .eq 60, 3), (43, .aload_n 1, 1), (44, .iload 5, 2), (46, .invokevirtual 50, 3), (49, .ifCond .eq 51, 3), (52, .aload_n 1, 1), (53, .getfield 54, 3), (56, .iload 5, 2)]
set_option maxRecDepth 100000 in
theorem xi_ok142_1 : xi_ok cX6_isBridge xi_142_1 = true := by decide +kernel
def xi_142_2 : XIs := [(58, .iaload, 1), (59, .iload_n 3, 1), (60, .if_icmp .ne 15, 3), (63, .aload_n 1, 1), (64, .getfield 57, 3), (67, .iload 5, 2), (69, .iaload, 1), (70, .iload 4, 2), (72, .if_icmp .eq 26, 3), (75, .aload_n 1, 1), (76, .getfield 54, 3), (79, .iload 5, 2), (81, .iaload, 1), (82, .iload 4, 2), (84, .if_icmp .ne 16, 3), (87, .aload_n 1, 1)]
set_option maxRecDepth 100000 in
theorem xi_ok142_2 : xi_ok cX6_isBridge xi_142_2 = true := by decide +kernel
def xi_142_3 : XIs := [(88, .getfield 57, 3), (91, .iload 5, 2), (93, .iaload, 1), (94, .iload_n 3, 1), (95, .if_icmp .ne 5, 3), (98, .iconst 0, 1), (99, .ireturn, 1), (100, .iinc 5 1, 3), (103, .goto (-75), 3), (106, .aload_n 1, 1), (107, .invokevirtual 28, 3), (110, .aload_n 1, 1), (111, .getfield 47, 3), (114, .aload_n 1, 1), (115, .getfield 47, 3), (118, .iload_n 3, 1)]
set_option maxRecDepth 100000 in
theorem xi_ok142_3 : xi_ok cX6_isBridge xi_142_3 = true := by decide +kernel
def xi_142_4 : XIs := [(119, .iaload, 1), (120, .iconst 1, 1), (121, .iload 4, 2), (123, .ishl, 1), (124, .iconst (-1), 1), (125, .ixor, 1), (126, .iand, 1), (127, .iconst 1, 1), (128, .iload_n 3, 1), (129, .ishl, 1), (130, .iconst (-1), 1), (131, .ixor, 1), (132, .invokestatic 36, 3), (135, .istore 5, 2), (137, .iload 5, 2), (139, .iload 4, 2)]
set_option maxRecDepth 100000 in
theorem xi_ok142_4 : xi_ok cX6_isBridge xi_142_4 = true := by decide +kernel
def xi_142_5 : XIs := [(141, .ishr, 1), (142, .iconst 1, 1), (143, .iand, 1), (144, .ifCond .ne 7, 3), (147, .iconst 1, 1), (148, .goto 4, 3), (151, .iconst 0, 1), (152, .ireturn, 1)]
set_option maxRecDepth 100000 in
theorem xi_ok142_5 : xi_ok cX6_isBridge xi_142_5 = true := by decide +kernel
def xi_142 (pc : Nat) : XIs := cond (Nat.blt pc 88) (cond (Nat.blt pc 25) (xi_142_0) (cond (Nat.blt pc 58) (xi_142_1) (xi_142_2))) (cond (Nat.blt pc 119) (xi_142_3) (cond (Nat.blt pc 141) (xi_142_4) (xi_142_5)))
theorem xi_ok142 (pc : Nat) : xi_ok cX6_isBridge (xi_142 pc) = true := xi_c (xi_c (xi_ok142_0) (xi_c (xi_ok142_1) (xi_ok142_2))) (xi_c (xi_ok142_3) (xi_c (xi_ok142_4) (xi_ok142_5)))
def xi_143_0 : XIs := [(0, .aload_n 1, 1), (1, .invokevirtual 28, 3), (4, .aload_n 1, 1), (5, .getfield 47, 3), (8, .iload_n 2, 1), (9, .iaload, 1), (10, .istore_n 3, 1), (11, .aload_n 1, 1), (12, .getfield 47, 3), (15, .iload_n 3, 1), (16, .iload_n 3, 1), (17, .ineg, 1), (18, .iand, 1), (19, .iconst 1, 1), (20, .iload_n 2, 1), (21, .ishl, 1)]
set_option maxRecDepth 100000 in
theorem xi_ok143_0 : xi_ok cX6_isCut xi_143_0 = true := by decide +kernel
def xi_143_1 : XIs := [(22, .iconst (-1), 1), (23, .ixor, 1), (24, .invokestatic 36, 3), (27, .istore 4, 2), (29, .iload_n 3, 1), (30, .iload 4, 2), (32, .iconst (-1), 1), (33, .ixor, 1), (34, .iand, 1), (35, .ifCond .eq 7, 3), (38, .iconst 1, 1), (39, .goto 4, 3), (42, .iconst 0, 1), (43, .ireturn, 1)]
set_option maxRecDepth 100000 in
theorem xi_ok143_1 : xi_ok cX6_isCut xi_143_1 = true := by decide +kernel
def xi_143 (pc : Nat) : XIs := cond (Nat.blt pc 22) (xi_143_0) (xi_143_1)
theorem xi_ok143 (pc : Nat) : xi_ok cX6_isCut (xi_143 pc) = true := xi_c (xi_ok143_0) (xi_ok143_1)
def xi_144_0 : XIs := [(0, .aload_n 0, 1), (1, .getfield 9, 3), (4, .aload_n 1, 1), (5, .getfield 63, 3), (8, .if_icmp .eq 16, 3), (11, .aload_n 0, 1), (12, .aload_n 1, 1), (13, .getfield 63, 3), (16, .putfield 9, 3), (19, .aload_n 0, 1), (20, .aload_n 1, 1), (21, .invokevirtual 66, 3), (24, .iload_n 2, 1), (25, .aload_n 0, 1), (26, .getfield 70, 3), (29, .if_icmp .ge 12, 3)]
set_option maxRecDepth 100000 in
theorem xi_ok144_0 : xi_ok cX6_ordered xi_144_0 = true := by decide +kernel
def xi_144_1 : XIs := [(32, .aload_n 0, 1), (33, .getfield 15, 3), (36, .iload_n 2, 1), (37, .iaload, 1), (38, .goto 4, 3), (41, .iconst (-1), 1), (42, .ireturn, 1)]
set_option maxRecDepth 100000 in
theorem xi_ok144_1 : xi_ok cX6_ordered xi_144_1 = true := by decide +kernel
def xi_144 (pc : Nat) : XIs := cond (Nat.blt pc 32) (xi_144_0) (xi_144_1)
theorem xi_ok144 (pc : Nat) : xi_ok cX6_ordered (xi_144 pc) = true := xi_c (xi_ok144_0) (xi_ok144_1)
def xi_145_0 : XIs := [(0, .aload_n 1, 1), (1, .invokevirtual 28, 3), (4, .aload_n 1, 1), (5, .invokevirtual 73, 3), (8, .istore_n 2, 1), (9, .iconst 0, 1), (10, .istore_n 3, 1), (11, .iload_n 3, 1), (12, .aload_n 1, 1), (13, .getfield 77, 3), (16, .if_icmp .ge 45, 3), (19, .aload_n 1, 1), (20, .iload_n 2, 1), (21, .invokestatic 80, 3), (24, .istore 4, 2), (26, .iload 4, 2)]
set_option maxRecDepth 100000 in
theorem xi_ok145_0 : xi_ok cX6_makeOrder xi_145_0 = true := by decide +kernel
def xi_145_1 : XIs := [(28, .iconst (-1), 1), (29, .if_icmp .ne 9, 3), (32, .aload_n 0, 1), (33, .iconst 0, 1), (34, .putfield 70, 3), (37, .return_, 1), (38, .aload_n 0, 1), (39, .getfield 15, 3), (42, .iload_n 3, 1), (43, .iload 4, 2), (45, .iastore, 1), (46, .iload_n 2, 1), (47, .iconst 1, 1), (48, .iload 4, 2), (50, .ishl, 1), (51, .iconst (-1), 1)]
set_option maxRecDepth 100000 in
theorem xi_ok145_1 : xi_ok cX6_makeOrder xi_145_1 = true := by decide +kernel
def xi_145_2 : XIs := [(52, .ixor, 1), (53, .iand, 1), (54, .istore_n 2, 1), (55, .iinc 3 1, 3), (58, .goto (-47), 3), (61, .aload_n 0, 1), (62, .aload_n 1, 1), (63, .getfield 77, 3), (66, .putfield 70, 3), (69, .return_, 1)]
set_option maxRecDepth 100000 in
theorem xi_ok145_2 : xi_ok cX6_makeOrder xi_145_2 = true := by decide +kernel
def xi_145 (pc : Nat) : XIs := cond (Nat.blt pc 28) (xi_145_0) (cond (Nat.blt pc 52) (xi_145_1) (xi_145_2))
theorem xi_ok145 (pc : Nat) : xi_ok cX6_makeOrder (xi_145 pc) = true := xi_c (xi_ok145_0) (xi_c (xi_ok145_1) (xi_ok145_2))
def xi_146_0 : XIs := [(0, .iload_n 1, 1), (1, .istore_n 2, 1), (2, .iload_n 2, 1), (3, .ifCond .eq 31, 3), (6, .aload_n 0, 1), (7, .getfield 40, 3), (10, .iload_n 2, 1), (11, .invokestatic 43, 3), (14, .iaload, 1), (15, .iload_n 1, 1), (16, .iand, 1), (17, .ifCond .ne 8, 3), (20, .iload_n 2, 1), (21, .invokestatic 43, 3), (24, .ireturn, 1), (25, .iload_n 2, 1)]
set_option maxRecDepth 100000 in
theorem xi_ok146_0 : xi_ok cX6_firstFree xi_146_0 = true := by decide +kernel
def xi_146_1 : XIs := [(26, .iload_n 2, 1), (27, .iconst 1, 1), (28, .isub, 1), (29, .iand, 1), (30, .istore_n 2, 1), (31, .goto (-29), 3), (34, .iconst (-1), 1), (35, .ireturn, 1)]
set_option maxRecDepth 100000 in
theorem xi_ok146_1 : xi_ok cX6_firstFree xi_146_1 = true := by decide +kernel
def xi_146 (pc : Nat) : XIs := cond (Nat.blt pc 26) (xi_146_0) (xi_146_1)
theorem xi_ok146 (pc : Nat) : xi_ok cX6_firstFree (xi_146 pc) = true := xi_c (xi_ok146_0) (xi_ok146_1)
def xi_147_0 : XIs := [(0, .aload_n 0, 1), (1, .getfield 19, 3), (4, .aload_n 1, 1), (5, .getfield 63, 3), (8, .if_icmp .eq 16, 3), (11, .aload_n 0, 1), (12, .aload_n 1, 1), (13, .getfield 63, 3), (16, .putfield 19, 3), (19, .aload_n 0, 1), (20, .aload_n 1, 1), (21, .invokevirtual 84, 3), (24, .aload_n 0, 1), (25, .getfield 22, 3), (28, .iload_n 2, 1), (29, .iaload, 1)]
set_option maxRecDepth 100000 in
theorem xi_ok147_0 : xi_ok cX6_coreOf xi_147_0 = true := by decide +kernel
def xi_147_1 : XIs := [(30, .ireturn, 1)]
set_option maxRecDepth 100000 in
theorem xi_ok147_1 : xi_ok cX6_coreOf xi_147_1 = true := by decide +kernel
def xi_147 (pc : Nat) : XIs := cond (Nat.blt pc 30) (xi_147_0) (xi_147_1)
theorem xi_ok147 (pc : Nat) : xi_ok cX6_coreOf (xi_147 pc) = true := xi_c (xi_ok147_0) (xi_ok147_1)
def xi_148 (pc : Nat) : XIs := []
theorem xi_ok148 (pc : Nat) : xi_ok cX6_peel (xi_148 pc) = true := rfl
def xi_149 (pc : Nat) : XIs := []
theorem xi_ok149 (pc : Nat) : xi_ok cX6_loosest (xi_149 pc) = true := rfl
def xi_150 (pc : Nat) : XIs := []
theorem xi_ok150 (pc : Nat) : xi_ok cX6_loosen (xi_150 pc) = true := rfl
def xi_151_0 : XIs := [(0, .aload_n 1, 1), (1, .invokevirtual 28, 3), (4, .lconst 0, 1), (5, .lstore_n 2, 1), (6, .iconst 0, 1), (7, .istore 4, 2), (9, .iload 4, 2), (11, .aload_n 1, 1), (12, .getfield 77, 3), (15, .if_icmp .ge 60, 3), (18, .aload_n 1, 1), (19, .getfield 47, 3), (22, .iload 4, 2), (24, .iaload, 1), (25, .istore 5, 2), (27, .iload 5, 2)]
set_option maxRecDepth 100000 in
theorem xi_ok151_0 : xi_ok cX6_triangles xi_151_0 = true := by decide +kernel
def xi_151_1 : XIs := [(29, .ifCond .eq 40, 3), (32, .lload_n 2, 1), (33, .aload_n 1, 1), (34, .getfield 47, 3), (37, .iload 4, 2), (39, .iaload, 1), (40, .aload_n 1, 1), (41, .getfield 47, 3), (44, .iload 5, 2), (46, .invokestatic 43, 3), (49, .iaload, 1), (50, .iand, 1), (51, .invokestatic 116, 3), (54, .i2l, 1), (55, .ladd, 1), (56, .lstore_n 2, 1)]
set_option maxRecDepth 100000 in
theorem xi_ok151_1 : xi_ok cX6_triangles xi_151_1 = true := by decide +kernel
def xi_151_2 : XIs := [(57, .iload 5, 2), (59, .iload 5, 2), (61, .iconst 1, 1), (62, .isub, 1), (63, .iand, 1), (64, .istore 5, 2), (66, .goto (-39), 3), (69, .iinc 4 1, 3), (72, .goto (-63), 3), (75, .lload_n 2, 1), (76, .ldc2_w 121, 3), (79, .ldiv, 1), (80, .lreturn, 1)]
set_option maxRecDepth 100000 in
theorem xi_ok151_2 : xi_ok cX6_triangles xi_151_2 = true := by decide +kernel
def xi_151 (pc : Nat) : XIs := cond (Nat.blt pc 29) (xi_151_0) (cond (Nat.blt pc 57) (xi_151_1) (xi_151_2))
theorem xi_ok151 (pc : Nat) : xi_ok cX6_triangles (xi_151 pc) = true := xi_c (xi_ok151_0) (xi_c (xi_ok151_1) (xi_ok151_2))
def xi_152_0 : XIs := [(0, .aload_n 1, 1), (1, .invokevirtual 28, 3), (4, .lconst 0, 1), (5, .lstore_n 2, 1), (6, .iconst 0, 1), (7, .istore 4, 2), (9, .iload 4, 2), (11, .aload_n 1, 1), (12, .getfield 77, 3), (15, .if_icmp .ge 63, 3), (18, .iload 4, 2), (20, .iconst 1, 1), (21, .iadd, 1), (22, .istore 5, 2), (24, .iload 5, 2), (26, .aload_n 1, 1)]
set_option maxRecDepth 100000 in
theorem xi_ok152_0 : xi_ok cX6_squares xi_152_0 = true := by decide +kernel
def xi_152_1 : XIs := [(27, .getfield 77, 3), (30, .if_icmp .ge 42, 3), (33, .aload_n 1, 1), (34, .getfield 47, 3), (37, .iload 4, 2), (39, .iaload, 1), (40, .aload_n 1, 1), (41, .getfield 47, 3), (44, .iload 5, 2), (46, .iaload, 1), (47, .iand, 1), (48, .invokestatic 116, 3), (51, .istore 6, 2), (53, .lload_n 2, 1), (54, .iload 6, 2), (56, .iload 6, 2)]
set_option maxRecDepth 100000 in
theorem xi_ok152_1 : xi_ok cX6_squares xi_152_1 = true := by decide +kernel
def xi_152_2 : XIs := [(58, .iconst 1, 1), (59, .isub, 1), (60, .imul, 1), (61, .iconst 2, 1), (62, .idiv, 1), (63, .i2l, 1), (64, .ladd, 1), (65, .lstore_n 2, 1), (66, .iinc 5 1, 3), (69, .goto (-45), 3), (72, .iinc 4 1, 3), (75, .goto (-66), 3), (78, .lload_n 2, 1), (79, .ldc2_w 123, 3), (82, .ldiv, 1), (83, .lreturn, 1)]
set_option maxRecDepth 100000 in
theorem xi_ok152_2 : xi_ok cX6_squares xi_152_2 = true := by decide +kernel
def xi_152 (pc : Nat) : XIs := cond (Nat.blt pc 27) (xi_152_0) (cond (Nat.blt pc 58) (xi_152_1) (xi_152_2))
theorem xi_ok152 (pc : Nat) : xi_ok cX6_squares (xi_152 pc) = true := xi_c (xi_ok152_0) (xi_c (xi_ok152_1) (xi_ok152_2))
def xi_153 (pc : Nat) : XIs := []
theorem xi_ok153 (pc : Nat) : xi_ok cX7_init (xi_153 pc) = true := rfl
def xi_154_0 : XIs := [(0, .aload_n 1, 1), (1, .invokevirtual 41, 3), (4, .aload_n 1, 1), (5, .getfield 46, 3), (8, .bipush 60, 2), (10, .if_icmp .le 11, 3), (13, .aload_n 1, 1), (14, .iconst 2, 1), (15, .bipush 60, 2), (17, .invokevirtual 50, 3), (20, .ireturn, 1), (21, .aload_n 1, 1), (22, .invokestatic 54, 3), (25, .ifCond .ne 5, 3), (28, .iconst 0, 1), (29, .ireturn, 1)]
set_option maxRecDepth 100000 in
theorem xi_ok154_0 : xi_ok cX7_adopt xi_154_0 = true := by decide +kernel
def xi_154_1 : XIs := [(30, .aload_n 0, 1), (31, .aload_n 1, 1), (32, .invokevirtual 58, 3), (35, .iconst 1, 1), (36, .ireturn, 1)]
set_option maxRecDepth 100000 in
theorem xi_ok154_1 : xi_ok cX7_adopt xi_154_1 = true := by decide +kernel
def xi_154 (pc : Nat) : XIs := cond (Nat.blt pc 30) (xi_154_0) (xi_154_1)
theorem xi_ok154 (pc : Nat) : xi_ok cX7_adopt (xi_154 pc) = true := xi_c (xi_ok154_0) (xi_ok154_1)
def xi_155_0 : XIs := [(0, .iconst 0, 1), (1, .istore_n 1, 1), (2, .iconst 0, 1), (3, .istore_n 2, 1), (4, .iconst 0, 1), (5, .istore_n 3, 1), (6, .iload_n 3, 1), (7, .aload_n 0, 1), (8, .getfield 46, 3), (11, .if_icmp .ge 81, 3), (14, .aload_n 0, 1), (15, .getfield 62, 3), (18, .iload_n 3, 1), (19, .caload, 1), (20, .istore 4, 2), (22, .iload 4, 2)]
set_option maxRecDepth 100000 in
theorem xi_ok155_0 : xi_ok cX7_isGood xi_155_0 = true := by decide +kernel
def xi_155_1 : XIs := [(24, .iload_n 2, 1), (25, .iload_n 1, 1), (26, .invokestatic 66, 3), (29, .istore 5, 2), (31, .iload 5, 2), (33, .iconst (-1), 1), (34, .if_icmp .eq 11, 3), (37, .aload_n 0, 1), (38, .iload 5, 2), (40, .iload_n 3, 1), (41, .invokevirtual 50, 3), (44, .ireturn, 1), (45, .iload 4, 2), (47, .bipush 40, 2), (49, .if_icmp .ne 6, 3), (52, .iinc 1 1, 3)]
set_option maxRecDepth 100000 in
theorem xi_ok155_1 : xi_ok cX7_isGood xi_155_1 = true := by decide +kernel
def xi_155_2 : XIs := [(55, .iload 4, 2), (57, .bipush 41, 2), (59, .if_icmp .ne 6, 3), (62, .iinc 1 (-1), 3), (65, .iload 4, 2), (67, .bipush 41, 2), (69, .if_icmp .eq 11, 3), (72, .iload 4, 2), (74, .invokestatic 70, 3), (77, .ifCond .eq 7, 3), (80, .iconst 1, 1), (81, .goto 4, 3), (84, .iconst 0, 1), (85, .istore_n 2, 1), (86, .iinc 3 1, 3), (89, .goto (-83), 3)]
set_option maxRecDepth 100000 in
theorem xi_ok155_2 : xi_ok cX7_isGood xi_155_2 = true := by decide +kernel
def xi_155_3 : XIs := [(92, .iload_n 1, 1), (93, .ifCond .eq 15, 3), (96, .aload_n 0, 1), (97, .iconst 2, 1), (98, .aload_n 0, 1), (99, .getfield 46, 3), (102, .invokevirtual 50, 3), (105, .ifCond .eq 7, 3), (108, .iconst 1, 1), (109, .goto 4, 3), (112, .iconst 0, 1), (113, .ireturn, 1)]
set_option maxRecDepth 100000 in
theorem xi_ok155_3 : xi_ok cX7_isGood xi_155_3 = true := by decide +kernel
def xi_155 (pc : Nat) : XIs := cond (Nat.blt pc 55) (cond (Nat.blt pc 24) (xi_155_0) (xi_155_1)) (cond (Nat.blt pc 92) (xi_155_2) (xi_155_3))
theorem xi_ok155 (pc : Nat) : xi_ok cX7_isGood (xi_155 pc) = true := xi_c (xi_c (xi_ok155_0) (xi_ok155_1)) (xi_c (xi_ok155_2) (xi_ok155_3))
def xi_156_0 : XIs := [(0, .iload_n 0, 1), (1, .lookupswitch 93 #[(40, 69), (41, 81), (42, 59), (43, 59), (63, 59), (124, 91)], 59), (60, .iload_n 1, 1), (61, .ifCond .eq 7, 3), (64, .iconst (-1), 1), (65, .goto 4, 3), (68, .iconst 2, 1), (69, .ireturn, 1), (70, .iload_n 2, 1), (71, .bipush 10, 2), (73, .if_icmp .ge 7, 3), (76, .iconst (-1), 1), (77, .goto 4, 3), (80, .iconst 3, 1), (81, .ireturn, 1), (82, .iload_n 2, 1)]
set_option maxRecDepth 100000 in
theorem xi_ok156_0 : xi_ok cX7_judge xi_156_0 = true := by decide +kernel
def xi_156_1 : XIs := [(83, .ifCond .le 7, 3), (86, .iconst (-1), 1), (87, .goto 4, 3), (90, .iconst 2, 1), (91, .ireturn, 1), (92, .iconst (-1), 1), (93, .ireturn, 1), (94, .iload_n 0, 1), (95, .invokestatic 70, 3), (98, .ifCond .eq 7, 3), (101, .iconst (-1), 1), (102, .goto 4, 3), (105, .iconst 1, 1), (106, .ireturn, 1)]
set_option maxRecDepth 100000 in
theorem xi_ok156_1 : xi_ok cX7_judge xi_156_1 = true := by decide +kernel
def xi_156 (pc : Nat) : XIs := cond (Nat.blt pc 83) (xi_156_0) (xi_156_1)
theorem xi_ok156 (pc : Nat) : xi_ok cX7_judge (xi_156 pc) = true := xi_c (xi_ok156_0) (xi_ok156_1)
def xi_157_0 : XIs := [(0, .iload_n 0, 1), (1, .bipush 46, 2), (3, .if_icmp .eq 15, 3), (6, .iload_n 0, 1), (7, .bipush 97, 2), (9, .if_icmp .lt 13, 3), (12, .iload_n 0, 1), (13, .bipush 122, 2), (15, .if_icmp .gt 7, 3), (18, .iconst 1, 1), (19, .goto 4, 3), (22, .iconst 0, 1), (23, .ireturn, 1)]
set_option maxRecDepth 100000 in
theorem xi_ok157_0 : xi_ok cX7_isAtom xi_157_0 = true := by decide +kernel
def xi_157 (pc : Nat) : XIs := xi_157_0
theorem xi_ok157 (pc : Nat) : xi_ok cX7_isAtom (xi_157 pc) = true := xi_ok157_0
def xi_158 (pc : Nat) : XIs := []
theorem xi_ok158 (pc : Nat) : xi_ok cX7_build (xi_158 pc) = true := rfl
def xi_159 (pc : Nat) : XIs := []
theorem xi_ok159 (pc : Nat) : xi_ok cX7_closeBars (xi_159 pc) = true := rfl
def xi_160 (pc : Nat) : XIs := []
theorem xi_ok160 (pc : Nat) : xi_ok cX7_layPlace (xi_160 pc) = true := rfl
def xi_161_0 : XIs := [(0, .iload_n 1, 1), (1, .bipush 42, 2), (3, .if_icmp .eq 9, 3), (6, .iload_n 1, 1), (7, .bipush 43, 2), (9, .if_icmp .ne 15, 3), (12, .aload_n 0, 1), (13, .getfield 18, 3), (16, .iload_n 3, 1), (17, .dup2, 1), (18, .laload, 1), (19, .lconst 1, 1), (20, .iload_n 2, 1), (21, .lshl, 1), (22, .lor, 1), (23, .lastore, 1)]
set_option maxRecDepth 100000 in
theorem xi_ok161_0 : xi_ok cX7_layRepeat xi_161_0 = true := by decide +kernel
def xi_161_1 : XIs := [(24, .iload_n 1, 1), (25, .bipush 42, 2), (27, .if_icmp .eq 9, 3), (30, .iload_n 1, 1), (31, .bipush 63, 2), (33, .if_icmp .ne 15, 3), (36, .aload_n 0, 1), (37, .getfield 18, 3), (40, .iload_n 2, 1), (41, .dup2, 1), (42, .laload, 1), (43, .lconst 1, 1), (44, .iload_n 3, 1), (45, .lshl, 1), (46, .lor, 1), (47, .lastore, 1)]
set_option maxRecDepth 100000 in
theorem xi_ok161_1 : xi_ok cX7_layRepeat xi_161_1 = true := by decide +kernel
def xi_161_2 : XIs := [(48, .return_, 1)]
set_option maxRecDepth 100000 in
theorem xi_ok161_2 : xi_ok cX7_layRepeat xi_161_2 = true := by decide +kernel
def xi_161 (pc : Nat) : XIs := cond (Nat.blt pc 24) (xi_161_0) (cond (Nat.blt pc 48) (xi_161_1) (xi_161_2))
theorem xi_ok161 (pc : Nat) : xi_ok cX7_layRepeat (xi_161 pc) = true := xi_c (xi_ok161_0) (xi_c (xi_ok161_1) (xi_ok161_2))
def xi_162 (pc : Nat) : XIs := []
theorem xi_ok162 (pc : Nat) : xi_ok cX7_close (xi_162 pc) = true := rfl
def xi_163_0 : XIs := [(0, .aload_n 1, 1), (1, .invokevirtual 99, 3), (4, .aload_n 0, 1), (5, .getfield 32, 3), (8, .lconst 0, 1), (9, .invokestatic 74, 3), (12, .aload_n 0, 1), (13, .getfield 38, 3), (16, .lconst 0, 1), (17, .invokestatic 74, 3), (20, .aload_n 0, 1), (21, .getfield 32, 3), (24, .iload_n 2, 1), (25, .aload_n 0, 1), (26, .getfield 9, 3), (29, .lastore, 1)]
set_option maxRecDepth 100000 in
theorem xi_ok163_0 : xi_ok cX7_leastFit xi_163_0 = true := by decide +kernel
def xi_163_1 : XIs := [(30, .aload_n 0, 1), (31, .getfield 38, 3), (34, .iload_n 2, 1), (35, .aload_n 0, 1), (36, .getfield 9, 3), (39, .lastore, 1), (40, .iconst 0, 1), (41, .istore 4, 2), (43, .iload 4, 2), (45, .sipush 1952, 3), (48, .if_icmp .gt 38, 3), (51, .aload_n 0, 1), (52, .getfield 38, 3), (55, .iload_n 3, 1), (56, .laload, 1), (57, .aload_n 0, 1)]
set_option maxRecDepth 100000 in
theorem xi_ok163_1 : xi_ok cX7_leastFit xi_163_1 = true := by decide +kernel
def xi_163_2 : XIs := [(58, .getfield 15, 3), (61, .land, 1), (62, .lconst 0, 1), (63, .lcmp, 1), (64, .ifCond .eq 6, 3), (67, .iload 4, 2), (69, .ireturn, 1), (70, .aload_n 0, 1), (71, .aload_n 1, 1), (72, .invokevirtual 104, 3), (75, .ifCond .ne 5, 3), (78, .iconst (-1), 1), (79, .ireturn, 1), (80, .iinc 4 1, 3), (83, .goto (-40), 3), (86, .iconst (-1), 1)]
set_option maxRecDepth 100000 in
theorem xi_ok163_2 : xi_ok cX7_leastFit xi_163_2 = true := by decide +kernel
def xi_163_3 : XIs := [(87, .ireturn, 1)]
set_option maxRecDepth 100000 in
theorem xi_ok163_3 : xi_ok cX7_leastFit xi_163_3 = true := by decide +kernel
def xi_163 (pc : Nat) : XIs := cond (Nat.blt pc 58) (cond (Nat.blt pc 30) (xi_163_0) (xi_163_1)) (cond (Nat.blt pc 87) (xi_163_2) (xi_163_3))
theorem xi_ok163 (pc : Nat) : xi_ok cX7_leastFit (xi_163 pc) = true := xi_c (xi_c (xi_ok163_0) (xi_ok163_1)) (xi_c (xi_ok163_2) (xi_ok163_3))
def xi_164_0 : XIs := [(0, .iconst 0, 1), (1, .istore_n 2, 1), (2, .aload_n 0, 1), (3, .getfield 35, 3), (6, .lconst 0, 1), (7, .invokestatic 74, 3), (10, .iconst 0, 1), (11, .istore_n 3, 1), (12, .iload_n 3, 1), (13, .aload_n 1, 1), (14, .getfield 108, 3), (17, .if_icmp .ge 141, 3), (20, .aload_n 1, 1), (21, .getfield 111, 3), (24, .iload_n 3, 1), (25, .iaload, 1)]
set_option maxRecDepth 100000 in
theorem xi_ok164_0 : xi_ok cX7_step xi_164_0 = true := by decide +kernel
def xi_164_1 : XIs := [(26, .istore 4, 2), (28, .iload 4, 2), (30, .aload_n 1, 1), (31, .getfield 111, 3), (34, .iload_n 3, 1), (35, .iconst 1, 1), (36, .iadd, 1), (37, .iaload, 1), (38, .if_icmp .ge 114, 3), (41, .aload_n 0, 1), (42, .getfield 32, 3), (45, .iload_n 3, 1), (46, .laload, 1), (47, .lconst 0, 1), (48, .lcmp, 1), (49, .ifCond .eq 103, 3)]
set_option maxRecDepth 100000 in
theorem xi_ok164_1 : xi_ok cX7_step xi_164_1 = true := by decide +kernel
def xi_164_2 : XIs := [(52, .aload_n 1, 1), (53, .getfield 114, 3), (56, .iload 4, 2), (58, .iaload, 1), (59, .istore 5, 2), (61, .aload_n 1, 1), (62, .getfield 117, 3), (65, .iload 5, 2), (67, .iaload, 1), (68, .istore 6, 2), (70, .aload_n 0, 1), (71, .aload_n 0, 1), (72, .getfield 32, 3), (75, .iload_n 3, 1), (76, .laload, 1), (77, .aload_n 0, 1)]
set_option maxRecDepth 100000 in
theorem xi_ok164_2 : xi_ok cX7_step xi_164_2 = true := by decide +kernel
def xi_164_3 : XIs := [(78, .getfield 22, 3), (81, .aload_n 1, 1), (82, .getfield 120, 3), (85, .iload 5, 2), (87, .iaload, 1), (88, .laload, 1), (89, .land, 1), (90, .invokevirtual 123, 3), (93, .aload_n 0, 1), (94, .getfield 38, 3), (97, .iload 6, 2), (99, .laload, 1), (100, .ldc2_w 127, 3), (103, .lxor, 1), (104, .land, 1), (105, .lstore 7, 2)]
set_option maxRecDepth 100000 in
theorem xi_ok164_3 : xi_ok cX7_step xi_164_3 = true := by decide +kernel
def xi_164_4 : XIs := [(107, .aload_n 0, 1), (108, .getfield 35, 3), (111, .iload 6, 2), (113, .dup2, 1), (114, .laload, 1), (115, .lload 7, 2), (117, .lor, 1), (118, .lastore, 1), (119, .aload_n 0, 1), (120, .getfield 38, 3), (123, .iload 6, 2), (125, .dup2, 1), (126, .laload, 1), (127, .lload 7, 2), (129, .lor, 1), (130, .lastore, 1)]
set_option maxRecDepth 100000 in
theorem xi_ok164_4 : xi_ok cX7_step xi_164_4 = true := by decide +kernel
def xi_164_5 : XIs := [(131, .iload_n 2, 1), (132, .lload 7, 2), (134, .lconst 0, 1), (135, .lcmp, 1), (136, .ifCond .eq 7, 3), (139, .iconst 1, 1), (140, .goto 4, 3), (143, .iconst 0, 1), (144, .ior, 1), (145, .istore_n 2, 1), (146, .iinc 4 1, 3), (149, .goto (-121), 3), (152, .iinc 3 1, 3), (155, .goto (-143), 3), (158, .aload_n 0, 1), (159, .getfield 35, 3)]
set_option maxRecDepth 100000 in
theorem xi_ok164_5 : xi_ok cX7_step xi_164_5 = true := by decide +kernel
def xi_164_6 : XIs := [(162, .iconst 0, 1), (163, .aload_n 0, 1), (164, .getfield 32, 3), (167, .iconst 0, 1), (168, .bipush 32, 2), (170, .invokestatic 129, 3), (173, .iload_n 2, 1), (174, .ireturn, 1)]
set_option maxRecDepth 100000 in
theorem xi_ok164_6 : xi_ok cX7_step xi_164_6 = true := by decide +kernel
def xi_164 (pc : Nat) : XIs := cond (Nat.blt pc 78) (cond (Nat.blt pc 26) (xi_164_0) (cond (Nat.blt pc 52) (xi_164_1) (xi_164_2))) (cond (Nat.blt pc 131) (cond (Nat.blt pc 107) (xi_164_3) (xi_164_4)) (cond (Nat.blt pc 162) (xi_164_5) (xi_164_6)))
theorem xi_ok164 (pc : Nat) : xi_ok cX7_step (xi_164 pc) = true := xi_c (xi_c (xi_ok164_0) (xi_c (xi_ok164_1) (xi_ok164_2))) (xi_c (xi_c (xi_ok164_3) (xi_ok164_4)) (xi_c (xi_ok164_5) (xi_ok164_6)))
def xi_165 (pc : Nat) : XIs := []
theorem xi_ok165 (pc : Nat) : xi_ok cX7_behind (xi_165 pc) = true := rfl
def xi_166 (pc : Nat) : XIs := []
theorem xi_ok166 (pc : Nat) : xi_ok cX8_init (xi_166 pc) = true := rfl
def xi_167_0 : XIs := [(0, .aload_n 0, 1), (1, .iconst 0, 1), (2, .putfield 25, 3), (5, .aload_n 0, 1), (6, .iconst (-1), 1), (7, .putfield 15, 3), (10, .aload_n 0, 1), (11, .iconst (-1), 1), (12, .putfield 19, 3), (15, .return_, 1)]
set_option maxRecDepth 100000 in
theorem xi_ok167_0 : xi_ok cX8_begin xi_167_0 = true := by decide +kernel
def xi_167 (pc : Nat) : XIs := xi_167_0
theorem xi_ok167 (pc : Nat) : xi_ok cX8_begin (xi_167 pc) = true := xi_ok167_0
def xi_168_0 : XIs := [(0, .aload_n 0, 1), (1, .iload_n 1, 1), (2, .putfield 15, 3), (5, .aload_n 0, 1), (6, .iload_n 2, 1), (7, .putfield 19, 3), (10, .iconst 0, 1), (11, .ireturn, 1)]
set_option maxRecDepth 100000 in
theorem xi_ok168_0 : xi_ok cX8_accuse xi_168_0 = true := by decide +kernel
def xi_168 (pc : Nat) : XIs := xi_168_0
theorem xi_ok168 (pc : Nat) : xi_ok cX8_accuse (xi_168 pc) = true := xi_ok168_0
def xi_169_0 : XIs := [(0, .aload_n 0, 1), (1, .getfield 28, 3), (4, .iconst 4, 1), (5, .if_icmp .ne 13, 3), (8, .aload_n 0, 1), (9, .iconst 1, 1), (10, .aload_n 0, 1), (11, .getfield 31, 3), (14, .invokevirtual 34, 3), (17, .ireturn, 1), (18, .aload_n 0, 1), (19, .aload_n 0, 1), (20, .getfield 28, 3), (23, .iconst 5, 1), (24, .if_icmp .ne 7, 3), (27, .iload_n 2, 1)]
set_option maxRecDepth 100000 in
theorem xi_ok169_0 : xi_ok cX8_refuse xi_169_0 = true := by decide +kernel
def xi_169_1 : XIs := [(28, .goto 4, 3), (31, .iload_n 1, 1), (32, .aload_n 0, 1), (33, .getfield 31, 3), (36, .invokevirtual 34, 3), (39, .ireturn, 1)]
set_option maxRecDepth 100000 in
theorem xi_ok169_1 : xi_ok cX8_refuse xi_169_1 = true := by decide +kernel
def xi_169 (pc : Nat) : XIs := cond (Nat.blt pc 28) (xi_169_0) (xi_169_1)
theorem xi_ok169 (pc : Nat) : xi_ok cX8_refuse (xi_169 pc) = true := xi_c (xi_ok169_0) (xi_ok169_1)
def xi_170_0 : XIs := [(0, .aload_n 0, 1), (1, .getfield 28, 3), (4, .iconst 3, 1), (5, .if_icmp .ne 15, 3), (8, .aload_n 0, 1), (9, .getfield 38, 3), (12, .iload_n 1, 1), (13, .if_icmp .ne 7, 3), (16, .iconst 1, 1), (17, .goto 4, 3), (20, .iconst 0, 1), (21, .ireturn, 1)]
set_option maxRecDepth 100000 in
theorem xi_ok170_0 : xi_ok cX8_isAt xi_170_0 = true := by decide +kernel
def xi_170 (pc : Nat) : XIs := xi_170_0
theorem xi_ok170 (pc : Nat) : xi_ok cX8_isAt (xi_170 pc) = true := xi_ok170_0
def xi_171 (pc : Nat) : XIs := []
theorem xi_ok171 (pc : Nat) : xi_ok cX8_next (xi_171 pc) = true := rfl
def xi_172_0 : XIs := [(0, .iload_n 1, 1), (1, .aload_n 0, 1), (2, .getfield 41, 3), (5, .if_icmp .ge 29, 3), (8, .aload_n 0, 1), (9, .getfield 9, 3), (12, .iload_n 1, 1), (13, .caload, 1), (14, .bipush 48, 2), (16, .if_icmp .lt 18, 3), (19, .aload_n 0, 1), (20, .getfield 9, 3), (23, .iload_n 1, 1), (24, .caload, 1), (25, .bipush 57, 2), (27, .if_icmp .gt 7, 3)]
set_option maxRecDepth 100000 in
theorem xi_ok172_0 : xi_ok cX8_isDigit xi_172_0 = true := by decide +kernel
def xi_172_1 : XIs := [(30, .iconst 1, 1), (31, .goto 4, 3), (34, .iconst 0, 1), (35, .ireturn, 1)]
set_option maxRecDepth 100000 in
theorem xi_ok172_1 : xi_ok cX8_isDigit xi_172_1 = true := by decide +kernel
def xi_172 (pc : Nat) : XIs := cond (Nat.blt pc 30) (xi_172_0) (xi_172_1)
theorem xi_ok172 (pc : Nat) : xi_ok cX8_isDigit (xi_172 pc) = true := xi_c (xi_ok172_0) (xi_ok172_1)
def xi_173 (pc : Nat) : XIs := []
theorem xi_ok173 (pc : Nat) : xi_ok cX8_readNumber (xi_173 pc) = true := rfl
def xi_174_0 : XIs := [(0, .iload_n 0, 1), (1, .bipush 59, 2), (3, .if_icmp .eq 16, 3), (6, .iload_n 1, 1), (7, .ifCond .ne 16, 3), (10, .ldc 56, 2), (12, .iload_n 0, 1), (13, .invokevirtual 58, 3), (16, .ifCond .lt 7, 3), (19, .iconst 1, 1), (20, .goto 4, 3), (23, .iconst 0, 1), (24, .ireturn, 1)]
set_option maxRecDepth 100000 in
theorem xi_ok174_0 : xi_ok cX8_isSign xi_174_0 = true := by decide +kernel
def xi_174 (pc : Nat) : XIs := xi_174_0
theorem xi_ok174 (pc : Nat) : xi_ok cX8_isSign (xi_174 pc) = true := xi_ok174_0
def xi_175_0 : XIs := [(0, .aload_n 0, 1), (1, .iconst 0, 1), (2, .putfield 64, 3), (5, .iconst 0, 1), (6, .istore_n 2, 1), (7, .iload_n 2, 1), (8, .aload_n 1, 1), (9, .getfield 67, 3), (12, .if_icmp .ge 25, 3), (15, .aload_n 0, 1), (16, .bipush 110, 2), (18, .invokevirtual 72, 3), (21, .aload_n 0, 1), (22, .aload_n 1, 1), (23, .getfield 76, 3), (26, .iload_n 2, 1)]
set_option maxRecDepth 100000 in
theorem xi_ok175_0 : xi_ok cX8_write xi_175_0 = true := by decide +kernel
def xi_175_1 : XIs := [(27, .iaload, 1), (28, .invokevirtual 80, 3), (31, .iinc 2 1, 3), (34, .goto (-27), 3), (37, .iconst 0, 1), (38, .istore_n 2, 1), (39, .iload_n 2, 1), (40, .aload_n 1, 1), (41, .getfield 84, 3), (44, .if_icmp .ge 75, 3), (47, .aload_n 1, 1), (48, .getfield 87, 3), (51, .iload_n 2, 1), (52, .iaload, 1), (53, .iconst (-1), 1), (54, .if_icmp .eq 59, 3)]
set_option maxRecDepth 100000 in
theorem xi_ok175_1 : xi_ok cX8_write xi_175_1 = true := by decide +kernel
def xi_175_2 : XIs := [(57, .aload_n 0, 1), (58, .bipush 97, 2), (60, .invokevirtual 72, 3), (63, .aload_n 0, 1), (64, .aload_n 1, 1), (65, .getfield 87, 3), (68, .iload_n 2, 1), (69, .iaload, 1), (70, .invokevirtual 90, 3), (73, .aload_n 0, 1), (74, .aload_n 1, 1), (75, .getfield 93, 3), (78, .iload_n 2, 1), (79, .iaload, 1), (80, .invokevirtual 90, 3), (83, .aload_n 0, 1)]
set_option maxRecDepth 100000 in
theorem xi_ok175_2 : xi_ok cX8_write xi_175_2 = true := by decide +kernel
def xi_175_3 : XIs := [(84, .aload_n 1, 1), (85, .getfield 96, 3), (88, .iload_n 2, 1), (89, .iaload, 1), (90, .invokevirtual 90, 3), (93, .aload_n 0, 1), (94, .aload_n 1, 1), (95, .getfield 99, 3), (98, .iload_n 2, 1), (99, .iaload, 1), (100, .invokevirtual 90, 3), (103, .aload_n 0, 1), (104, .aload_n 1, 1), (105, .getfield 102, 3), (108, .iload_n 2, 1), (109, .iaload, 1)]
set_option maxRecDepth 100000 in
theorem xi_ok175_3 : xi_ok cX8_write xi_175_3 = true := by decide +kernel
def xi_175_4 : XIs := [(110, .invokevirtual 80, 3), (113, .iinc 2 1, 3), (116, .goto (-77), 3), (119, .aload_n 0, 1), (120, .getfield 64, 3), (123, .ireturn, 1)]
set_option maxRecDepth 100000 in
theorem xi_ok175_4 : xi_ok cX8_write xi_175_4 = true := by decide +kernel
def xi_175 (pc : Nat) : XIs := cond (Nat.blt pc 57) (cond (Nat.blt pc 27) (xi_175_0) (xi_175_1)) (cond (Nat.blt pc 84) (xi_175_2) (cond (Nat.blt pc 110) (xi_175_3) (xi_175_4)))
theorem xi_ok175 (pc : Nat) : xi_ok cX8_write (xi_175 pc) = true := xi_c (xi_c (xi_ok175_0) (xi_ok175_1)) (xi_c (xi_ok175_2) (xi_c (xi_ok175_3) (xi_ok175_4)))
def xi_176_0 : XIs := [(0, .aload_n 0, 1), (1, .bipush 32, 2), (3, .invokevirtual 72, 3), (6, .aload_n 0, 1), (7, .bipush 97, 2), (9, .iload_n 1, 1), (10, .iadd, 1), (11, .i2c, 1), (12, .invokevirtual 72, 3), (15, .aload_n 0, 1), (16, .bipush 59, 2), (18, .invokevirtual 72, 3), (21, .return_, 1)]
set_option maxRecDepth 100000 in
theorem xi_ok176_0 : xi_ok cX8_endCommand xi_176_0 = true := by decide +kernel
def xi_176 (pc : Nat) : XIs := xi_176_0
theorem xi_ok176 (pc : Nat) : xi_ok cX8_endCommand (xi_176 pc) = true := xi_ok176_0
def xi_177_0 : XIs := [(0, .aload_n 0, 1), (1, .getfield 64, 3), (4, .aload_n 0, 1), (5, .getfield 22, 3), (8, .arraylength, 1), (9, .if_icmp .ge 23, 3), (12, .aload_n 0, 1), (13, .getfield 22, 3), (16, .aload_n 0, 1), (17, .getfield 64, 3), (20, .iload_n 1, 1), (21, .castore, 1), (22, .aload_n 0, 1), (23, .dup, 1), (24, .getfield 64, 3), (27, .iconst 1, 1)]
set_option maxRecDepth 100000 in
theorem xi_ok177_0 : xi_ok cX8_put xi_177_0 = true := by decide +kernel
def xi_177_1 : XIs := [(28, .iadd, 1), (29, .putfield 64, 3), (32, .return_, 1)]
set_option maxRecDepth 100000 in
theorem xi_ok177_1 : xi_ok cX8_put xi_177_1 = true := by decide +kernel
def xi_177 (pc : Nat) : XIs := cond (Nat.blt pc 28) (xi_177_0) (xi_177_1)
theorem xi_ok177 (pc : Nat) : xi_ok cX8_put (xi_177 pc) = true := xi_c (xi_ok177_0) (xi_ok177_1)
def xi_178 (pc : Nat) : XIs := []
theorem xi_ok178 (pc : Nat) : xi_ok cX8_putNumber (xi_178 pc) = true := rfl
def xi_179 (pc : Nat) : XIs := []
theorem xi_ok179 (pc : Nat) : xi_ok cX9_init (xi_179 pc) = true := rfl
def xi_180 (pc : Nat) : XIs := []
theorem xi_ok180 (pc : Nat) : xi_ok cX9_leastRooted (xi_180 pc) = true := rfl
def xi_181 (pc : Nat) : XIs := []
theorem xi_ok181 (pc : Nat) : xi_ok cX9_copyArcs (xi_181 pc) = true := rfl
def xi_182 (pc : Nat) : XIs := []
theorem xi_ok182 (pc : Nat) : xi_ok cX9_takeCheapest (xi_182 pc) = true := rfl
def xi_183 (pc : Nat) : XIs := []
theorem xi_ok183 (pc : Nat) : xi_ok cX9_nameRings (xi_183 pc) = true := rfl
def xi_184 (pc : Nat) : XIs := []
theorem xi_ok184 (pc : Nat) : xi_ok cX9_nameOthers (xi_184 pc) = true := rfl
def xi_185 (pc : Nat) : XIs := []
theorem xi_ok185 (pc : Nat) : xi_ok cX9_shrinkRings (xi_185 pc) = true := rfl
def xi_186_0 : XIs := [(0, .aload_n 1, 1), (1, .iload_n 2, 1), (2, .invokevirtual 75, 3), (5, .ifCond .ne 5, 3), (8, .iconst 0, 1), (9, .ireturn, 1), (10, .aload_n 0, 1), (11, .getfield 34, 3), (14, .iconst 0, 1), (15, .invokestatic 96, 3), (18, .iconst 0, 1), (19, .istore_n 3, 1), (20, .iload_n 3, 1), (21, .aload_n 1, 1), (22, .getfield 72, 3), (25, .if_icmp .ge 70, 3)]
set_option maxRecDepth 100000 in
theorem xi_ok186_0 : xi_ok cX9_isSpanning xi_186_0 = true := by decide +kernel
def xi_186_1 : XIs := [(28, .aload_n 1, 1), (29, .iload_n 3, 1), (30, .invokevirtual 75, 3), (33, .ifCond .eq 56, 3), (36, .aload_n 1, 1), (37, .iload_n 3, 1), (38, .iload_n 2, 1), (39, .invokestatic 99, 3), (42, .ifCond .eq 47, 3), (45, .aload_n 0, 1), (46, .getfield 34, 3), (49, .aload_n 1, 1), (50, .getfield 79, 3), (53, .iload_n 3, 1), (54, .iaload, 1), (55, .dup2, 1)]
set_option maxRecDepth 100000 in
theorem xi_ok186_1 : xi_ok cX9_isSpanning xi_186_1 = true := by decide +kernel
def xi_186_2 : XIs := [(56, .iaload, 1), (57, .iconst 1, 1), (58, .aload_n 1, 1), (59, .getfield 82, 3), (62, .iload_n 3, 1), (63, .iaload, 1), (64, .ishl, 1), (65, .ior, 1), (66, .iastore, 1), (67, .aload_n 0, 1), (68, .getfield 34, 3), (71, .aload_n 1, 1), (72, .getfield 82, 3), (75, .iload_n 3, 1), (76, .iaload, 1), (77, .dup2, 1)]
set_option maxRecDepth 100000 in
theorem xi_ok186_2 : xi_ok cX9_isSpanning xi_186_2 = true := by decide +kernel
def xi_186_3 : XIs := [(78, .iaload, 1), (79, .iconst 1, 1), (80, .aload_n 1, 1), (81, .getfield 79, 3), (84, .iload_n 3, 1), (85, .iaload, 1), (86, .ishl, 1), (87, .ior, 1), (88, .iastore, 1), (89, .iinc 3 1, 3), (92, .goto (-72), 3), (95, .aload_n 0, 1), (96, .getfield 34, 3), (99, .iconst 1, 1), (100, .aload_n 1, 1), (101, .getfield 79, 3)]
set_option maxRecDepth 100000 in
theorem xi_ok186_3 : xi_ok cX9_isSpanning xi_186_3 = true := by decide +kernel
def xi_186_4 : XIs := [(104, .iload_n 2, 1), (105, .iaload, 1), (106, .ishl, 1), (107, .iconst (-1), 1), (108, .invokestatic 103, 3), (111, .aload_n 1, 1), (112, .getfield 82, 3), (115, .iload_n 2, 1), (116, .iaload, 1), (117, .ishr, 1), (118, .iconst 1, 1), (119, .iand, 1), (120, .ifCond .ne 7, 3), (123, .iconst 1, 1), (124, .goto 4, 3), (127, .iconst 0, 1)]
set_option maxRecDepth 100000 in
theorem xi_ok186_4 : xi_ok cX9_isSpanning xi_186_4 = true := by decide +kernel
def xi_186_5 : XIs := [(128, .ireturn, 1)]
set_option maxRecDepth 100000 in
theorem xi_ok186_5 : xi_ok cX9_isSpanning xi_186_5 = true := by decide +kernel
def xi_186 (pc : Nat) : XIs := cond (Nat.blt pc 78) (cond (Nat.blt pc 28) (xi_186_0) (cond (Nat.blt pc 56) (xi_186_1) (xi_186_2))) (cond (Nat.blt pc 104) (xi_186_3) (cond (Nat.blt pc 128) (xi_186_4) (xi_186_5)))
theorem xi_ok186 (pc : Nat) : xi_ok cX9_isSpanning (xi_186 pc) = true := xi_c (xi_c (xi_ok186_0) (xi_c (xi_ok186_1) (xi_ok186_2))) (xi_c (xi_ok186_3) (xi_c (xi_ok186_4) (xi_ok186_5)))
def xi_187_0 : XIs := [(0, .aload_n 0, 1), (1, .getfield 85, 3), (4, .iload_n 1, 1), (5, .iaload, 1), (6, .aload_n 0, 1), (7, .getfield 85, 3), (10, .iload_n 2, 1), (11, .iaload, 1), (12, .if_icmp .lt 23, 3), (15, .aload_n 0, 1), (16, .getfield 85, 3), (19, .iload_n 1, 1), (20, .iaload, 1), (21, .aload_n 0, 1), (22, .getfield 85, 3), (25, .iload_n 2, 1)]
set_option maxRecDepth 100000 in
theorem xi_ok187_0 : xi_ok cX9_isBefore xi_187_0 = true := by decide +kernel
def xi_187_1 : XIs := [(26, .iaload, 1), (27, .if_icmp .ne 12, 3), (30, .iload_n 1, 1), (31, .iload_n 2, 1), (32, .if_icmp .ge 7, 3), (35, .iconst 1, 1), (36, .goto 4, 3), (39, .iconst 0, 1), (40, .ireturn, 1)]
set_option maxRecDepth 100000 in
theorem xi_ok187_1 : xi_ok cX9_isBefore xi_187_1 = true := by decide +kernel
def xi_187 (pc : Nat) : XIs := cond (Nat.blt pc 26) (xi_187_0) (xi_187_1)
theorem xi_ok187 (pc : Nat) : xi_ok cX9_isBefore (xi_187 pc) = true := xi_c (xi_ok187_0) (xi_ok187_1)
def xi_188_0 : XIs := [(0, .aload_n 0, 1), (1, .getfield 37, 3), (4, .aload_n 1, 1), (5, .getfield 107, 3), (8, .if_icmp .eq 31, 3), (11, .aload_n 0, 1), (12, .aload_n 1, 1), (13, .getfield 107, 3), (16, .putfield 37, 3), (19, .aload_n 0, 1), (20, .aload_n 1, 1), (21, .getfield 48, 3), (24, .ifCond .ne 7, 3), (27, .iconst 0, 1), (28, .goto 8, 3), (31, .aload_n 0, 1)]
set_option maxRecDepth 100000 in
theorem xi_ok188_0 : xi_ok cX9_countSpanning xi_188_0 = true := by decide +kernel
def xi_188_1 : XIs := [(32, .aload_n 1, 1), (33, .invokevirtual 110, 3), (36, .putfield 114, 3), (39, .aload_n 0, 1), (40, .getfield 114, 3), (43, .ireturn, 1)]
set_option maxRecDepth 100000 in
theorem xi_ok188_1 : xi_ok cX9_countSpanning xi_188_1 = true := by decide +kernel
def xi_188 (pc : Nat) : XIs := cond (Nat.blt pc 32) (xi_188_0) (xi_188_1)
theorem xi_ok188 (pc : Nat) : xi_ok cX9_countSpanning (xi_188 pc) = true := xi_c (xi_ok188_0) (xi_ok188_1)
def xi_189_0 : XIs := [(0, .aload_n 0, 1), (1, .getfield 41, 3), (4, .lconst 0, 1), (5, .invokestatic 90, 3), (8, .iconst 0, 1), (9, .istore_n 2, 1), (10, .iload_n 2, 1), (11, .aload_n 1, 1), (12, .getfield 72, 3), (15, .if_icmp .ge 117, 3), (18, .aload_n 1, 1), (19, .iload_n 2, 1), (20, .invokevirtual 75, 3), (23, .ifCond .eq 103, 3), (26, .aload_n 0, 1), (27, .getfield 41, 3)]
set_option maxRecDepth 100000 in
theorem xi_ok189_0 : xi_ok cX9_countTrees xi_189_0 = true := by decide +kernel
def xi_189_1 : XIs := [(30, .aload_n 1, 1), (31, .getfield 79, 3), (34, .iload_n 2, 1), (35, .iaload, 1), (36, .bipush 32, 2), (38, .imul, 1), (39, .aload_n 1, 1), (40, .getfield 79, 3), (43, .iload_n 2, 1), (44, .iaload, 1), (45, .iadd, 1), (46, .dup2, 1), (47, .laload, 1), (48, .lconst 1, 1), (49, .ladd, 1), (50, .lastore, 1)]
set_option maxRecDepth 100000 in
theorem xi_ok189_1 : xi_ok cX9_countTrees xi_189_1 = true := by decide +kernel
def xi_189_2 : XIs := [(51, .aload_n 0, 1), (52, .getfield 41, 3), (55, .aload_n 1, 1), (56, .getfield 82, 3), (59, .iload_n 2, 1), (60, .iaload, 1), (61, .bipush 32, 2), (63, .imul, 1), (64, .aload_n 1, 1), (65, .getfield 82, 3), (68, .iload_n 2, 1), (69, .iaload, 1), (70, .iadd, 1), (71, .dup2, 1), (72, .laload, 1), (73, .lconst 1, 1)]
set_option maxRecDepth 100000 in
theorem xi_ok189_2 : xi_ok cX9_countTrees xi_189_2 = true := by decide +kernel
def xi_189_3 : XIs := [(74, .ladd, 1), (75, .lastore, 1), (76, .aload_n 0, 1), (77, .getfield 41, 3), (80, .aload_n 1, 1), (81, .getfield 79, 3), (84, .iload_n 2, 1), (85, .iaload, 1), (86, .bipush 32, 2), (88, .imul, 1), (89, .aload_n 1, 1), (90, .getfield 82, 3), (93, .iload_n 2, 1), (94, .iaload, 1), (95, .iadd, 1), (96, .dup2, 1)]
set_option maxRecDepth 100000 in
theorem xi_ok189_3 : xi_ok cX9_countTrees xi_189_3 = true := by decide +kernel
def xi_189_4 : XIs := [(97, .laload, 1), (98, .lconst 1, 1), (99, .lsub, 1), (100, .lastore, 1), (101, .aload_n 0, 1), (102, .getfield 41, 3), (105, .aload_n 1, 1), (106, .getfield 82, 3), (109, .iload_n 2, 1), (110, .iaload, 1), (111, .bipush 32, 2), (113, .imul, 1), (114, .aload_n 1, 1), (115, .getfield 79, 3), (118, .iload_n 2, 1), (119, .iaload, 1)]
set_option maxRecDepth 100000 in
theorem xi_ok189_4 : xi_ok cX9_countTrees xi_189_4 = true := by decide +kernel
def xi_189_5 : XIs := [(120, .iadd, 1), (121, .dup2, 1), (122, .laload, 1), (123, .lconst 1, 1), (124, .lsub, 1), (125, .lastore, 1), (126, .iinc 2 1, 3), (129, .goto (-119), 3), (132, .iconst 0, 1), (133, .istore_n 2, 1), (134, .iload_n 2, 1), (135, .aload_n 0, 1), (136, .getfield 41, 3), (139, .arraylength, 1), (140, .if_icmp .ge 27, 3), (143, .aload_n 0, 1)]
set_option maxRecDepth 100000 in
theorem xi_ok189_5 : xi_ok cX9_countTrees xi_189_5 = true := by decide +kernel
def xi_189_6 : XIs := [(144, .getfield 41, 3), (147, .iload_n 2, 1), (148, .aload_n 0, 1), (149, .getfield 41, 3), (152, .iload_n 2, 1), (153, .laload, 1), (154, .ldc2_w 117, 3), (157, .invokestatic 119, 3), (160, .lastore, 1), (161, .iinc 2 1, 3), (164, .goto (-30), 3), (167, .aload_n 1, 1), (168, .getfield 48, 3), (171, .iconst 1, 1), (172, .isub, 1), (173, .istore_n 2, 1)]
set_option maxRecDepth 100000 in
theorem xi_ok189_6 : xi_ok cX9_countTrees xi_189_6 = true := by decide +kernel
def xi_189_7 : XIs := [(174, .lconst 1, 1), (175, .lstore_n 3, 1), (176, .iconst 0, 1), (177, .istore 5, 2), (179, .iload 5, 2), (181, .iload_n 2, 1), (182, .if_icmp .ge 29, 3), (185, .lload_n 3, 1), (186, .lconst 0, 1), (187, .lcmp, 1), (188, .ifCond .eq 23, 3), (191, .lload_n 3, 1), (192, .aload_n 0, 1), (193, .iload 5, 2), (195, .iload_n 2, 1), (196, .invokevirtual 125, 3)]
set_option maxRecDepth 100000 in
theorem xi_ok189_7 : xi_ok cX9_countTrees xi_189_7 = true := by decide +kernel
def xi_189_8 : XIs := [(199, .lmul, 1), (200, .ldc2_w 117, 3), (203, .lrem, 1), (204, .lstore_n 3, 1), (205, .iinc 5 1, 3), (208, .goto (-29), 3), (211, .lload_n 3, 1), (212, .l2i, 1), (213, .ireturn, 1)]
set_option maxRecDepth 100000 in
theorem xi_ok189_8 : xi_ok cX9_countTrees xi_189_8 = true := by decide +kernel
def xi_189 (pc : Nat) : XIs := cond (Nat.blt pc 97) (cond (Nat.blt pc 51) (cond (Nat.blt pc 30) (xi_189_0) (xi_189_1)) (cond (Nat.blt pc 74) (xi_189_2) (xi_189_3))) (cond (Nat.blt pc 144) (cond (Nat.blt pc 120) (xi_189_4) (xi_189_5)) (cond (Nat.blt pc 174) (xi_189_6) (cond (Nat.blt pc 199) (xi_189_7) (xi_189_8))))
theorem xi_ok189 (pc : Nat) : xi_ok cX9_countTrees (xi_189 pc) = true := xi_c (xi_c (xi_c (xi_ok189_0) (xi_ok189_1)) (xi_c (xi_ok189_2) (xi_ok189_3))) (xi_c (xi_c (xi_ok189_4) (xi_ok189_5)) (xi_c (xi_ok189_6) (xi_c (xi_ok189_7) (xi_ok189_8))))
def xi_190_0 : XIs := [(0, .iload_n 1, 1), (1, .istore_n 3, 1), (2, .iload_n 3, 1), (3, .iload_n 2, 1), (4, .if_icmp .ge 25, 3), (7, .aload_n 0, 1), (8, .getfield 41, 3), (11, .iload_n 3, 1), (12, .bipush 32, 2), (14, .imul, 1), (15, .iload_n 1, 1), (16, .iadd, 1), (17, .laload, 1), (18, .lconst 0, 1), (19, .lcmp, 1), (20, .ifCond .ne 9, 3)]
set_option maxRecDepth 100000 in
theorem xi_ok190_0 : xi_ok cX9_pivot xi_190_0 = true := by decide +kernel
def xi_190_1 : XIs := [(23, .iinc 3 1, 3), (26, .goto (-24), 3), (29, .iload_n 3, 1), (30, .iload_n 2, 1), (31, .if_icmp .lt 5, 3), (34, .lconst 0, 1), (35, .lreturn, 1), (36, .iload_n 3, 1), (37, .iload_n 1, 1), (38, .if_icmp .eq 9, 3), (41, .aload_n 0, 1), (42, .iload_n 3, 1), (43, .iload_n 1, 1), (44, .invokevirtual 129, 3), (47, .aload_n 0, 1), (48, .getfield 41, 3)]
set_option maxRecDepth 100000 in
theorem xi_ok190_1 : xi_ok cX9_pivot xi_190_1 = true := by decide +kernel
def xi_190_2 : XIs := [(51, .iload_n 1, 1), (52, .bipush 32, 2), (54, .imul, 1), (55, .iload_n 1, 1), (56, .iadd, 1), (57, .laload, 1), (58, .lstore 4, 2), (60, .lload 4, 2), (62, .ldc2_w 133, 3), (65, .invokestatic 135, 3), (68, .lstore 6, 2), (70, .iload_n 1, 1), (71, .iconst 1, 1), (72, .iadd, 1), (73, .istore 8, 2), (75, .iload 8, 2)]
set_option maxRecDepth 100000 in
theorem xi_ok190_2 : xi_ok cX9_pivot xi_190_2 = true := by decide +kernel
def xi_190_3 : XIs := [(77, .iload_n 2, 1), (78, .if_icmp .ge 102, 3), (81, .ldc2_w 117, 3), (84, .aload_n 0, 1), (85, .getfield 41, 3), (88, .iload 8, 2), (90, .bipush 32, 2), (92, .imul, 1), (93, .iload_n 1, 1), (94, .iadd, 1), (95, .laload, 1), (96, .lsub, 1), (97, .lload 6, 2), (99, .lmul, 1), (100, .ldc2_w 117, 3), (103, .lrem, 1)]
set_option maxRecDepth 100000 in
theorem xi_ok190_3 : xi_ok cX9_pivot xi_190_3 = true := by decide +kernel
def xi_190_4 : XIs := [(104, .lstore 9, 2), (106, .iload_n 1, 1), (107, .istore 11, 2), (109, .iload 11, 2), (111, .iload_n 2, 1), (112, .if_icmp .ge 62, 3), (115, .lload 9, 2), (117, .lconst 0, 1), (118, .lcmp, 1), (119, .ifCond .eq 55, 3), (122, .aload_n 0, 1), (123, .getfield 41, 3), (126, .iload 8, 2), (128, .bipush 32, 2), (130, .imul, 1), (131, .iload 11, 2)]
set_option maxRecDepth 100000 in
theorem xi_ok190_4 : xi_ok cX9_pivot xi_190_4 = true := by decide +kernel
def xi_190_5 : XIs := [(133, .iadd, 1), (134, .aload_n 0, 1), (135, .getfield 41, 3), (138, .iload 8, 2), (140, .bipush 32, 2), (142, .imul, 1), (143, .iload 11, 2), (145, .iadd, 1), (146, .laload, 1), (147, .lload 9, 2), (149, .aload_n 0, 1), (150, .getfield 41, 3), (153, .iload_n 1, 1), (154, .bipush 32, 2), (156, .imul, 1), (157, .iload 11, 2)]
set_option maxRecDepth 100000 in
theorem xi_ok190_5 : xi_ok cX9_pivot xi_190_5 = true := by decide +kernel
def xi_190_6 : XIs := [(159, .iadd, 1), (160, .laload, 1), (161, .lmul, 1), (162, .ladd, 1), (163, .ldc2_w 117, 3), (166, .lrem, 1), (167, .lastore, 1), (168, .iinc 11 1, 3), (171, .goto (-62), 3), (174, .iinc 8 1, 3), (177, .goto (-102), 3), (180, .iload_n 3, 1), (181, .iload_n 1, 1), (182, .if_icmp .ne 8, 3), (185, .lload 4, 2), (187, .goto 9, 3)]
set_option maxRecDepth 100000 in
theorem xi_ok190_6 : xi_ok cX9_pivot xi_190_6 = true := by decide +kernel
def xi_190_7 : XIs := [(190, .ldc2_w 117, 3), (193, .lload 4, 2), (195, .lsub, 1), (196, .lreturn, 1)]
set_option maxRecDepth 100000 in
theorem xi_ok190_7 : xi_ok cX9_pivot xi_190_7 = true := by decide +kernel
def xi_190 (pc : Nat) : XIs := cond (Nat.blt pc 104) (cond (Nat.blt pc 51) (cond (Nat.blt pc 23) (xi_190_0) (xi_190_1)) (cond (Nat.blt pc 77) (xi_190_2) (xi_190_3))) (cond (Nat.blt pc 159) (cond (Nat.blt pc 133) (xi_190_4) (xi_190_5)) (cond (Nat.blt pc 190) (xi_190_6) (xi_190_7)))
theorem xi_ok190 (pc : Nat) : xi_ok cX9_pivot (xi_190 pc) = true := xi_c (xi_c (xi_c (xi_ok190_0) (xi_ok190_1)) (xi_c (xi_ok190_2) (xi_ok190_3))) (xi_c (xi_c (xi_ok190_4) (xi_ok190_5)) (xi_c (xi_ok190_6) (xi_ok190_7)))
def xi_191_0 : XIs := [(0, .iconst 0, 1), (1, .istore_n 3, 1), (2, .iload_n 3, 1), (3, .bipush 32, 2), (5, .if_icmp .ge 57, 3), (8, .aload_n 0, 1), (9, .getfield 41, 3), (12, .iload_n 1, 1), (13, .bipush 32, 2), (15, .imul, 1), (16, .iload_n 3, 1), (17, .iadd, 1), (18, .laload, 1), (19, .lstore 4, 2), (21, .aload_n 0, 1), (22, .getfield 41, 3)]
set_option maxRecDepth 100000 in
theorem xi_ok191_0 : xi_ok cX9_swapRows xi_191_0 = true := by decide +kernel
def xi_191_1 : XIs := [(25, .iload_n 1, 1), (26, .bipush 32, 2), (28, .imul, 1), (29, .iload_n 3, 1), (30, .iadd, 1), (31, .aload_n 0, 1), (32, .getfield 41, 3), (35, .iload_n 2, 1), (36, .bipush 32, 2), (38, .imul, 1), (39, .iload_n 3, 1), (40, .iadd, 1), (41, .laload, 1), (42, .lastore, 1), (43, .aload_n 0, 1), (44, .getfield 41, 3)]
set_option maxRecDepth 100000 in
theorem xi_ok191_1 : xi_ok cX9_swapRows xi_191_1 = true := by decide +kernel
def xi_191_2 : XIs := [(47, .iload_n 2, 1), (48, .bipush 32, 2), (50, .imul, 1), (51, .iload_n 3, 1), (52, .iadd, 1), (53, .lload 4, 2), (55, .lastore, 1), (56, .iinc 3 1, 3), (59, .goto (-57), 3), (62, .return_, 1)]
set_option maxRecDepth 100000 in
theorem xi_ok191_2 : xi_ok cX9_swapRows xi_191_2 = true := by decide +kernel
def xi_191 (pc : Nat) : XIs := cond (Nat.blt pc 25) (xi_191_0) (cond (Nat.blt pc 47) (xi_191_1) (xi_191_2))
theorem xi_ok191 (pc : Nat) : xi_ok cX9_swapRows (xi_191 pc) = true := xi_c (xi_ok191_0) (xi_c (xi_ok191_1) (xi_ok191_2))
def xi_192 (pc : Nat) : XIs := []
theorem xi_ok192 (pc : Nat) : xi_ok cX9_power (xi_192 pc) = true := rfl
def xi_193 (pc : Nat) : XIs := []
theorem xi_ok193 (pc : Nat) : xi_ok cX10_init (xi_193 pc) = true := rfl
def xi_194_0 : XIs := [(0, .aload_n 0, 1), (1, .aload_n 1, 1), (2, .iload_n 3, 1), (3, .invokevirtual 38, 3), (6, .aload_n 0, 1), (7, .getfield 42, 3), (10, .iload_n 2, 1), (11, .ishr, 1), (12, .iconst 1, 1), (13, .iand, 1), (14, .ifCond .eq 7, 3), (17, .ldc2_w 45, 3), (20, .lreturn, 1), (21, .aload_n 0, 1), (22, .getfield 15, 3), (25, .iload_n 2, 1)]
set_option maxRecDepth 100000 in
theorem xi_ok194_0 : xi_ok cX10_leastWeight xi_194_0 = true := by decide +kernel
def xi_194_1 : XIs := [(26, .laload, 1), (27, .ldc2_w 47, 3), (30, .lcmp, 1), (31, .ifCond .ne 9, 3), (34, .ldc2_w 49, 3), (37, .goto 15, 3), (40, .aload_n 0, 1), (41, .getfield 15, 3), (44, .iload_n 2, 1), (45, .laload, 1), (46, .ldc2_w 51, 3), (49, .invokestatic 53, 3), (52, .lreturn, 1)]
set_option maxRecDepth 100000 in
theorem xi_ok194_1 : xi_ok cX10_leastWeight xi_194_1 = true := by decide +kernel
def xi_194 (pc : Nat) : XIs := cond (Nat.blt pc 26) (xi_194_0) (xi_194_1)
theorem xi_ok194 (pc : Nat) : xi_ok cX10_leastWeight (xi_194 pc) = true := xi_c (xi_ok194_0) (xi_ok194_1)
def xi_195 (pc : Nat) : XIs := []
theorem xi_ok195 (pc : Nat) : xi_ok cX10_leastArc (xi_195 pc) = true := rfl
def xi_196 (pc : Nat) : XIs := []
theorem xi_ok196 (pc : Nat) : xi_ok cX10_stepFrom (xi_196 pc) = true := rfl
def xi_197_0 : XIs := [(0, .aload_n 0, 1), (1, .getfield 81, 3), (4, .iload_n 1, 1), (5, .iaload, 1), (6, .i2l, 1), (7, .ldc2_w 51, 3), (10, .lmul, 1), (11, .lconst 1, 1), (12, .ladd, 1), (13, .lreturn, 1)]
set_option maxRecDepth 100000 in
theorem xi_ok197_0 : xi_ok cX10_costOf xi_197_0 = true := by decide +kernel
def xi_197 (pc : Nat) : XIs := xi_197_0
theorem xi_ok197 (pc : Nat) : xi_ok cX10_costOf (xi_197 pc) = true := xi_ok197_0
def xi_198_0 : XIs := [(0, .aload_n 1, 1), (1, .invokevirtual 84, 3), (4, .aload_n 0, 1), (5, .getfield 9, 3), (8, .aload_n 1, 1), (9, .getfield 87, 3), (12, .if_icmp .ne 12, 3), (15, .aload_n 0, 1), (16, .getfield 90, 3), (19, .iload_n 2, 1), (20, .if_icmp .ne 4, 3), (23, .return_, 1), (24, .aload_n 0, 1), (25, .aload_n 1, 1), (26, .getfield 87, 3), (29, .putfield 9, 3)]
set_option maxRecDepth 100000 in
theorem xi_ok198_0 : xi_ok cX10_measure xi_198_0 = true := by decide +kernel
def xi_198_1 : XIs := [(32, .aload_n 0, 1), (33, .iload_n 2, 1), (34, .putfield 90, 3), (37, .aload_n 0, 1), (38, .getfield 15, 3), (41, .ldc2_w 47, 3), (44, .invokestatic 93, 3), (47, .aload_n 0, 1), (48, .getfield 15, 3), (51, .iload_n 2, 1), (52, .lconst 0, 1), (53, .lastore, 1), (54, .iconst 1, 1), (55, .iload_n 2, 1), (56, .ishl, 1), (57, .istore_n 3, 1)]
set_option maxRecDepth 100000 in
theorem xi_ok198_1 : xi_ok cX10_measure xi_198_1 = true := by decide +kernel
def xi_198_2 : XIs := [(58, .iconst 0, 1), (59, .istore 4, 2), (61, .iload 4, 2), (63, .aload_n 1, 1), (64, .getfield 99, 3), (67, .if_icmp .ge 20, 3), (70, .iload_n 3, 1), (71, .ifCond .eq 16, 3), (74, .aload_n 0, 1), (75, .aload_n 1, 1), (76, .iload_n 3, 1), (77, .invokevirtual 102, 3), (80, .istore_n 3, 1), (81, .iinc 4 1, 3), (84, .goto (-23), 3), (87, .aload_n 0, 1)]
set_option maxRecDepth 100000 in
theorem xi_ok198_2 : xi_ok cX10_measure xi_198_2 = true := by decide +kernel
def xi_198_3 : XIs := [(88, .iload_n 3, 1), (89, .ifCond .ne 7, 3), (92, .iconst 0, 1), (93, .goto 17, 3), (96, .aload_n 1, 1), (97, .getfield 105, 3), (100, .aload_n 0, 1), (101, .aload_n 1, 1), (102, .iload_n 3, 1), (103, .invokevirtual 102, 3), (106, .iconst (-1), 1), (107, .invokestatic 108, 3), (110, .putfield 42, 3), (113, .return_, 1)]
set_option maxRecDepth 100000 in
theorem xi_ok198_3 : xi_ok cX10_measure xi_198_3 = true := by decide +kernel
def xi_198 (pc : Nat) : XIs := cond (Nat.blt pc 58) (cond (Nat.blt pc 32) (xi_198_0) (xi_198_1)) (cond (Nat.blt pc 88) (xi_198_2) (xi_198_3))
theorem xi_ok198 (pc : Nat) : xi_ok cX10_measure (xi_198 pc) = true := xi_c (xi_c (xi_ok198_0) (xi_ok198_1)) (xi_c (xi_ok198_2) (xi_ok198_3))
def xi_199 (pc : Nat) : XIs := []
theorem xi_ok199 (pc : Nat) : xi_ok cX10_relax (xi_199 pc) = true := rfl
def xi_200 (pc : Nat) : XIs := []
theorem xi_ok200 (pc : Nat) : xi_ok cX10_widest (xi_200 pc) = true := rfl
def xi_201 (pc : Nat) : XIs := []
theorem xi_ok201 (pc : Nat) : xi_ok cX10_widestOf (xi_201 pc) = true := rfl
def xi_202_0 : XIs := [(0, .aload_n 0, 1), (1, .aload_n 1, 1), (2, .iload_n 2, 1), (3, .invokevirtual 146, 3), (6, .aload_n 0, 1), (7, .getfield 23, 3), (10, .iload_n 3, 1), (11, .iaload, 1), (12, .ireturn, 1)]
set_option maxRecDepth 100000 in
theorem xi_ok202_0 : xi_ok cX10_fewestArcs xi_202_0 = true := by decide +kernel
def xi_202 (pc : Nat) : XIs := xi_202_0
theorem xi_ok202 (pc : Nat) : xi_ok cX10_fewestArcs (xi_202 pc) = true := xi_ok202_0
def xi_203_0 : XIs := [(0, .aload_n 0, 1), (1, .aload_n 1, 1), (2, .iload_n 2, 1), (3, .invokevirtual 146, 3), (6, .aload_n 0, 1), (7, .getfield 23, 3), (10, .iload_n 3, 1), (11, .iaload, 1), (12, .istore 5, 2), (14, .aload_n 0, 1), (15, .getfield 23, 3), (18, .iload 4, 2), (20, .iaload, 1), (21, .istore 6, 2), (23, .aload_n 0, 1), (24, .getfield 26, 3)]
set_option maxRecDepth 100000 in
theorem xi_ok203_0 : xi_ok cX10_countBy xi_203_0 = true := by decide +kernel
def xi_203_1 : XIs := [(27, .iload 4, 2), (29, .laload, 1), (30, .lstore 7, 2), (32, .iload 5, 2), (34, .iconst (-1), 1), (35, .if_icmp .eq 9, 3), (38, .iload 6, 2), (40, .iconst (-1), 1), (41, .if_icmp .ne 5, 3), (44, .iconst 0, 1), (45, .ireturn, 1), (46, .iload 4, 2), (48, .iload_n 2, 1), (49, .if_icmp .eq 10, 3), (52, .aload_n 0, 1), (53, .aload_n 1, 1)]
set_option maxRecDepth 100000 in
theorem xi_ok203_1 : xi_ok cX10_countBy xi_203_1 = true := by decide +kernel
def xi_203_2 : XIs := [(54, .iload 4, 2), (56, .invokevirtual 146, 3), (59, .aload_n 0, 1), (60, .getfield 23, 3), (63, .iload_n 3, 1), (64, .iaload, 1), (65, .iconst (-1), 1), (66, .if_icmp .eq 17, 3), (69, .iload 6, 2), (71, .aload_n 0, 1), (72, .getfield 23, 3), (75, .iload_n 3, 1), (76, .iaload, 1), (77, .iadd, 1), (78, .iload 5, 2), (80, .if_icmp .eq 5, 3)]
set_option maxRecDepth 100000 in
theorem xi_ok203_2 : xi_ok cX10_countBy xi_203_2 = true := by decide +kernel
def xi_203_3 : XIs := [(83, .iconst 0, 1), (84, .ireturn, 1), (85, .lload 7, 2), (87, .aload_n 0, 1), (88, .getfield 26, 3), (91, .iload_n 3, 1), (92, .laload, 1), (93, .lmul, 1), (94, .ldc2_w 149, 3), (97, .lrem, 1), (98, .l2i, 1), (99, .ireturn, 1)]
set_option maxRecDepth 100000 in
theorem xi_ok203_3 : xi_ok cX10_countBy xi_203_3 = true := by decide +kernel
def xi_203 (pc : Nat) : XIs := cond (Nat.blt pc 54) (cond (Nat.blt pc 27) (xi_203_0) (xi_203_1)) (cond (Nat.blt pc 83) (xi_203_2) (xi_203_3))
theorem xi_ok203 (pc : Nat) : xi_ok cX10_countBy (xi_203 pc) = true := xi_c (xi_c (xi_ok203_0) (xi_ok203_1)) (xi_c (xi_ok203_2) (xi_ok203_3))
def xi_204 (pc : Nat) : XIs := []
theorem xi_ok204 (pc : Nat) : xi_ok cX10_spread (xi_204 pc) = true := rfl
def xi_205_0 : XIs := [(0, .aload_n 0, 1), (1, .aload_n 1, 1), (2, .iload_n 2, 1), (3, .iload_n 3, 1), (4, .invokevirtual 151, 3), (7, .aload_n 0, 1), (8, .getfield 155, 3), (11, .sipush 2000, 3), (14, .if_icmp .le 8, 3), (17, .bipush (-2), 2), (19, .goto 7, 3), (22, .aload_n 0, 1), (23, .getfield 155, 3), (26, .ireturn, 1)]
set_option maxRecDepth 100000 in
theorem xi_ok205_0 : xi_ok cX10_countShort xi_205_0 = true := by decide +kernel
def xi_205 (pc : Nat) : XIs := xi_205_0
theorem xi_ok205 (pc : Nat) : xi_ok cX10_countShort (xi_205 pc) = true := xi_ok205_0
def xi_206_0 : XIs := [(0, .aload_n 0, 1), (1, .aload_n 1, 1), (2, .iload_n 2, 1), (3, .iload_n 3, 1), (4, .invokevirtual 151, 3), (7, .aload_n 0, 1), (8, .getfield 155, 3), (11, .sipush 2000, 3), (14, .if_icmp .gt 12, 3), (17, .iload 4, 2), (19, .aload_n 0, 1), (20, .getfield 155, 3), (23, .if_icmp .lt 5, 3), (26, .iconst (-1), 1), (27, .ireturn, 1), (28, .aload_n 0, 1)]
set_option maxRecDepth 100000 in
theorem xi_ok206_0 : xi_ok cX10_arcOfShort xi_206_0 = true := by decide +kernel
def xi_206_1 : XIs := [(29, .getfield 35, 3), (32, .iload 4, 2), (34, .laload, 1), (35, .lstore 6, 2), (37, .iload 5, 2), (39, .lload 6, 2), (41, .bipush 32, 2), (43, .lshr, 1), (44, .ldc2_w 158, 3), (47, .land, 1), (48, .l2i, 1), (49, .if_icmp .lt 5, 3), (52, .iconst (-1), 1), (53, .ireturn, 1), (54, .lload 6, 2), (56, .bipush 24, 2)]
set_option maxRecDepth 100000 in
theorem xi_ok206_1 : xi_ok cX10_arcOfShort xi_206_1 = true := by decide +kernel
def xi_206_2 : XIs := [(58, .bipush 8, 2), (60, .iload 5, 2), (62, .imul, 1), (63, .isub, 1), (64, .lshr, 1), (65, .ldc2_w 160, 3), (68, .land, 1), (69, .l2i, 1), (70, .ireturn, 1)]
set_option maxRecDepth 100000 in
theorem xi_ok206_2 : xi_ok cX10_arcOfShort xi_206_2 = true := by decide +kernel
def xi_206 (pc : Nat) : XIs := cond (Nat.blt pc 29) (xi_206_0) (cond (Nat.blt pc 58) (xi_206_1) (xi_206_2))
theorem xi_ok206 (pc : Nat) : xi_ok cX10_arcOfShort (xi_206 pc) = true := xi_c (xi_ok206_0) (xi_c (xi_ok206_1) (xi_ok206_2))
def xi_207_0 : XIs := [(0, .aload_n 0, 1), (1, .getfield 32, 3), (4, .aload_n 1, 1), (5, .getfield 87, 3), (8, .if_icmp .ne 20, 3), (11, .aload_n 0, 1), (12, .getfield 162, 3), (15, .iload_n 2, 1), (16, .if_icmp .ne 12, 3), (19, .aload_n 0, 1), (20, .getfield 165, 3), (23, .iload_n 3, 1), (24, .if_icmp .ne 4, 3), (27, .return_, 1), (28, .aload_n 1, 1), (29, .invokevirtual 84, 3)]
set_option maxRecDepth 100000 in
theorem xi_ok207_0 : xi_ok cX10_collect xi_207_0 = true := by decide +kernel
def xi_207_1 : XIs := [(32, .aload_n 0, 1), (33, .aload_n 1, 1), (34, .getfield 87, 3), (37, .putfield 32, 3), (40, .aload_n 0, 1), (41, .iload_n 2, 1), (42, .putfield 162, 3), (45, .aload_n 0, 1), (46, .iload_n 3, 1), (47, .putfield 165, 3), (50, .aload_n 0, 1), (51, .iconst 0, 1), (52, .putfield 155, 3), (55, .aload_n 0, 1), (56, .aload_n 1, 1), (57, .iload_n 2, 1)]
set_option maxRecDepth 100000 in
theorem xi_ok207_1 : xi_ok cX10_collect xi_207_1 = true := by decide +kernel
def xi_207_2 : XIs := [(58, .iconst 1, 1), (59, .iload_n 2, 1), (60, .ishl, 1), (61, .iconst 0, 1), (62, .lconst 0, 1), (63, .invokevirtual 168, 3), (66, .aload_n 0, 1), (67, .getfield 155, 3), (70, .sipush 2000, 3), (73, .if_icmp .gt 7, 3), (76, .aload_n 0, 1), (77, .invokevirtual 172, 3), (80, .return_, 1)]
set_option maxRecDepth 100000 in
theorem xi_ok207_2 : xi_ok cX10_collect xi_207_2 = true := by decide +kernel
def xi_207 (pc : Nat) : XIs := cond (Nat.blt pc 32) (xi_207_0) (cond (Nat.blt pc 58) (xi_207_1) (xi_207_2))
theorem xi_ok207 (pc : Nat) : xi_ok cX10_collect (xi_207 pc) = true := xi_c (xi_ok207_0) (xi_c (xi_ok207_1) (xi_ok207_2))
def xi_208_0 : XIs := [(0, .aload_n 1, 1), (1, .getfield 71, 3), (4, .iload_n 2, 1), (5, .iaload, 1), (6, .istore 7, 2), (8, .iload 7, 2), (10, .aload_n 1, 1), (11, .getfield 71, 3), (14, .iload_n 2, 1), (15, .iconst 1, 1), (16, .iadd, 1), (17, .iaload, 1), (18, .if_icmp .ge 166, 3), (21, .aload_n 0, 1), (22, .getfield 155, 3), (25, .sipush 2000, 3)]
set_option maxRecDepth 100000 in
theorem xi_ok208_0 : xi_ok cX10_gather xi_208_0 = true := by decide +kernel
def xi_208_1 : XIs := [(28, .if_icmp .gt 156, 3), (31, .iload 4, 2), (33, .iconst 4, 1), (34, .if_icmp .ge 150, 3), (37, .aload_n 1, 1), (38, .getfield 74, 3), (41, .iload 7, 2), (43, .iaload, 1), (44, .istore 8, 2), (46, .aload_n 1, 1), (47, .getfield 66, 3), (50, .iload 8, 2), (52, .iaload, 1), (53, .istore 9, 2), (55, .lload 5, 2), (57, .aload_n 1, 1)]
set_option maxRecDepth 100000 in
theorem xi_ok208_1 : xi_ok cX10_gather xi_208_1 = true := by decide +kernel
def xi_208_2 : XIs := [(58, .getfield 81, 3), (61, .iload 8, 2), (63, .iaload, 1), (64, .i2l, 1), (65, .bipush 35, 2), (67, .lshl, 1), (68, .ladd, 1), (69, .iload 8, 2), (71, .i2l, 1), (72, .bipush 24, 2), (74, .bipush 8, 2), (76, .iload 4, 2), (78, .imul, 1), (79, .isub, 1), (80, .lshl, 1), (81, .ladd, 1)]
set_option maxRecDepth 100000 in
theorem xi_ok208_2 : xi_ok cX10_gather xi_208_2 = true := by decide +kernel
def xi_208_3 : XIs := [(82, .lstore 10, 2), (84, .iload 9, 2), (86, .aload_n 0, 1), (87, .getfield 165, 3), (90, .if_icmp .ne 40, 3), (93, .aload_n 0, 1), (94, .getfield 35, 3), (97, .aload_n 0, 1), (98, .getfield 155, 3), (101, .lload 10, 2), (103, .ldc2_w 175, 3), (106, .ladd, 1), (107, .iload 4, 2), (109, .iconst 1, 1), (110, .iadd, 1), (111, .i2l, 1)]
set_option maxRecDepth 100000 in
theorem xi_ok208_3 : xi_ok cX10_gather xi_208_3 = true := by decide +kernel
def xi_208_4 : XIs := [(112, .bipush 32, 2), (114, .lshl, 1), (115, .ladd, 1), (116, .lastore, 1), (117, .aload_n 0, 1), (118, .dup, 1), (119, .getfield 155, 3), (122, .iconst 1, 1), (123, .iadd, 1), (124, .putfield 155, 3), (127, .goto 51, 3), (130, .iload_n 3, 1), (131, .iload 9, 2), (133, .ishr, 1), (134, .iconst 1, 1), (135, .iand, 1)]
set_option maxRecDepth 100000 in
theorem xi_ok208_4 : xi_ok cX10_gather xi_208_4 = true := by decide +kernel
