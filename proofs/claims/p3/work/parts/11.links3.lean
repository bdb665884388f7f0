noncomputable def xm_1 : List (Nat × Nat) := [(211, 202), (121, 8), (91, 6), (417, 4), (166, 169), (193, 53), (139, 47), (40, 25), (74, 34), (179, 67), (108, 43), (153, 40), (55, 34), (218, 86), (224, 4), (225, 4), (135, 4), (93, 4), (167, 7), (171, 4), (172, 5), (173, 4), (174, 3), (430, 4), (431, 4), (433, 4), (427, 6), (432, 4), (437, 4), (436, 3), (422, 3), (424, 3), (438, 3), (136, 53), (137, 3), (428, 8), (169, 4), (168, 4), (429, 5), (435, 4), (434, 3), (439, 3), (170, 10), (138, 5), (122, 3), (124, 4), (129, 5), (130, 4), (426, 5), (131, 13), (132, 4), (105, 3), (133, 5), (123, 3), (94, 4), (261, 4), (262, 5), (260, 3), (125, 3), (101, 4), (96, 4), (126, 4), (127, 4), (227, 6), (259, 5), (175, 3), (177, 5), (176, 4), (178, 4), (420, 3), (247, 3), (188, 4), (189, 5), (416, 3), (97, 3), (419, 5), (190, 4), (191, 4), (192, 4), (251, 3), (112, 4), (113, 5), (114, 4), (106, 3), (107, 5), (98, 3), (99, 5), (115, 6), (117, 4), (118, 4), (264, 4), (414, 3), (116, 7), (119, 4), (120, 4), (253, 5), (154, 4), (155, 6), (156, 3), (157, 3), (158, 4), (159, 5), (265, 3), (415, 3), (160, 7), (161, 4), (162, 4), (255, 3), (56, 4), (58, 8), (59, 4), (60, 4), (61, 4), (62, 4), (57, 7), (1, 9), (212, 5), (2, 90), (213, 3), (3, 6), (214, 3), (4, 6), (215, 3), (263, 4), (100, 5), (5, 5), (216, 3), (128, 5), (6, 4), (217, 3), (134, 4), (92, 4), (7, 4), (219, 3), (8, 5), (220, 3), (9, 5), (221, 3), (10, 4), (222, 3), (103, 5), (104, 4), (11, 4), (223, 3), (12, 4), (226, 3), (13, 4), (228, 3), (14, 4), (229, 3), (194, 4), (198, 5), (199, 7), (197, 4), (266, 4), (418, 6), (15, 3), (230, 3), (195, 4), (196, 6), (16, 3), (231, 3), (200, 4), (102, 6), (201, 5), (17, 5), (232, 3), (95, 4), (205, 5), (207, 5), (208, 4), (209, 5), (210, 4), (18, 3), (233, 3), (206, 4), (19, 6), (234, 3), (140, 4), (141, 7), (20, 4), (235, 3), (142, 4), (21, 5), (236, 3), (143, 4), (22, 4), (237, 3), (144, 4), (145, 5), (146, 4), (23, 3), (238, 3), (147, 4), (148, 5), (149, 5), (150, 5), (24, 3), (239, 3), (41, 4), (42, 7), (25, 5), (240, 3), (43, 4), (44, 5), (46, 7), (49, 4), (51, 4), (47, 5), (52, 4), (48, 4), (50, 4), (53, 4), (45, 4), (54, 4), (26, 4), (241, 3), (75, 4), (76, 5), (77, 7), (78, 5), (27, 5), (242, 3), (28, 4), (243, 3), (79, 5), (80, 7), (84, 4), (81, 6), (86, 5), (87, 4), (82, 5), (83, 4), (85, 4), (88, 4), (29, 3), (244, 3), (89, 4), (90, 4), (30, 3), (245, 3), (180, 4), (181, 5), (182, 4), (183, 6), (184, 5), (185, 4), (31, 3), (246, 3), (186, 4), (187, 4), (32, 4), (248, 3), (109, 4), (110, 7), (33, 6), (249, 3), (202, 4), (204, 5), (203, 4), (34, 4), (250, 3), (111, 4), (35, 4), (252, 3), (151, 4), (152, 6), (36, 5), (254, 3), (163, 4), (164, 6), (165, 4), (37, 5), (256, 3), (63, 4), (64, 7), (65, 4), (69, 5), (425, 3), (423, 3), (66, 6), (67, 3), (68, 3), (421, 3), (70, 3), (71, 4), (72, 6), (73, 4), (38, 6), (257, 3), (39, 4), (258, 3), (267, 6), (391, 5), (268, 371), (281, 4), (269, 5), (270, 4), (274, 4), (275, 4), (276, 4), (282, 3), (277, 5), (279, 3), (280, 6), (283, 3), (278, 5), (284, 3), (285, 4), (286, 4), (271, 6), (287, 3), (289, 4), (288, 6), (290, 3), (291, 7), (272, 5), (292, 3), (293, 4), (294, 6), (295, 4), (302, 4), (303, 5), (299, 4), (297, 3), (300, 4), (298, 6), (296, 3), (304, 4), (301, 4), (305, 4), (308, 3), (306, 5), (307, 4), (309, 3), (315, 4), (314, 5), (310, 4), (311, 3), (312, 4), (313, 4), (316, 4), (317, 4), (325, 5), (320, 5), (319, 4), (318, 4), (321, 4), (322, 4), (326, 3), (324, 5), (323, 4), (328, 3), (330, 4), (273, 5), (329, 4), (327, 3), (331, 3), (332, 4), (334, 4), (333, 5), (338, 3), (337, 5), (335, 4), (336, 3), (347, 3), (343, 5), (341, 4), (339, 4), (342, 4), (345, 4), (340, 4), (344, 4), (346, 3), (354, 3), (353, 5), (352, 4), (348, 4), (350, 5), (349, 4), (351, 4), (355, 3), (357, 4), (358, 6), (356, 4), (362, 3), (360, 5), (359, 4), (361, 4), (363, 3), (364, 5), (365, 3), (366, 5), (368, 4), (367, 7), (369, 4), (371, 8), (370, 5), (378, 3), (374, 5), (376, 4), (373, 4), (372, 4), (375, 4), (377, 4), (379, 3), (380, 4), (386, 4), (381, 5), (382, 4), (384, 4), (383, 4), (387, 4), (388, 4), (385, 4), (389, 3), (390, 5), (404, 3), (403, 5), (392, 4), (401, 4), (393, 4), (400, 4), (395, 4), (397, 4), (394, 3), (396, 4), (402, 4), (399, 4), (398, 3), (409, 3), (407, 7), (405, 4), (408, 4), (406, 3), (411, 4), (410, 4), (412, 6), (413, 4)]
noncomputable def xm_2 : List (Nat × Nat) := [(172, 0), (173, 1), (136, 1), (138, 1), (129, 1), (130, 1), (131, 1), (132, 1), (133, 1), (259, 1), (177, 1), (176, 1), (178, 1), (189, 1), (190, 1), (191, 1), (113, 1), (114, 1), (107, 1), (115, 1), (117, 1), (118, 1), (116, 1), (119, 1), (120, 1), (158, 1), (159, 1), (160, 1), (161, 1), (162, 1), (58, 1), (59, 1), (60, 1), (61, 1), (62, 1), (57, 1), (198, 2), (199, 1), (196, 1), (201, 1), (207, 1), (208, 1), (209, 1), (210, 1), (145, 1), (148, 1), (149, 1), (150, 1), (42, 1), (44, 1), (46, 1), (49, 1), (51, 1), (47, 1), (52, 1), (50, 1), (53, 1), (45, 1), (54, 1), (76, 1), (77, 1), (78, 1), (80, 1), (84, 1), (81, 1), (86, 1), (87, 1), (82, 1), (83, 1), (85, 1), (88, 1), (181, 1), (182, 1), (183, 1), (184, 1), (185, 1), (110, 1), (204, 1), (164, 1), (165, 1), (64, 1), (65, 1), (66, 1), (72, 1), (391, 1), (270, 1), (274, 1), (275, 1), (276, 1), (277, 1), (280, 1), (278, 1), (271, 1), (288, 1), (272, 1), (303, 1), (299, 1), (300, 1), (298, 1), (304, 1), (301, 1), (305, 1), (306, 1), (307, 1), (314, 1), (310, 1), (312, 1), (313, 1), (320, 1), (319, 1), (318, 1), (321, 1), (322, 1), (324, 1), (323, 1), (273, 1), (329, 1), (333, 1), (337, 1), (335, 1), (343, 1), (341, 1), (339, 1), (342, 1), (345, 1), (340, 1), (344, 1), (353, 1), (352, 1), (348, 1), (350, 1), (349, 1), (351, 1), (358, 1), (356, 1), (360, 1), (359, 1), (361, 1), (364, 1), (366, 1), (370, 1), (374, 1), (376, 1), (373, 1), (372, 1), (375, 1), (377, 1), (381, 1), (382, 1), (384, 1), (383, 1), (387, 1), (388, 1), (385, 1), (390, 1), (403, 1), (392, 1), (401, 1), (393, 1), (400, 1), (395, 1), (397, 1), (396, 1), (402, 1), (399, 1), (407, 1), (408, 1), (411, 1), (410, 1), (218, 650), (224, 4), (225, 4), (135, 4), (93, 4), (167, 7), (171, 4), (430, 16), (431, 4), (433, 4), (427, 6), (432, 4), (428, 80), (169, 4), (168, 4), (429, 5), (170, 20), (122, 8), (124, 4), (105, 34), (123, 8), (94, 4), (125, 15), (101, 4), (96, 4), (126, 4), (127, 4), (227, 6), (175, 8), (247, 19), (188, 4), (97, 11), (251, 20), (112, 4), (106, 12), (98, 8), (99, 5), (253, 41), (154, 4), (255, 45), (56, 4), (212, 45), (213, 93), (214, 9), (215, 9), (100, 9), (216, 8), (128, 5), (217, 7), (134, 4), (92, 4), (219, 7), (220, 8), (221, 8), (222, 7), (103, 5), (104, 4), (223, 7), (226, 7), (228, 7), (229, 7), (194, 4), (230, 32), (195, 4), (231, 12), (200, 4), (102, 6), (232, 13), (95, 4), (205, 5), (233, 24), (206, 4), (234, 9), (140, 4), (141, 7), (235, 7), (142, 4), (236, 8), (143, 4), (237, 7), (144, 4), (238, 15), (147, 4), (239, 21), (41, 4), (240, 15), (43, 4), (241, 56), (75, 4), (242, 25), (243, 7), (79, 5), (244, 49), (89, 4), (245, 10), (180, 4), (246, 30), (186, 4), (248, 11), (109, 4), (249, 16), (202, 4), (203, 9), (250, 7), (111, 4), (252, 7), (151, 4), (152, 6), (254, 8), (163, 4), (256, 18), (63, 4), (70, 40), (257, 23), (258, 7), (268, 382), (281, 4), (282, 24), (283, 17), (284, 8), (285, 4), (286, 4), (287, 9), (289, 4), (290, 9), (291, 7), (292, 8), (293, 4), (294, 6), (295, 4), (302, 4), (308, 40), (309, 12), (315, 4), (316, 24), (317, 4), (325, 5), (326, 24), (328, 12), (330, 4), (331, 15), (332, 4), (334, 4), (338, 8), (347, 15), (354, 35), (355, 29), (357, 4), (362, 13), (363, 16), (365, 8), (368, 9), (369, 11), (371, 8), (378, 8), (379, 28), (380, 4), (386, 4), (389, 32), (404, 8), (409, 50), (412, 32), (413, 4)]
noncomputable def xm_3 : List (Nat × Nat) := [(13, 170), (11, 1), (5, 1), (3, 1), (17, 1), (8, 1), (10, 1), (6, 1), (0, 1), (2, 1), (9, 1), (4, 1), (7, 1), (1, 1), (12, 1), (16, 6), (18, 2), (19, 1), (20, 2), (14, 2), (15, 1)]
noncomputable def xm_w1 (q : Nat × Nat) : Cond := if xsta q.1 = 1 then .static (xy q.1) else .instanceMethod (xy q.1)
set_option maxRecDepth 100000 in
theorem xm_ok1 : xps xm_w1 (fun q => goodWord (xm_w1 q)) (fun q => q.2) lw_tbl xm_1 = true := by decide +kernel
set_option maxRecDepth 100000 in
theorem xm_ok2 : xps (fun q => Cond.selects (xy q.1).cls (xy q.1) (xy q.1)) (fun q => goodWord (Cond.selects (xy q.1).cls (xy q.1) (xy q.1))) (fun q => q.2) lw_tbl xm_2 = true := by decide +kernel
set_option maxRecDepth 100000 in
theorem xm_ok3 : xps (fun q => Cond.initialized (xcls q.1)) (fun q => goodWord (Cond.initialized (xcls q.1))) (fun q => q.2) lw_tbl xm_3 = true := by decide +kernel
set_option maxRecDepth 100000 in
theorem xm_in1 : (List.range' 1 439).all (fun m => xm_1.any (fun q => Nat.beq q.1 m)) = true := by decide +kernel
set_option maxRecDepth 100000 in
theorem xm_in2 : (List.range' 1 439).all (fun m => Nat.beq (xsta m) 1 || xin m || xm_2.any (fun q => Nat.beq q.1 m)) = true := by decide +kernel
theorem xm_in3 : (List.range 21).all (fun c => xm_3.any (fun q => Nat.beq q.1 c)) = true := by decide +kernel
noncomputable def xm_pl (m : Nat) : Bool := decide (xn m ≤ 45) && plainFor (xy m) && decide ((xy m).cls = xcls (xo m)) && decide ((xy m).cls ≠ "java/lang/invoke/MethodHandle") && decide ((xy m).cls ≠ "java/lang/invoke/VarHandle")
set_option maxRecDepth 100000 in
theorem xm_pl1 : ((List.range' 1 60).all xm_pl) = true := by decide +kernel
set_option maxRecDepth 100000 in
theorem xm_pl61 : ((List.range' 61 60).all xm_pl) = true := by decide +kernel
set_option maxRecDepth 100000 in
theorem xm_pl121 : ((List.range' 121 60).all xm_pl) = true := by decide +kernel
set_option maxRecDepth 100000 in
theorem xm_pl181 : ((List.range' 181 60).all xm_pl) = true := by decide +kernel
set_option maxRecDepth 100000 in
theorem xm_pl241 : ((List.range' 241 60).all xm_pl) = true := by decide +kernel
set_option maxRecDepth 100000 in
theorem xm_pl301 : ((List.range' 301 60).all xm_pl) = true := by decide +kernel
set_option maxRecDepth 100000 in
theorem xm_pl361 : ((List.range' 361 60).all xm_pl) = true := by decide +kernel
set_option maxRecDepth 100000 in
theorem xm_pl421 : ((List.range' 421 19).all xm_pl) = true := by decide +kernel
noncomputable def xt_0 : List (Nat × Nat) := [(0, 0), (0, 0), (0, 0), (0, 0), (3, 1), (3, 1), (3, 1), (0, 0), (3, 1)]
noncomputable def xt_1 : List (Nat × Nat) := [(3, 1), (0, 0), (0, 0), (3, 1), (0, 0), (3, 1), (3, 1), (3, 1), (3, 1), (0, 0), (0, 0), (0, 0), (0, 0)]
noncomputable def xt_2 : List (Nat × Nat) := [(0, 0), (0, 0), (0, 0), (1, 0), (0, 0), (3, 1), (3, 1), (3, 1), (0, 0), (3, 1), (3, 1), (3, 1), (3, 1), (3, 1), (3, 1), (3, 1), (0, 0), (0, 0), (1, 0)]
noncomputable def xt_3 : List (Nat × Nat) := [(0, 0), (0, 0), (0, 0), (0, 0), (0, 0), (3, 1), (3, 1), (3, 1), (3, 1), (3, 1), (3, 1), (3, 1), (3, 1), (3, 1), (3, 1), (3, 1), (3, 1), (3, 1)]
noncomputable def xt_4 : List (Nat × Nat) := [(0, 0), (0, 0), (3, 0), (3, 0), (0, 0), (0, 0), (3, 1), (3, 1), (3, 1), (3, 1), (3, 1)]
noncomputable def xt_5 : List (Nat × Nat) := [(3, 1), (3, 1), (3, 0), (3, 1)]
noncomputable def xt_6 : List (Nat × Nat) := [(0, 0), (0, 0), (3, 1), (0, 0), (3, 1), (3, 1)]
noncomputable def xt_7 : List (Nat × Nat) := [(1, 0), (1, 0), (3, 1), (3, 1), (3, 1), (3, 1), (3, 1), (3, 1), (3, 1)]
noncomputable def xt_8 : List (Nat × Nat) := [(3, 1), (0, 0), (0, 0), (0, 0), (0, 0), (0, 0), (0, 0), (0, 0), (3, 1), (0, 0)]
noncomputable def xt_9 : List (Nat × Nat) := [(0, 0), (3, 1), (3, 1), (3, 1), (3, 1), (3, 1), (3, 1), (3, 1), (3, 1), (0, 0), (0, 0), (3, 1)]
noncomputable def xt_10 : List (Nat × Nat) := [(0, 0), (0, 0), (0, 0), (3, 1), (3, 1), (3, 1), (3, 1), (3, 1), (0, 0), (0, 0), (0, 0), (0, 0), (3, 1)]
noncomputable def xt_11 : List (Nat × Nat) := [(3, 1), (3, 1), (0, 0), (3, 1), (3, 1), (3, 1), (3, 1), (3, 1), (3, 1), (3, 1), (3, 1), (3, 1)]
noncomputable def xt_12 : List (Nat × Nat) := [(0, 0), (3, 1), (3, 1), (3, 1), (3, 1), (3, 1), (3, 1), (3, 1), (3, 1), (0, 0), (3, 1), (3, 1), (3, 1), (3, 1), (3, 1), (3, 1), (3, 1), (0, 0), (0, 0), (0, 0), (0, 0), (3, 1), (0, 0), (0, 0), (0, 0), (3, 1), (0, 0), (0, 0), (0, 0), (0, 0), (0, 0), (1, 0), (0, 0), (3, 1), (3, 1), (3, 1), (3, 1), (3, 1), (3, 1), (3, 1), (0, 0), (3, 1), (3, 1), (3, 1), (3, 1), (3, 1), (3, 1), (3, 1), (3, 1), (3, 1), (3, 1), (3, 1), (3, 1), (0, 0), (3, 1), (3, 1), (3, 1), (3, 1), (3, 1), (3, 1), (3, 1), (3, 1), (3, 1), (3, 1), (3, 1), (3, 1), (3, 1), (3, 1), (3, 1), (3, 1), (3, 1), (3, 1), (3, 1), (3, 1), (3, 1), (3, 1), (3, 1), (3, 1), (3, 1), (3, 1), (0, 0), (0, 0), (3, 1), (3, 1), (2, 0), (1, 0), (1, 0), (3, 1), (3, 1), (3, 1), (3, 1), (3, 1), (3, 1), (3, 1), (3, 1), (3, 1), (0, 0), (2, 0), (2, 0), (2, 0), (1, 0), (1, 0), (3, 1), (3, 1), (3, 1), (3, 1), (3, 1), (3, 1), (3, 1), (0, 0), (3, 1), (0, 0), (0, 0), (0, 0), (3, 1), (3, 1), (0, 0), (0, 0), (0, 0), (3, 1), (3, 1), (1, 0)]
/-- a class's fields: 0 int, 1 long, 2 boolean, 3 a reference; 1 final -/
noncomputable def xt (m : Nat) : List (Nat × Nat) := cond (Nat.blt m 6) (cond (Nat.blt m 3) (cond (Nat.blt m 1) (xt_0) (cond (Nat.blt m 2) (xt_1) (xt_2))) (cond (Nat.blt m 4) (xt_3) (cond (Nat.blt m 5) (xt_4) (xt_5)))) (cond (Nat.blt m 9) (cond (Nat.blt m 7) (xt_6) (cond (Nat.blt m 8) (xt_7) (xt_8))) (cond (Nat.blt m 11) (cond (Nat.blt m 10) (xt_9) (xt_10)) (cond (Nat.blt m 12) (xt_11) (xt_12))))
noncomputable def xt_ck (T : u_T) : Nat → List (Nat × Nat) → Bool
  | _, [] => true
  | k, q :: l => decide ((T k).2.2.2 = decide (q.2 = 1)) && (match q.1 with
    | 0 => decide (am_t T k = .int)
    | 1 => decide (am_t T k = .long)
    | 2 => decide (am_t T k = .boolean)
    | _ => match am_t T k with
      | .object _ => true
      | .array _ => true
      | _ => false) && xt_ck T (k + 1) l
set_option maxRecDepth 100000 in
theorem xt_ok0 : xt_ck TX0 0 xt_0 = true ∧ xt_0.length = 9 := by decide +kernel
set_option maxRecDepth 100000 in
theorem xt_ok1 : xt_ck TX1 0 xt_1 = true ∧ xt_1.length = 13 := by decide +kernel
set_option maxRecDepth 100000 in
theorem xt_ok2 : xt_ck TX2 0 xt_2 = true ∧ xt_2.length = 19 := by decide +kernel
set_option maxRecDepth 100000 in
theorem xt_ok3 : xt_ck TX3 0 xt_3 = true ∧ xt_3.length = 18 := by decide +kernel
set_option maxRecDepth 100000 in
theorem xt_ok4 : xt_ck TX4 0 xt_4 = true ∧ xt_4.length = 11 := by decide +kernel
set_option maxRecDepth 100000 in
theorem xt_ok5 : xt_ck TX5 0 xt_5 = true ∧ xt_5.length = 4 := by decide +kernel
set_option maxRecDepth 100000 in
theorem xt_ok6 : xt_ck TX6 0 xt_6 = true ∧ xt_6.length = 6 := by decide +kernel
set_option maxRecDepth 100000 in
theorem xt_ok7 : xt_ck TX7 0 xt_7 = true ∧ xt_7.length = 9 := by decide +kernel
set_option maxRecDepth 100000 in
theorem xt_ok8 : xt_ck TX8 0 xt_8 = true ∧ xt_8.length = 10 := by decide +kernel
set_option maxRecDepth 100000 in
theorem xt_ok9 : xt_ck TX9 0 xt_9 = true ∧ xt_9.length = 12 := by decide +kernel
set_option maxRecDepth 100000 in
theorem xt_ok10 : xt_ck TX10 0 xt_10 = true ∧ xt_10.length = 13 := by decide +kernel
set_option maxRecDepth 100000 in
theorem xt_ok11 : xt_ck TX11 0 xt_11 = true ∧ xt_11.length = 12 := by decide +kernel
set_option maxRecDepth 100000 in
theorem xt_ok12 : xt_ck TX12 0 xt_12 = true ∧ xt_12.length = 122 := by decide +kernel
noncomputable def xq : List (Nat × Nat × Nat) := [(13, 0, 1314), (15, 1, 1315)]
set_option maxRecDepth 100000 in
theorem xq_ok : xq.all (fun q => decide (lw_tbl[q.2.2]? = some (.classLink RL q.1 (if q.2.1 = 0 then am_IA else am_IS)))) = true := by decide +kernel
set_option maxHeartbeats 4000000 in
set_option maxRecDepth 100000 in
theorem xi_all {m : Nat} (h : m < 440) (pc : Nat) : xi_ok (xc m) (xi m pc) = true := by
  rcases Nat.lt_or_ge m 220 with u220 | l220
  · rcases Nat.lt_or_ge m 110 with u110 | l110
    · rcases Nat.lt_or_ge m 55 with u55 | l55
      · rcases Nat.lt_or_ge m 27 with u27 | l27
        · rcases Nat.lt_or_ge m 13 with u13 | l13
          · rcases Nat.lt_or_ge m 6 with u6 | l6
            · rcases Nat.lt_or_ge m 3 with u3 | l3
              · rcases Nat.lt_or_ge m 1 with u1 | l1
                · obtain rfl : m = 0 := Nat.le_antisymm (Nat.le_of_lt_succ u1) (Nat.zero_le _)
                  exact xi_ok0 pc
                · rcases Nat.lt_or_ge m 2 with u2 | l2
                  · obtain rfl : m = 1 := Nat.le_antisymm (Nat.le_of_lt_succ u2) l1
                    exact xi_ok1 pc
                  · obtain rfl : m = 2 := Nat.le_antisymm (Nat.le_of_lt_succ u3) l2
                    exact xi_ok2 pc
              · rcases Nat.lt_or_ge m 4 with u4 | l4
                · obtain rfl : m = 3 := Nat.le_antisymm (Nat.le_of_lt_succ u4) l3
                  exact xi_ok3 pc
                · rcases Nat.lt_or_ge m 5 with u5 | l5
                  · obtain rfl : m = 4 := Nat.le_antisymm (Nat.le_of_lt_succ u5) l4
                    exact xi_ok4 pc
                  · obtain rfl : m = 5 := Nat.le_antisymm (Nat.le_of_lt_succ u6) l5
                    exact xi_ok5 pc
            · rcases Nat.lt_or_ge m 9 with u9 | l9
              · rcases Nat.lt_or_ge m 7 with u7 | l7
                · obtain rfl : m = 6 := Nat.le_antisymm (Nat.le_of_lt_succ u7) l6
                  exact xi_ok6 pc
                · rcases Nat.lt_or_ge m 8 with u8 | l8
                  · obtain rfl : m = 7 := Nat.le_antisymm (Nat.le_of_lt_succ u8) l7
                    exact xi_ok7 pc
                  · obtain rfl : m = 8 := Nat.le_antisymm (Nat.le_of_lt_succ u9) l8
                    exact xi_ok8 pc
              · rcases Nat.lt_or_ge m 11 with u11 | l11
                · rcases Nat.lt_or_ge m 10 with u10 | l10
                  · obtain rfl : m = 9 := Nat.le_antisymm (Nat.le_of_lt_succ u10) l9
                    exact xi_ok9 pc
                  · obtain rfl : m = 10 := Nat.le_antisymm (Nat.le_of_lt_succ u11) l10
                    exact xi_ok10 pc
                · rcases Nat.lt_or_ge m 12 with u12 | l12
                  · obtain rfl : m = 11 := Nat.le_antisymm (Nat.le_of_lt_succ u12) l11
                    exact xi_ok11 pc
                  · obtain rfl : m = 12 := Nat.le_antisymm (Nat.le_of_lt_succ u13) l12
                    exact xi_ok12 pc
          · rcases Nat.lt_or_ge m 20 with u20 | l20
            · rcases Nat.lt_or_ge m 16 with u16 | l16
              · rcases Nat.lt_or_ge m 14 with u14 | l14
                · obtain rfl : m = 13 := Nat.le_antisymm (Nat.le_of_lt_succ u14) l13
                  exact xi_ok13 pc
                · rcases Nat.lt_or_ge m 15 with u15 | l15
                  · obtain rfl : m = 14 := Nat.le_antisymm (Nat.le_of_lt_succ u15) l14
                    exact xi_ok14 pc
                  · obtain rfl : m = 15 := Nat.le_antisymm (Nat.le_of_lt_succ u16) l15
                    exact xi_ok15 pc
              · rcases Nat.lt_or_ge m 18 with u18 | l18
                · rcases Nat.lt_or_ge m 17 with u17 | l17
                  · obtain rfl : m = 16 := Nat.le_antisymm (Nat.le_of_lt_succ u17) l16
                    exact xi_ok16 pc
                  · obtain rfl : m = 17 := Nat.le_antisymm (Nat.le_of_lt_succ u18) l17
                    exact xi_ok17 pc
                · rcases Nat.lt_or_ge m 19 with u19 | l19
                  · obtain rfl : m = 18 := Nat.le_antisymm (Nat.le_of_lt_succ u19) l18
                    exact xi_ok18 pc
                  · obtain rfl : m = 19 := Nat.le_antisymm (Nat.le_of_lt_succ u20) l19
                    exact xi_ok19 pc
            · rcases Nat.lt_or_ge m 23 with u23 | l23
              · rcases Nat.lt_or_ge m 21 with u21 | l21
                · obtain rfl : m = 20 := Nat.le_antisymm (Nat.le_of_lt_succ u21) l20
                  exact xi_ok20 pc
                · rcases Nat.lt_or_ge m 22 with u22 | l22
                  · obtain rfl : m = 21 := Nat.le_antisymm (Nat.le_of_lt_succ u22) l21
                    exact xi_ok21 pc
                  · obtain rfl : m = 22 := Nat.le_antisymm (Nat.le_of_lt_succ u23) l22
                    exact xi_ok22 pc
              · rcases Nat.lt_or_ge m 25 with u25 | l25
                · rcases Nat.lt_or_ge m 24 with u24 | l24
                  · obtain rfl : m = 23 := Nat.le_antisymm (Nat.le_of_lt_succ u24) l23
                    exact xi_ok23 pc
                  · obtain rfl : m = 24 := Nat.le_antisymm (Nat.le_of_lt_succ u25) l24
                    exact xi_ok24 pc
                · rcases Nat.lt_or_ge m 26 with u26 | l26
                  · obtain rfl : m = 25 := Nat.le_antisymm (Nat.le_of_lt_succ u26) l25
                    exact xi_ok25 pc
                  · obtain rfl : m = 26 := Nat.le_antisymm (Nat.le_of_lt_succ u27) l26
                    exact xi_ok26 pc
        · rcases Nat.lt_or_ge m 41 with u41 | l41
          · rcases Nat.lt_or_ge m 34 with u34 | l34
            · rcases Nat.lt_or_ge m 30 with u30 | l30
              · rcases Nat.lt_or_ge m 28 with u28 | l28
                · obtain rfl : m = 27 := Nat.le_antisymm (Nat.le_of_lt_succ u28) l27
                  exact xi_ok27 pc
                · rcases Nat.lt_or_ge m 29 with u29 | l29
                  · obtain rfl : m = 28 := Nat.le_antisymm (Nat.le_of_lt_succ u29) l28
                    exact xi_ok28 pc
                  · obtain rfl : m = 29 := Nat.le_antisymm (Nat.le_of_lt_succ u30) l29
                    exact xi_ok29 pc
              · rcases Nat.lt_or_ge m 32 with u32 | l32
                · rcases Nat.lt_or_ge m 31 with u31 | l31
                  · obtain rfl : m = 30 := Nat.le_antisymm (Nat.le_of_lt_succ u31) l30
                    exact xi_ok30 pc
                  · obtain rfl : m = 31 := Nat.le_antisymm (Nat.le_of_lt_succ u32) l31
                    exact xi_ok31 pc
                · rcases Nat.lt_or_ge m 33 with u33 | l33
                  · obtain rfl : m = 32 := Nat.le_antisymm (Nat.le_of_lt_succ u33) l32
                    exact xi_ok32 pc
                  · obtain rfl : m = 33 := Nat.le_antisymm (Nat.le_of_lt_succ u34) l33
                    exact xi_ok33 pc
            · rcases Nat.lt_or_ge m 37 with u37 | l37
              · rcases Nat.lt_or_ge m 35 with u35 | l35
                · obtain rfl : m = 34 := Nat.le_antisymm (Nat.le_of_lt_succ u35) l34
                  exact xi_ok34 pc
                · rcases Nat.lt_or_ge m 36 with u36 | l36
                  · obtain rfl : m = 35 := Nat.le_antisymm (Nat.le_of_lt_succ u36) l35
                    exact xi_ok35 pc
                  · obtain rfl : m = 36 := Nat.le_antisymm (Nat.le_of_lt_succ u37) l36
                    exact xi_ok36 pc
              · rcases Nat.lt_or_ge m 39 with u39 | l39
                · rcases Nat.lt_or_ge m 38 with u38 | l38
                  · obtain rfl : m = 37 := Nat.le_antisymm (Nat.le_of_lt_succ u38) l37
                    exact xi_ok37 pc
                  · obtain rfl : m = 38 := Nat.le_antisymm (Nat.le_of_lt_succ u39) l38
                    exact xi_ok38 pc
                · rcases Nat.lt_or_ge m 40 with u40 | l40
                  · obtain rfl : m = 39 := Nat.le_antisymm (Nat.le_of_lt_succ u40) l39
                    exact xi_ok39 pc
                  · obtain rfl : m = 40 := Nat.le_antisymm (Nat.le_of_lt_succ u41) l40
                    exact xi_ok40 pc
          · rcases Nat.lt_or_ge m 48 with u48 | l48
            · rcases Nat.lt_or_ge m 44 with u44 | l44
              · rcases Nat.lt_or_ge m 42 with u42 | l42
                · obtain rfl : m = 41 := Nat.le_antisymm (Nat.le_of_lt_succ u42) l41
                  exact xi_ok41 pc
                · rcases Nat.lt_or_ge m 43 with u43 | l43
                  · obtain rfl : m = 42 := Nat.le_antisymm (Nat.le_of_lt_succ u43) l42
                    exact xi_ok42 pc
                  · obtain rfl : m = 43 := Nat.le_antisymm (Nat.le_of_lt_succ u44) l43
                    exact xi_ok43 pc
              · rcases Nat.lt_or_ge m 46 with u46 | l46
                · rcases Nat.lt_or_ge m 45 with u45 | l45
                  · obtain rfl : m = 44 := Nat.le_antisymm (Nat.le_of_lt_succ u45) l44
                    exact xi_ok44 pc
                  · obtain rfl : m = 45 := Nat.le_antisymm (Nat.le_of_lt_succ u46) l45
                    exact xi_ok45 pc
                · rcases Nat.lt_or_ge m 47 with u47 | l47
                  · obtain rfl : m = 46 := Nat.le_antisymm (Nat.le_of_lt_succ u47) l46
                    exact xi_ok46 pc
                  · obtain rfl : m = 47 := Nat.le_antisymm (Nat.le_of_lt_succ u48) l47
                    exact xi_ok47 pc
            · rcases Nat.lt_or_ge m 51 with u51 | l51
              · rcases Nat.lt_or_ge m 49 with u49 | l49
                · obtain rfl : m = 48 := Nat.le_antisymm (Nat.le_of_lt_succ u49) l48
                  exact xi_ok48 pc
                · rcases Nat.lt_or_ge m 50 with u50 | l50
                  · obtain rfl : m = 49 := Nat.le_antisymm (Nat.le_of_lt_succ u50) l49
                    exact xi_ok49 pc
                  · obtain rfl : m = 50 := Nat.le_antisymm (Nat.le_of_lt_succ u51) l50
                    exact xi_ok50 pc
              · rcases Nat.lt_or_ge m 53 with u53 | l53
                · rcases Nat.lt_or_ge m 52 with u52 | l52
                  · obtain rfl : m = 51 := Nat.le_antisymm (Nat.le_of_lt_succ u52) l51
                    exact xi_ok51 pc
                  · obtain rfl : m = 52 := Nat.le_antisymm (Nat.le_of_lt_succ u53) l52
                    exact xi_ok52 pc
                · rcases Nat.lt_or_ge m 54 with u54 | l54
                  · obtain rfl : m = 53 := Nat.le_antisymm (Nat.le_of_lt_succ u54) l53
                    exact xi_ok53 pc
                  · obtain rfl : m = 54 := Nat.le_antisymm (Nat.le_of_lt_succ u55) l54
                    exact xi_ok54 pc
      · rcases Nat.lt_or_ge m 82 with u82 | l82
        · rcases Nat.lt_or_ge m 68 with u68 | l68
          · rcases Nat.lt_or_ge m 61 with u61 | l61
            · rcases Nat.lt_or_ge m 58 with u58 | l58
              · rcases Nat.lt_or_ge m 56 with u56 | l56
                · obtain rfl : m = 55 := Nat.le_antisymm (Nat.le_of_lt_succ u56) l55
                  exact xi_ok55 pc
                · rcases Nat.lt_or_ge m 57 with u57 | l57
                  · obtain rfl : m = 56 := Nat.le_antisymm (Nat.le_of_lt_succ u57) l56
                    exact xi_ok56 pc
                  · obtain rfl : m = 57 := Nat.le_antisymm (Nat.le_of_lt_succ u58) l57
                    exact xi_ok57 pc
              · rcases Nat.lt_or_ge m 59 with u59 | l59
                · obtain rfl : m = 58 := Nat.le_antisymm (Nat.le_of_lt_succ u59) l58
                  exact xi_ok58 pc
                · rcases Nat.lt_or_ge m 60 with u60 | l60
                  · obtain rfl : m = 59 := Nat.le_antisymm (Nat.le_of_lt_succ u60) l59
                    exact xi_ok59 pc
                  · obtain rfl : m = 60 := Nat.le_antisymm (Nat.le_of_lt_succ u61) l60
                    exact xi_ok60 pc
            · rcases Nat.lt_or_ge m 64 with u64 | l64
              · rcases Nat.lt_or_ge m 62 with u62 | l62
                · obtain rfl : m = 61 := Nat.le_antisymm (Nat.le_of_lt_succ u62) l61
                  exact xi_ok61 pc
                · rcases Nat.lt_or_ge m 63 with u63 | l63
                  · obtain rfl : m = 62 := Nat.le_antisymm (Nat.le_of_lt_succ u63) l62
                    exact xi_ok62 pc
                  · obtain rfl : m = 63 := Nat.le_antisymm (Nat.le_of_lt_succ u64) l63
                    exact xi_ok63 pc
              · rcases Nat.lt_or_ge m 66 with u66 | l66
                · rcases Nat.lt_or_ge m 65 with u65 | l65
                  · obtain rfl : m = 64 := Nat.le_antisymm (Nat.le_of_lt_succ u65) l64
                    exact xi_ok64 pc
                  · obtain rfl : m = 65 := Nat.le_antisymm (Nat.le_of_lt_succ u66) l65
                    exact xi_ok65 pc
                · rcases Nat.lt_or_ge m 67 with u67 | l67
                  · obtain rfl : m = 66 := Nat.le_antisymm (Nat.le_of_lt_succ u67) l66
                    exact xi_ok66 pc
                  · obtain rfl : m = 67 := Nat.le_antisymm (Nat.le_of_lt_succ u68) l67
                    exact xi_ok67 pc
          · rcases Nat.lt_or_ge m 75 with u75 | l75
            · rcases Nat.lt_or_ge m 71 with u71 | l71
              · rcases Nat.lt_or_ge m 69 with u69 | l69
                · obtain rfl : m = 68 := Nat.le_antisymm (Nat.le_of_lt_succ u69) l68
                  exact xi_ok68 pc
                · rcases Nat.lt_or_ge m 70 with u70 | l70
                  · obtain rfl : m = 69 := Nat.le_antisymm (Nat.le_of_lt_succ u70) l69
                    exact xi_ok69 pc
                  · obtain rfl : m = 70 := Nat.le_antisymm (Nat.le_of_lt_succ u71) l70
                    exact xi_ok70 pc
              · rcases Nat.lt_or_ge m 73 with u73 | l73
                · rcases Nat.lt_or_ge m 72 with u72 | l72
                  · obtain rfl : m = 71 := Nat.le_antisymm (Nat.le_of_lt_succ u72) l71
                    exact xi_ok71 pc
                  · obtain rfl : m = 72 := Nat.le_antisymm (Nat.le_of_lt_succ u73) l72
                    exact xi_ok72 pc
                · rcases Nat.lt_or_ge m 74 with u74 | l74
                  · obtain rfl : m = 73 := Nat.le_antisymm (Nat.le_of_lt_succ u74) l73
                    exact xi_ok73 pc
                  · obtain rfl : m = 74 := Nat.le_antisymm (Nat.le_of_lt_succ u75) l74
                    exact xi_ok74 pc
            · rcases Nat.lt_or_ge m 78 with u78 | l78
              · rcases Nat.lt_or_ge m 76 with u76 | l76
                · obtain rfl : m = 75 := Nat.le_antisymm (Nat.le_of_lt_succ u76) l75
                  exact xi_ok75 pc
                · rcases Nat.lt_or_ge m 77 with u77 | l77
                  · obtain rfl : m = 76 := Nat.le_antisymm (Nat.le_of_lt_succ u77) l76
                    exact xi_ok76 pc
                  · obtain rfl : m = 77 := Nat.le_antisymm (Nat.le_of_lt_succ u78) l77
                    exact xi_ok77 pc
              · rcases Nat.lt_or_ge m 80 with u80 | l80
                · rcases Nat.lt_or_ge m 79 with u79 | l79
                  · obtain rfl : m = 78 := Nat.le_antisymm (Nat.le_of_lt_succ u79) l78
                    exact xi_ok78 pc
                  · obtain rfl : m = 79 := Nat.le_antisymm (Nat.le_of_lt_succ u80) l79
                    exact xi_ok79 pc
                · rcases Nat.lt_or_ge m 81 with u81 | l81
                  · obtain rfl : m = 80 := Nat.le_antisymm (Nat.le_of_lt_succ u81) l80
                    exact xi_ok80 pc
                  · obtain rfl : m = 81 := Nat.le_antisymm (Nat.le_of_lt_succ u82) l81
                    exact xi_ok81 pc
        · rcases Nat.lt_or_ge m 96 with u96 | l96
          · rcases Nat.lt_or_ge m 89 with u89 | l89
            · rcases Nat.lt_or_ge m 85 with u85 | l85
              · rcases Nat.lt_or_ge m 83 with u83 | l83
                · obtain rfl : m = 82 := Nat.le_antisymm (Nat.le_of_lt_succ u83) l82
                  exact xi_ok82 pc
                · rcases Nat.lt_or_ge m 84 with u84 | l84
                  · obtain rfl : m = 83 := Nat.le_antisymm (Nat.le_of_lt_succ u84) l83
                    exact xi_ok83 pc
                  · obtain rfl : m = 84 := Nat.le_antisymm (Nat.le_of_lt_succ u85) l84
                    exact xi_ok84 pc
              · rcases Nat.lt_or_ge m 87 with u87 | l87
                · rcases Nat.lt_or_ge m 86 with u86 | l86
                  · obtain rfl : m = 85 := Nat.le_antisymm (Nat.le_of_lt_succ u86) l85
                    exact xi_ok85 pc
                  · obtain rfl : m = 86 := Nat.le_antisymm (Nat.le_of_lt_succ u87) l86
                    exact xi_ok86 pc
                · rcases Nat.lt_or_ge m 88 with u88 | l88
                  · obtain rfl : m = 87 := Nat.le_antisymm (Nat.le_of_lt_succ u88) l87
                    exact xi_ok87 pc
                  · obtain rfl : m = 88 := Nat.le_antisymm (Nat.le_of_lt_succ u89) l88
                    exact xi_ok88 pc
            · rcases Nat.lt_or_ge m 92 with u92 | l92
              · rcases Nat.lt_or_ge m 90 with u90 | l90
                · obtain rfl : m = 89 := Nat.le_antisymm (Nat.le_of_lt_succ u90) l89
                  exact xi_ok89 pc
                · rcases Nat.lt_or_ge m 91 with u91 | l91
                  · obtain rfl : m = 90 := Nat.le_antisymm (Nat.le_of_lt_succ u91) l90
                    exact xi_ok90 pc
                  · obtain rfl : m = 91 := Nat.le_antisymm (Nat.le_of_lt_succ u92) l91
                    exact xi_ok91 pc
              · rcases Nat.lt_or_ge m 94 with u94 | l94
                · rcases Nat.lt_or_ge m 93 with u93 | l93
                  · obtain rfl : m = 92 := Nat.le_antisymm (Nat.le_of_lt_succ u93) l92
                    exact xi_ok92 pc
                  · obtain rfl : m = 93 := Nat.le_antisymm (Nat.le_of_lt_succ u94) l93
                    exact xi_ok93 pc
                · rcases Nat.lt_or_ge m 95 with u95 | l95
                  · obtain rfl : m = 94 := Nat.le_antisymm (Nat.le_of_lt_succ u95) l94
                    exact xi_ok94 pc
                  · obtain rfl : m = 95 := Nat.le_antisymm (Nat.le_of_lt_succ u96) l95
                    exact xi_ok95 pc
          · rcases Nat.lt_or_ge m 103 with u103 | l103
            · rcases Nat.lt_or_ge m 99 with u99 | l99
              · rcases Nat.lt_or_ge m 97 with u97 | l97
                · obtain rfl : m = 96 := Nat.le_antisymm (Nat.le_of_lt_succ u97) l96
                  exact xi_ok96 pc
                · rcases Nat.lt_or_ge m 98 with u98 | l98
                  · obtain rfl : m = 97 := Nat.le_antisymm (Nat.le_of_lt_succ u98) l97
                    exact xi_ok97 pc
                  · obtain rfl : m = 98 := Nat.le_antisymm (Nat.le_of_lt_succ u99) l98
                    exact xi_ok98 pc
              · rcases Nat.lt_or_ge m 101 with u101 | l101
                · rcases Nat.lt_or_ge m 100 with u100 | l100
                  · obtain rfl : m = 99 := Nat.le_antisymm (Nat.le_of_lt_succ u100) l99
                    exact xi_ok99 pc
                  · obtain rfl : m = 100 := Nat.le_antisymm (Nat.le_of_lt_succ u101) l100
                    exact xi_ok100 pc
                · rcases Nat.lt_or_ge m 102 with u102 | l102
                  · obtain rfl : m = 101 := Nat.le_antisymm (Nat.le_of_lt_succ u102) l101
                    exact xi_ok101 pc
                  · obtain rfl : m = 102 := Nat.le_antisymm (Nat.le_of_lt_succ u103) l102
                    exact xi_ok102 pc
            · rcases Nat.lt_or_ge m 106 with u106 | l106
              · rcases Nat.lt_or_ge m 104 with u104 | l104
                · obtain rfl : m = 103 := Nat.le_antisymm (Nat.le_of_lt_succ u104) l103
                  exact xi_ok103 pc
                · rcases Nat.lt_or_ge m 105 with u105 | l105
                  · obtain rfl : m = 104 := Nat.le_antisymm (Nat.le_of_lt_succ u105) l104
                    exact xi_ok104 pc
                  · obtain rfl : m = 105 := Nat.le_antisymm (Nat.le_of_lt_succ u106) l105
                    exact xi_ok105 pc
              · rcases Nat.lt_or_ge m 108 with u108 | l108
                · rcases Nat.lt_or_ge m 107 with u107 | l107
                  · obtain rfl : m = 106 := Nat.le_antisymm (Nat.le_of_lt_succ u107) l106
                    exact xi_ok106 pc
                  · obtain rfl : m = 107 := Nat.le_antisymm (Nat.le_of_lt_succ u108) l107
                    exact xi_ok107 pc
                · rcases Nat.lt_or_ge m 109 with u109 | l109
                  · obtain rfl : m = 108 := Nat.le_antisymm (Nat.le_of_lt_succ u109) l108
                    exact xi_ok108 pc
                  · obtain rfl : m = 109 := Nat.le_antisymm (Nat.le_of_lt_succ u110) l109
                    exact xi_ok109 pc
    · rcases Nat.lt_or_ge m 165 with u165 | l165
      · rcases Nat.lt_or_ge m 137 with u137 | l137
        · rcases Nat.lt_or_ge m 123 with u123 | l123
          · rcases Nat.lt_or_ge m 116 with u116 | l116
            · rcases Nat.lt_or_ge m 113 with u113 | l113
              · rcases Nat.lt_or_ge m 111 with u111 | l111
                · obtain rfl : m = 110 := Nat.le_antisymm (Nat.le_of_lt_succ u111) l110
                  exact xi_ok110 pc
                · rcases Nat.lt_or_ge m 112 with u112 | l112
                  · obtain rfl : m = 111 := Nat.le_antisymm (Nat.le_of_lt_succ u112) l111
                    exact xi_ok111 pc
                  · obtain rfl : m = 112 := Nat.le_antisymm (Nat.le_of_lt_succ u113) l112
                    exact xi_ok112 pc
              · rcases Nat.lt_or_ge m 114 with u114 | l114
                · obtain rfl : m = 113 := Nat.le_antisymm (Nat.le_of_lt_succ u114) l113
                  exact xi_ok113 pc
                · rcases Nat.lt_or_ge m 115 with u115 | l115
                  · obtain rfl : m = 114 := Nat.le_antisymm (Nat.le_of_lt_succ u115) l114
                    exact xi_ok114 pc
                  · obtain rfl : m = 115 := Nat.le_antisymm (Nat.le_of_lt_succ u116) l115
                    exact xi_ok115 pc
            · rcases Nat.lt_or_ge m 119 with u119 | l119
              · rcases Nat.lt_or_ge m 117 with u117 | l117
                · obtain rfl : m = 116 := Nat.le_antisymm (Nat.le_of_lt_succ u117) l116
                  exact xi_ok116 pc
                · rcases Nat.lt_or_ge m 118 with u118 | l118
                  · obtain rfl : m = 117 := Nat.le_antisymm (Nat.le_of_lt_succ u118) l117
                    exact xi_ok117 pc
                  · obtain rfl : m = 118 := Nat.le_antisymm (Nat.le_of_lt_succ u119) l118
                    exact xi_ok118 pc
              · rcases Nat.lt_or_ge m 121 with u121 | l121
                · rcases Nat.lt_or_ge m 120 with u120 | l120
                  · obtain rfl : m = 119 := Nat.le_antisymm (Nat.le_of_lt_succ u120) l119
                    exact xi_ok119 pc
                  · obtain rfl : m = 120 := Nat.le_antisymm (Nat.le_of_lt_succ u121) l120
                    exact xi_ok120 pc
                · rcases Nat.lt_or_ge m 122 with u122 | l122
                  · obtain rfl : m = 121 := Nat.le_antisymm (Nat.le_of_lt_succ u122) l121
                    exact xi_ok121 pc
                  · obtain rfl : m = 122 := Nat.le_antisymm (Nat.le_of_lt_succ u123) l122
                    exact xi_ok122 pc
          · rcases Nat.lt_or_ge m 130 with u130 | l130
            · rcases Nat.lt_or_ge m 126 with u126 | l126
              · rcases Nat.lt_or_ge m 124 with u124 | l124
                · obtain rfl : m = 123 := Nat.le_antisymm (Nat.le_of_lt_succ u124) l123
                  exact xi_ok123 pc
                · rcases Nat.lt_or_ge m 125 with u125 | l125
                  · obtain rfl : m = 124 := Nat.le_antisymm (Nat.le_of_lt_succ u125) l124
                    exact xi_ok124 pc
                  · obtain rfl : m = 125 := Nat.le_antisymm (Nat.le_of_lt_succ u126) l125
                    exact xi_ok125 pc
              · rcases Nat.lt_or_ge m 128 with u128 | l128
                · rcases Nat.lt_or_ge m 127 with u127 | l127
                  · obtain rfl : m = 126 := Nat.le_antisymm (Nat.le_of_lt_succ u127) l126
                    exact xi_ok126 pc
                  · obtain rfl : m = 127 := Nat.le_antisymm (Nat.le_of_lt_succ u128) l127
                    exact xi_ok127 pc
                · rcases Nat.lt_or_ge m 129 with u129 | l129
                  · obtain rfl : m = 128 := Nat.le_antisymm (Nat.le_of_lt_succ u129) l128
                    exact xi_ok128 pc
                  · obtain rfl : m = 129 := Nat.le_antisymm (Nat.le_of_lt_succ u130) l129
                    exact xi_ok129 pc
            · rcases Nat.lt_or_ge m 133 with u133 | l133
              · rcases Nat.lt_or_ge m 131 with u131 | l131
                · obtain rfl : m = 130 := Nat.le_antisymm (Nat.le_of_lt_succ u131) l130
                  exact xi_ok130 pc
                · rcases Nat.lt_or_ge m 132 with u132 | l132
                  · obtain rfl : m = 131 := Nat.le_antisymm (Nat.le_of_lt_succ u132) l131
                    exact xi_ok131 pc
                  · obtain rfl : m = 132 := Nat.le_antisymm (Nat.le_of_lt_succ u133) l132
                    exact xi_ok132 pc
              · rcases Nat.lt_or_ge m 135 with u135 | l135
                · rcases Nat.lt_or_ge m 134 with u134 | l134
                  · obtain rfl : m = 133 := Nat.le_antisymm (Nat.le_of_lt_succ u134) l133
                    exact xi_ok133 pc
                  · obtain rfl : m = 134 := Nat.le_antisymm (Nat.le_of_lt_succ u135) l134
                    exact xi_ok134 pc
                · rcases Nat.lt_or_ge m 136 with u136 | l136
                  · obtain rfl : m = 135 := Nat.le_antisymm (Nat.le_of_lt_succ u136) l135
                    exact xi_ok135 pc
                  · obtain rfl : m = 136 := Nat.le_antisymm (Nat.le_of_lt_succ u137) l136
                    exact xi_ok136 pc
        · rcases Nat.lt_or_ge m 151 with u151 | l151
          · rcases Nat.lt_or_ge m 144 with u144 | l144
            · rcases Nat.lt_or_ge m 140 with u140 | l140
              · rcases Nat.lt_or_ge m 138 with u138 | l138
                · obtain rfl : m = 137 := Nat.le_antisymm (Nat.le_of_lt_succ u138) l137
                  exact xi_ok137 pc
                · rcases Nat.lt_or_ge m 139 with u139 | l139
                  · obtain rfl : m = 138 := Nat.le_antisymm (Nat.le_of_lt_succ u139) l138
                    exact xi_ok138 pc
                  · obtain rfl : m = 139 := Nat.le_antisymm (Nat.le_of_lt_succ u140) l139
                    exact xi_ok139 pc
              · rcases Nat.lt_or_ge m 142 with u142 | l142
                · rcases Nat.lt_or_ge m 141 with u141 | l141
                  · obtain rfl : m = 140 := Nat.le_antisymm (Nat.le_of_lt_succ u141) l140
                    exact xi_ok140 pc
                  · obtain rfl : m = 141 := Nat.le_antisymm (Nat.le_of_lt_succ u142) l141
                    exact xi_ok141 pc
                · rcases Nat.lt_or_ge m 143 with u143 | l143
                  · obtain rfl : m = 142 := Nat.le_antisymm (Nat.le_of_lt_succ u143) l142
                    exact xi_ok142 pc
                  · obtain rfl : m = 143 := Nat.le_antisymm (Nat.le_of_lt_succ u144) l143
                    exact xi_ok143 pc
            · rcases Nat.lt_or_ge m 147 with u147 | l147
              · rcases Nat.lt_or_ge m 145 with u145 | l145
                · obtain rfl : m = 144 := Nat.le_antisymm (Nat.le_of_lt_succ u145) l144
                  exact xi_ok144 pc
                · rcases Nat.lt_or_ge m 146 with u146 | l146
                  · obtain rfl : m = 145 := Nat.le_antisymm (Nat.le_of_lt_succ u146) l145
                    exact xi_ok145 pc
                  · obtain rfl : m = 146 := Nat.le_antisymm (Nat.le_of_lt_succ u147) l146
                    exact xi_ok146 pc
              · rcases Nat.lt_or_ge m 149 with u149 | l149
                · rcases Nat.lt_or_ge m 148 with u148 | l148
                  · obtain rfl : m = 147 := Nat.le_antisymm (Nat.le_of_lt_succ u148) l147
                    exact xi_ok147 pc
                  · obtain rfl : m = 148 := Nat.le_antisymm (Nat.le_of_lt_succ u149) l148
                    exact xi_ok148 pc
                · rcases Nat.lt_or_ge m 150 with u150 | l150
                  · obtain rfl : m = 149 := Nat.le_antisymm (Nat.le_of_lt_succ u150) l149
                    exact xi_ok149 pc
                  · obtain rfl : m = 150 := Nat.le_antisymm (Nat.le_of_lt_succ u151) l150
                    exact xi_ok150 pc
          · rcases Nat.lt_or_ge m 158 with u158 | l158
            · rcases Nat.lt_or_ge m 154 with u154 | l154
              · rcases Nat.lt_or_ge m 152 with u152 | l152
                · obtain rfl : m = 151 := Nat.le_antisymm (Nat.le_of_lt_succ u152) l151
                  exact xi_ok151 pc
                · rcases Nat.lt_or_ge m 153 with u153 | l153
                  · obtain rfl : m = 152 := Nat.le_antisymm (Nat.le_of_lt_succ u153) l152
                    exact xi_ok152 pc
                  · obtain rfl : m = 153 := Nat.le_antisymm (Nat.le_of_lt_succ u154) l153
                    exact xi_ok153 pc
              · rcases Nat.lt_or_ge m 156 with u156 | l156
                · rcases Nat.lt_or_ge m 155 with u155 | l155
                  · obtain rfl : m = 154 := Nat.le_antisymm (Nat.le_of_lt_succ u155) l154
                    exact xi_ok154 pc
                  · obtain rfl : m = 155 := Nat.le_antisymm (Nat.le_of_lt_succ u156) l155
                    exact xi_ok155 pc
                · rcases Nat.lt_or_ge m 157 with u157 | l157
                  · obtain rfl : m = 156 := Nat.le_antisymm (Nat.le_of_lt_succ u157) l156
                    exact xi_ok156 pc
                  · obtain rfl : m = 157 := Nat.le_antisymm (Nat.le_of_lt_succ u158) l157
                    exact xi_ok157 pc
            · rcases Nat.lt_or_ge m 161 with u161 | l161
              · rcases Nat.lt_or_ge m 159 with u159 | l159
                · obtain rfl : m = 158 := Nat.le_antisymm (Nat.le_of_lt_succ u159) l158
                  exact xi_ok158 pc
                · rcases Nat.lt_or_ge m 160 with u160 | l160
                  · obtain rfl : m = 159 := Nat.le_antisymm (Nat.le_of_lt_succ u160) l159
                    exact xi_ok159 pc
                  · obtain rfl : m = 160 := Nat.le_antisymm (Nat.le_of_lt_succ u161) l160
                    exact xi_ok160 pc
              · rcases Nat.lt_or_ge m 163 with u163 | l163
                · rcases Nat.lt_or_ge m 162 with u162 | l162
                  · obtain rfl : m = 161 := Nat.le_antisymm (Nat.le_of_lt_succ u162) l161
                    exact xi_ok161 pc
                  · obtain rfl : m = 162 := Nat.le_antisymm (Nat.le_of_lt_succ u163) l162
                    exact xi_ok162 pc
                · rcases Nat.lt_or_ge m 164 with u164 | l164
                  · obtain rfl : m = 163 := Nat.le_antisymm (Nat.le_of_lt_succ u164) l163
                    exact xi_ok163 pc
                  · obtain rfl : m = 164 := Nat.le_antisymm (Nat.le_of_lt_succ u165) l164
                    exact xi_ok164 pc
      · rcases Nat.lt_or_ge m 192 with u192 | l192
        · rcases Nat.lt_or_ge m 178 with u178 | l178
          · rcases Nat.lt_or_ge m 171 with u171 | l171
            · rcases Nat.lt_or_ge m 168 with u168 | l168
              · rcases Nat.lt_or_ge m 166 with u166 | l166
                · obtain rfl : m = 165 := Nat.le_antisymm (Nat.le_of_lt_succ u166) l165
                  exact xi_ok165 pc
                · rcases Nat.lt_or_ge m 167 with u167 | l167
                  · obtain rfl : m = 166 := Nat.le_antisymm (Nat.le_of_lt_succ u167) l166
                    exact xi_ok166 pc
                  · obtain rfl : m = 167 := Nat.le_antisymm (Nat.le_of_lt_succ u168) l167
                    exact xi_ok167 pc
              · rcases Nat.lt_or_ge m 169 with u169 | l169
                · obtain rfl : m = 168 := Nat.le_antisymm (Nat.le_of_lt_succ u169) l168
                  exact xi_ok168 pc
                · rcases Nat.lt_or_ge m 170 with u170 | l170
                  · obtain rfl : m = 169 := Nat.le_antisymm (Nat.le_of_lt_succ u170) l169
                    exact xi_ok169 pc
                  · obtain rfl : m = 170 := Nat.le_antisymm (Nat.le_of_lt_succ u171) l170
                    exact xi_ok170 pc
            · rcases Nat.lt_or_ge m 174 with u174 | l174
              · rcases Nat.lt_or_ge m 172 with u172 | l172
                · obtain rfl : m = 171 := Nat.le_antisymm (Nat.le_of_lt_succ u172) l171
                  exact xi_ok171 pc
                · rcases Nat.lt_or_ge m 173 with u173 | l173
                  · obtain rfl : m = 172 := Nat.le_antisymm (Nat.le_of_lt_succ u173) l172
                    exact xi_ok172 pc
                  · obtain rfl : m = 173 := Nat.le_antisymm (Nat.le_of_lt_succ u174) l173
                    exact xi_ok173 pc
              · rcases Nat.lt_or_ge m 176 with u176 | l176
                · rcases Nat.lt_or_ge m 175 with u175 | l175
                  · obtain rfl : m = 174 := Nat.le_antisymm (Nat.le_of_lt_succ u175) l174
                    exact xi_ok174 pc
                  · obtain rfl : m = 175 := Nat.le_antisymm (Nat.le_of_lt_succ u176) l175
                    exact xi_ok175 pc
                · rcases Nat.lt_or_ge m 177 with u177 | l177
                  · obtain rfl : m = 176 := Nat.le_antisymm (Nat.le_of_lt_succ u177) l176
                    exact xi_ok176 pc
                  · obtain rfl : m = 177 := Nat.le_antisymm (Nat.le_of_lt_succ u178) l177
                    exact xi_ok177 pc
          · rcases Nat.lt_or_ge m 185 with u185 | l185
            · rcases Nat.lt_or_ge m 181 with u181 | l181
              · rcases Nat.lt_or_ge m 179 with u179 | l179
                · obtain rfl : m = 178 := Nat.le_antisymm (Nat.le_of_lt_succ u179) l178
                  exact xi_ok178 pc
                · rcases Nat.lt_or_ge m 180 with u180 | l180
                  · obtain rfl : m = 179 := Nat.le_antisymm (Nat.le_of_lt_succ u180) l179
                    exact xi_ok179 pc
                  · obtain rfl : m = 180 := Nat.le_antisymm (Nat.le_of_lt_succ u181) l180
                    exact xi_ok180 pc
              · rcases Nat.lt_or_ge m 183 with u183 | l183
                · rcases Nat.lt_or_ge m 182 with u182 | l182
                  · obtain rfl : m = 181 := Nat.le_antisymm (Nat.le_of_lt_succ u182) l181
                    exact xi_ok181 pc
                  · obtain rfl : m = 182 := Nat.le_antisymm (Nat.le_of_lt_succ u183) l182
                    exact xi_ok182 pc
                · rcases Nat.lt_or_ge m 184 with u184 | l184
                  · obtain rfl : m = 183 := Nat.le_antisymm (Nat.le_of_lt_succ u184) l183
                    exact xi_ok183 pc
                  · obtain rfl : m = 184 := Nat.le_antisymm (Nat.le_of_lt_succ u185) l184
                    exact xi_ok184 pc
            · rcases Nat.lt_or_ge m 188 with u188 | l188
              · rcases Nat.lt_or_ge m 186 with u186 | l186
                · obtain rfl : m = 185 := Nat.le_antisymm (Nat.le_of_lt_succ u186) l185
                  exact xi_ok185 pc
                · rcases Nat.lt_or_ge m 187 with u187 | l187
                  · obtain rfl : m = 186 := Nat.le_antisymm (Nat.le_of_lt_succ u187) l186
                    exact xi_ok186 pc
                  · obtain rfl : m = 187 := Nat.le_antisymm (Nat.le_of_lt_succ u188) l187
                    exact xi_ok187 pc
              · rcases Nat.lt_or_ge m 190 with u190 | l190
                · rcases Nat.lt_or_ge m 189 with u189 | l189
                  · obtain rfl : m = 188 := Nat.le_antisymm (Nat.le_of_lt_succ u189) l188
                    exact xi_ok188 pc
                  · obtain rfl : m = 189 := Nat.le_antisymm (Nat.le_of_lt_succ u190) l189
                    exact xi_ok189 pc
                · rcases Nat.lt_or_ge m 191 with u191 | l191
                  · obtain rfl : m = 190 := Nat.le_antisymm (Nat.le_of_lt_succ u191) l190
                    exact xi_ok190 pc
                  · obtain rfl : m = 191 := Nat.le_antisymm (Nat.le_of_lt_succ u192) l191
                    exact xi_ok191 pc
        · rcases Nat.lt_or_ge m 206 with u206 | l206
          · rcases Nat.lt_or_ge m 199 with u199 | l199
            · rcases Nat.lt_or_ge m 195 with u195 | l195
              · rcases Nat.lt_or_ge m 193 with u193 | l193
                · obtain rfl : m = 192 := Nat.le_antisymm (Nat.le_of_lt_succ u193) l192
                  exact xi_ok192 pc
                · rcases Nat.lt_or_ge m 194 with u194 | l194
                  · obtain rfl : m = 193 := Nat.le_antisymm (Nat.le_of_lt_succ u194) l193
                    exact xi_ok193 pc
                  · obtain rfl : m = 194 := Nat.le_antisymm (Nat.le_of_lt_succ u195) l194
                    exact xi_ok194 pc
              · rcases Nat.lt_or_ge m 197 with u197 | l197
                · rcases Nat.lt_or_ge m 196 with u196 | l196
                  · obtain rfl : m = 195 := Nat.le_antisymm (Nat.le_of_lt_succ u196) l195
                    exact xi_ok195 pc
                  · obtain rfl : m = 196 := Nat.le_antisymm (Nat.le_of_lt_succ u197) l196
                    exact xi_ok196 pc
                · rcases Nat.lt_or_ge m 198 with u198 | l198
                  · obtain rfl : m = 197 := Nat.le_antisymm (Nat.le_of_lt_succ u198) l197
                    exact xi_ok197 pc
                  · obtain rfl : m = 198 := Nat.le_antisymm (Nat.le_of_lt_succ u199) l198
                    exact xi_ok198 pc
            · rcases Nat.lt_or_ge m 202 with u202 | l202
              · rcases Nat.lt_or_ge m 200 with u200 | l200
                · obtain rfl : m = 199 := Nat.le_antisymm (Nat.le_of_lt_succ u200) l199
                  exact xi_ok199 pc
                · rcases Nat.lt_or_ge m 201 with u201 | l201
                  · obtain rfl : m = 200 := Nat.le_antisymm (Nat.le_of_lt_succ u201) l200
                    exact xi_ok200 pc
                  · obtain rfl : m = 201 := Nat.le_antisymm (Nat.le_of_lt_succ u202) l201
                    exact xi_ok201 pc
              · rcases Nat.lt_or_ge m 204 with u204 | l204
                · rcases Nat.lt_or_ge m 203 with u203 | l203
                  · obtain rfl : m = 202 := Nat.le_antisymm (Nat.le_of_lt_succ u203) l202
                    exact xi_ok202 pc
                  · obtain rfl : m = 203 := Nat.le_antisymm (Nat.le_of_lt_succ u204) l203
                    exact xi_ok203 pc
                · rcases Nat.lt_or_ge m 205 with u205 | l205
                  · obtain rfl : m = 204 := Nat.le_antisymm (Nat.le_of_lt_succ u205) l204
                    exact xi_ok204 pc
                  · obtain rfl : m = 205 := Nat.le_antisymm (Nat.le_of_lt_succ u206) l205
                    exact xi_ok205 pc
          · rcases Nat.lt_or_ge m 213 with u213 | l213
            · rcases Nat.lt_or_ge m 209 with u209 | l209
              · rcases Nat.lt_or_ge m 207 with u207 | l207
                · obtain rfl : m = 206 := Nat.le_antisymm (Nat.le_of_lt_succ u207) l206
                  exact xi_ok206 pc
                · rcases Nat.lt_or_ge m 208 with u208 | l208
                  · obtain rfl : m = 207 := Nat.le_antisymm (Nat.le_of_lt_succ u208) l207
                    exact xi_ok207 pc
                  · obtain rfl : m = 208 := Nat.le_antisymm (Nat.le_of_lt_succ u209) l208
                    exact xi_ok208 pc
              · rcases Nat.lt_or_ge m 211 with u211 | l211
                · rcases Nat.lt_or_ge m 210 with u210 | l210
                  · obtain rfl : m = 209 := Nat.le_antisymm (Nat.le_of_lt_succ u210) l209
                    exact xi_ok209 pc
                  · obtain rfl : m = 210 := Nat.le_antisymm (Nat.le_of_lt_succ u211) l210
                    exact xi_ok210 pc
                · rcases Nat.lt_or_ge m 212 with u212 | l212
                  · obtain rfl : m = 211 := Nat.le_antisymm (Nat.le_of_lt_succ u212) l211
                    exact xi_ok211 pc
                  · obtain rfl : m = 212 := Nat.le_antisymm (Nat.le_of_lt_succ u213) l212
                    exact xi_ok212 pc
            · rcases Nat.lt_or_ge m 216 with u216 | l216
              · rcases Nat.lt_or_ge m 214 with u214 | l214
                · obtain rfl : m = 213 := Nat.le_antisymm (Nat.le_of_lt_succ u214) l213
                  exact xi_ok213 pc
                · rcases Nat.lt_or_ge m 215 with u215 | l215
                  · obtain rfl : m = 214 := Nat.le_antisymm (Nat.le_of_lt_succ u215) l214
                    exact xi_ok214 pc
                  · obtain rfl : m = 215 := Nat.le_antisymm (Nat.le_of_lt_succ u216) l215
                    exact xi_ok215 pc
              · rcases Nat.lt_or_ge m 218 with u218 | l218
                · rcases Nat.lt_or_ge m 217 with u217 | l217
                  · obtain rfl : m = 216 := Nat.le_antisymm (Nat.le_of_lt_succ u217) l216
                    exact xi_ok216 pc
                  · obtain rfl : m = 217 := Nat.le_antisymm (Nat.le_of_lt_succ u218) l217
                    exact xi_ok217 pc
                · rcases Nat.lt_or_ge m 219 with u219 | l219
                  · obtain rfl : m = 218 := Nat.le_antisymm (Nat.le_of_lt_succ u219) l218
                    exact xi_ok218 pc
                  · obtain rfl : m = 219 := Nat.le_antisymm (Nat.le_of_lt_succ u220) l219
                    exact xi_ok219 pc
  · rcases Nat.lt_or_ge m 330 with u330 | l330
    · rcases Nat.lt_or_ge m 275 with u275 | l275
      · rcases Nat.lt_or_ge m 247 with u247 | l247
        · rcases Nat.lt_or_ge m 233 with u233 | l233
          · rcases Nat.lt_or_ge m 226 with u226 | l226
            · rcases Nat.lt_or_ge m 223 with u223 | l223
              · rcases Nat.lt_or_ge m 221 with u221 | l221
                · obtain rfl : m = 220 := Nat.le_antisymm (Nat.le_of_lt_succ u221) l220
                  exact xi_ok220 pc
                · rcases Nat.lt_or_ge m 222 with u222 | l222
                  · obtain rfl : m = 221 := Nat.le_antisymm (Nat.le_of_lt_succ u222) l221
                    exact xi_ok221 pc
                  · obtain rfl : m = 222 := Nat.le_antisymm (Nat.le_of_lt_succ u223) l222
                    exact xi_ok222 pc
              · rcases Nat.lt_or_ge m 224 with u224 | l224
                · obtain rfl : m = 223 := Nat.le_antisymm (Nat.le_of_lt_succ u224) l223
                  exact xi_ok223 pc
                · rcases Nat.lt_or_ge m 225 with u225 | l225
                  · obtain rfl : m = 224 := Nat.le_antisymm (Nat.le_of_lt_succ u225) l224
                    exact xi_ok224 pc
                  · obtain rfl : m = 225 := Nat.le_antisymm (Nat.le_of_lt_succ u226) l225
                    exact xi_ok225 pc
            · rcases Nat.lt_or_ge m 229 with u229 | l229
              · rcases Nat.lt_or_ge m 227 with u227 | l227
                · obtain rfl : m = 226 := Nat.le_antisymm (Nat.le_of_lt_succ u227) l226
                  exact xi_ok226 pc
                · rcases Nat.lt_or_ge m 228 with u228 | l228
                  · obtain rfl : m = 227 := Nat.le_antisymm (Nat.le_of_lt_succ u228) l227
                    exact xi_ok227 pc
                  · obtain rfl : m = 228 := Nat.le_antisymm (Nat.le_of_lt_succ u229) l228
                    exact xi_ok228 pc
              · rcases Nat.lt_or_ge m 231 with u231 | l231
                · rcases Nat.lt_or_ge m 230 with u230 | l230
                  · obtain rfl : m = 229 := Nat.le_antisymm (Nat.le_of_lt_succ u230) l229
                    exact xi_ok229 pc
                  · obtain rfl : m = 230 := Nat.le_antisymm (Nat.le_of_lt_succ u231) l230
                    exact xi_ok230 pc
                · rcases Nat.lt_or_ge m 232 with u232 | l232
                  · obtain rfl : m = 231 := Nat.le_antisymm (Nat.le_of_lt_succ u232) l231
                    exact xi_ok231 pc
                  · obtain rfl : m = 232 := Nat.le_antisymm (Nat.le_of_lt_succ u233) l232
                    exact xi_ok232 pc
          · rcases Nat.lt_or_ge m 240 with u240 | l240
            · rcases Nat.lt_or_ge m 236 with u236 | l236
              · rcases Nat.lt_or_ge m 234 with u234 | l234
                · obtain rfl : m = 233 := Nat.le_antisymm (Nat.le_of_lt_succ u234) l233
                  exact xi_ok233 pc
                · rcases Nat.lt_or_ge m 235 with u235 | l235
                  · obtain rfl : m = 234 := Nat.le_antisymm (Nat.le_of_lt_succ u235) l234
                    exact xi_ok234 pc
                  · obtain rfl : m = 235 := Nat.le_antisymm (Nat.le_of_lt_succ u236) l235
                    exact xi_ok235 pc
              · rcases Nat.lt_or_ge m 238 with u238 | l238
                · rcases Nat.lt_or_ge m 237 with u237 | l237
                  · obtain rfl : m = 236 := Nat.le_antisymm (Nat.le_of_lt_succ u237) l236
                    exact xi_ok236 pc
                  · obtain rfl : m = 237 := Nat.le_antisymm (Nat.le_of_lt_succ u238) l237
                    exact xi_ok237 pc
                · rcases Nat.lt_or_ge m 239 with u239 | l239
                  · obtain rfl : m = 238 := Nat.le_antisymm (Nat.le_of_lt_succ u239) l238
                    exact xi_ok238 pc
                  · obtain rfl : m = 239 := Nat.le_antisymm (Nat.le_of_lt_succ u240) l239
                    exact xi_ok239 pc
            · rcases Nat.lt_or_ge m 243 with u243 | l243
              · rcases Nat.lt_or_ge m 241 with u241 | l241
                · obtain rfl : m = 240 := Nat.le_antisymm (Nat.le_of_lt_succ u241) l240
                  exact xi_ok240 pc
                · rcases Nat.lt_or_ge m 242 with u242 | l242
                  · obtain rfl : m = 241 := Nat.le_antisymm (Nat.le_of_lt_succ u242) l241
                    exact xi_ok241 pc
                  · obtain rfl : m = 242 := Nat.le_antisymm (Nat.le_of_lt_succ u243) l242
                    exact xi_ok242 pc
              · rcases Nat.lt_or_ge m 245 with u245 | l245
                · rcases Nat.lt_or_ge m 244 with u244 | l244
                  · obtain rfl : m = 243 := Nat.le_antisymm (Nat.le_of_lt_succ u244) l243
                    exact xi_ok243 pc
                  · obtain rfl : m = 244 := Nat.le_antisymm (Nat.le_of_lt_succ u245) l244
                    exact xi_ok244 pc
                · rcases Nat.lt_or_ge m 246 with u246 | l246
                  · obtain rfl : m = 245 := Nat.le_antisymm (Nat.le_of_lt_succ u246) l245
                    exact xi_ok245 pc
                  · obtain rfl : m = 246 := Nat.le_antisymm (Nat.le_of_lt_succ u247) l246
                    exact xi_ok246 pc
        · rcases Nat.lt_or_ge m 261 with u261 | l261
          · rcases Nat.lt_or_ge m 254 with u254 | l254
            · rcases Nat.lt_or_ge m 250 with u250 | l250
              · rcases Nat.lt_or_ge m 248 with u248 | l248
                · obtain rfl : m = 247 := Nat.le_antisymm (Nat.le_of_lt_succ u248) l247
                  exact xi_ok247 pc
                · rcases Nat.lt_or_ge m 249 with u249 | l249
                  · obtain rfl : m = 248 := Nat.le_antisymm (Nat.le_of_lt_succ u249) l248
                    exact xi_ok248 pc
                  · obtain rfl : m = 249 := Nat.le_antisymm (Nat.le_of_lt_succ u250) l249
                    exact xi_ok249 pc
              · rcases Nat.lt_or_ge m 252 with u252 | l252
                · rcases Nat.lt_or_ge m 251 with u251 | l251
                  · obtain rfl : m = 250 := Nat.le_antisymm (Nat.le_of_lt_succ u251) l250
                    exact xi_ok250 pc
                  · obtain rfl : m = 251 := Nat.le_antisymm (Nat.le_of_lt_succ u252) l251
                    exact xi_ok251 pc
                · rcases Nat.lt_or_ge m 253 with u253 | l253
                  · obtain rfl : m = 252 := Nat.le_antisymm (Nat.le_of_lt_succ u253) l252
                    exact xi_ok252 pc
                  · obtain rfl : m = 253 := Nat.le_antisymm (Nat.le_of_lt_succ u254) l253
                    exact xi_ok253 pc
            · rcases Nat.lt_or_ge m 257 with u257 | l257
              · rcases Nat.lt_or_ge m 255 with u255 | l255
                · obtain rfl : m = 254 := Nat.le_antisymm (Nat.le_of_lt_succ u255) l254
                  exact xi_ok254 pc
                · rcases Nat.lt_or_ge m 256 with u256 | l256
                  · obtain rfl : m = 255 := Nat.le_antisymm (Nat.le_of_lt_succ u256) l255
                    exact xi_ok255 pc
                  · obtain rfl : m = 256 := Nat.le_antisymm (Nat.le_of_lt_succ u257) l256
                    exact xi_ok256 pc
              · rcases Nat.lt_or_ge m 259 with u259 | l259
                · rcases Nat.lt_or_ge m 258 with u258 | l258
                  · obtain rfl : m = 257 := Nat.le_antisymm (Nat.le_of_lt_succ u258) l257
                    exact xi_ok257 pc
                  · obtain rfl : m = 258 := Nat.le_antisymm (Nat.le_of_lt_succ u259) l258
                    exact xi_ok258 pc
                · rcases Nat.lt_or_ge m 260 with u260 | l260
                  · obtain rfl : m = 259 := Nat.le_antisymm (Nat.le_of_lt_succ u260) l259
                    exact xi_ok259 pc
                  · obtain rfl : m = 260 := Nat.le_antisymm (Nat.le_of_lt_succ u261) l260
                    exact xi_ok260 pc
          · rcases Nat.lt_or_ge m 268 with u268 | l268
            · rcases Nat.lt_or_ge m 264 with u264 | l264
              · rcases Nat.lt_or_ge m 262 with u262 | l262
                · obtain rfl : m = 261 := Nat.le_antisymm (Nat.le_of_lt_succ u262) l261
                  exact xi_ok261 pc
                · rcases Nat.lt_or_ge m 263 with u263 | l263
                  · obtain rfl : m = 262 := Nat.le_antisymm (Nat.le_of_lt_succ u263) l262
                    exact xi_ok262 pc
                  · obtain rfl : m = 263 := Nat.le_antisymm (Nat.le_of_lt_succ u264) l263
                    exact xi_ok263 pc
              · rcases Nat.lt_or_ge m 266 with u266 | l266
                · rcases Nat.lt_or_ge m 265 with u265 | l265
                  · obtain rfl : m = 264 := Nat.le_antisymm (Nat.le_of_lt_succ u265) l264
                    exact xi_ok264 pc
                  · obtain rfl : m = 265 := Nat.le_antisymm (Nat.le_of_lt_succ u266) l265
                    exact xi_ok265 pc
                · rcases Nat.lt_or_ge m 267 with u267 | l267
                  · obtain rfl : m = 266 := Nat.le_antisymm (Nat.le_of_lt_succ u267) l266
                    exact xi_ok266 pc
                  · obtain rfl : m = 267 := Nat.le_antisymm (Nat.le_of_lt_succ u268) l267
                    exact xi_ok267 pc
            · rcases Nat.lt_or_ge m 271 with u271 | l271
              · rcases Nat.lt_or_ge m 269 with u269 | l269
                · obtain rfl : m = 268 := Nat.le_antisymm (Nat.le_of_lt_succ u269) l268
                  exact xi_ok268 pc
                · rcases Nat.lt_or_ge m 270 with u270 | l270
                  · obtain rfl : m = 269 := Nat.le_antisymm (Nat.le_of_lt_succ u270) l269
                    exact xi_ok269 pc
                  · obtain rfl : m = 270 := Nat.le_antisymm (Nat.le_of_lt_succ u271) l270
                    exact xi_ok270 pc
              · rcases Nat.lt_or_ge m 273 with u273 | l273
                · rcases Nat.lt_or_ge m 272 with u272 | l272
                  · obtain rfl : m = 271 := Nat.le_antisymm (Nat.le_of_lt_succ u272) l271
                    exact xi_ok271 pc
                  · obtain rfl : m = 272 := Nat.le_antisymm (Nat.le_of_lt_succ u273) l272
                    exact xi_ok272 pc
                · rcases Nat.lt_or_ge m 274 with u274 | l274
                  · obtain rfl : m = 273 := Nat.le_antisymm (Nat.le_of_lt_succ u274) l273
                    exact xi_ok273 pc
                  · obtain rfl : m = 274 := Nat.le_antisymm (Nat.le_of_lt_succ u275) l274
                    exact xi_ok274 pc
      · rcases Nat.lt_or_ge m 302 with u302 | l302
        · rcases Nat.lt_or_ge m 288 with u288 | l288
          · rcases Nat.lt_or_ge m 281 with u281 | l281
            · rcases Nat.lt_or_ge m 278 with u278 | l278
              · rcases Nat.lt_or_ge m 276 with u276 | l276
                · obtain rfl : m = 275 := Nat.le_antisymm (Nat.le_of_lt_succ u276) l275
                  exact xi_ok275 pc
                · rcases Nat.lt_or_ge m 277 with u277 | l277
                  · obtain rfl : m = 276 := Nat.le_antisymm (Nat.le_of_lt_succ u277) l276
                    exact xi_ok276 pc
                  · obtain rfl : m = 277 := Nat.le_antisymm (Nat.le_of_lt_succ u278) l277
                    exact xi_ok277 pc
              · rcases Nat.lt_or_ge m 279 with u279 | l279
                · obtain rfl : m = 278 := Nat.le_antisymm (Nat.le_of_lt_succ u279) l278
                  exact xi_ok278 pc
                · rcases Nat.lt_or_ge m 280 with u280 | l280
                  · obtain rfl : m = 279 := Nat.le_antisymm (Nat.le_of_lt_succ u280) l279
                    exact xi_ok279 pc
                  · obtain rfl : m = 280 := Nat.le_antisymm (Nat.le_of_lt_succ u281) l280
                    exact xi_ok280 pc
            · rcases Nat.lt_or_ge m 284 with u284 | l284
              · rcases Nat.lt_or_ge m 282 with u282 | l282
                · obtain rfl : m = 281 := Nat.le_antisymm (Nat.le_of_lt_succ u282) l281
                  exact xi_ok281 pc
                · rcases Nat.lt_or_ge m 283 with u283 | l283
                  · obtain rfl : m = 282 := Nat.le_antisymm (Nat.le_of_lt_succ u283) l282
                    exact xi_ok282 pc
                  · obtain rfl : m = 283 := Nat.le_antisymm (Nat.le_of_lt_succ u284) l283
                    exact xi_ok283 pc
              · rcases Nat.lt_or_ge m 286 with u286 | l286
                · rcases Nat.lt_or_ge m 285 with u285 | l285
                  · obtain rfl : m = 284 := Nat.le_antisymm (Nat.le_of_lt_succ u285) l284
                    exact xi_ok284 pc
                  · obtain rfl : m = 285 := Nat.le_antisymm (Nat.le_of_lt_succ u286) l285
                    exact xi_ok285 pc
                · rcases Nat.lt_or_ge m 287 with u287 | l287
                  · obtain rfl : m = 286 := Nat.le_antisymm (Nat.le_of_lt_succ u287) l286
                    exact xi_ok286 pc
                  · obtain rfl : m = 287 := Nat.le_antisymm (Nat.le_of_lt_succ u288) l287
                    exact xi_ok287 pc
          · rcases Nat.lt_or_ge m 295 with u295 | l295
            · rcases Nat.lt_or_ge m 291 with u291 | l291
              · rcases Nat.lt_or_ge m 289 with u289 | l289
                · obtain rfl : m = 288 := Nat.le_antisymm (Nat.le_of_lt_succ u289) l288
                  exact xi_ok288 pc
                · rcases Nat.lt_or_ge m 290 with u290 | l290
                  · obtain rfl : m = 289 := Nat.le_antisymm (Nat.le_of_lt_succ u290) l289
                    exact xi_ok289 pc
                  · obtain rfl : m = 290 := Nat.le_antisymm (Nat.le_of_lt_succ u291) l290
                    exact xi_ok290 pc
              · rcases Nat.lt_or_ge m 293 with u293 | l293
                · rcases Nat.lt_or_ge m 292 with u292 | l292
                  · obtain rfl : m = 291 := Nat.le_antisymm (Nat.le_of_lt_succ u292) l291
                    exact xi_ok291 pc
                  · obtain rfl : m = 292 := Nat.le_antisymm (Nat.le_of_lt_succ u293) l292
                    exact xi_ok292 pc
                · rcases Nat.lt_or_ge m 294 with u294 | l294
                  · obtain rfl : m = 293 := Nat.le_antisymm (Nat.le_of_lt_succ u294) l293
                    exact xi_ok293 pc
                  · obtain rfl : m = 294 := Nat.le_antisymm (Nat.le_of_lt_succ u295) l294
                    exact xi_ok294 pc
            · rcases Nat.lt_or_ge m 298 with u298 | l298
              · rcases Nat.lt_or_ge m 296 with u296 | l296
                · obtain rfl : m = 295 := Nat.le_antisymm (Nat.le_of_lt_succ u296) l295
                  exact xi_ok295 pc
                · rcases Nat.lt_or_ge m 297 with u297 | l297
                  · obtain rfl : m = 296 := Nat.le_antisymm (Nat.le_of_lt_succ u297) l296
                    exact xi_ok296 pc
                  · obtain rfl : m = 297 := Nat.le_antisymm (Nat.le_of_lt_succ u298) l297
                    exact xi_ok297 pc
              · rcases Nat.lt_or_ge m 300 with u300 | l300
                · rcases Nat.lt_or_ge m 299 with u299 | l299
                  · obtain rfl : m = 298 := Nat.le_antisymm (Nat.le_of_lt_succ u299) l298
                    exact xi_ok298 pc
                  · obtain rfl : m = 299 := Nat.le_antisymm (Nat.le_of_lt_succ u300) l299
                    exact xi_ok299 pc
                · rcases Nat.lt_or_ge m 301 with u301 | l301
                  · obtain rfl : m = 300 := Nat.le_antisymm (Nat.le_of_lt_succ u301) l300
                    exact xi_ok300 pc
                  · obtain rfl : m = 301 := Nat.le_antisymm (Nat.le_of_lt_succ u302) l301
                    exact xi_ok301 pc
        · rcases Nat.lt_or_ge m 316 with u316 | l316
          · rcases Nat.lt_or_ge m 309 with u309 | l309
            · rcases Nat.lt_or_ge m 305 with u305 | l305
              · rcases Nat.lt_or_ge m 303 with u303 | l303
                · obtain rfl : m = 302 := Nat.le_antisymm (Nat.le_of_lt_succ u303) l302
                  exact xi_ok302 pc
                · rcases Nat.lt_or_ge m 304 with u304 | l304
                  · obtain rfl : m = 303 := Nat.le_antisymm (Nat.le_of_lt_succ u304) l303
                    exact xi_ok303 pc
                  · obtain rfl : m = 304 := Nat.le_antisymm (Nat.le_of_lt_succ u305) l304
                    exact xi_ok304 pc
              · rcases Nat.lt_or_ge m 307 with u307 | l307
                · rcases Nat.lt_or_ge m 306 with u306 | l306
                  · obtain rfl : m = 305 := Nat.le_antisymm (Nat.le_of_lt_succ u306) l305
                    exact xi_ok305 pc
                  · obtain rfl : m = 306 := Nat.le_antisymm (Nat.le_of_lt_succ u307) l306
                    exact xi_ok306 pc
                · rcases Nat.lt_or_ge m 308 with u308 | l308
                  · obtain rfl : m = 307 := Nat.le_antisymm (Nat.le_of_lt_succ u308) l307
                    exact xi_ok307 pc
                  · obtain rfl : m = 308 := Nat.le_antisymm (Nat.le_of_lt_succ u309) l308
                    exact xi_ok308 pc
            · rcases Nat.lt_or_ge m 312 with u312 | l312
              · rcases Nat.lt_or_ge m 310 with u310 | l310
                · obtain rfl : m = 309 := Nat.le_antisymm (Nat.le_of_lt_succ u310) l309
                  exact xi_ok309 pc
                · rcases Nat.lt_or_ge m 311 with u311 | l311
                  · obtain rfl : m = 310 := Nat.le_antisymm (Nat.le_of_lt_succ u311) l310
                    exact xi_ok310 pc
                  · obtain rfl : m = 311 := Nat.le_antisymm (Nat.le_of_lt_succ u312) l311
                    exact xi_ok311 pc
              · rcases Nat.lt_or_ge m 314 with u314 | l314
                · rcases Nat.lt_or_ge m 313 with u313 | l313
                  · obtain rfl : m = 312 := Nat.le_antisymm (Nat.le_of_lt_succ u313) l312
                    exact xi_ok312 pc
                  · obtain rfl : m = 313 := Nat.le_antisymm (Nat.le_of_lt_succ u314) l313
                    exact xi_ok313 pc
                · rcases Nat.lt_or_ge m 315 with u315 | l315
                  · obtain rfl : m = 314 := Nat.le_antisymm (Nat.le_of_lt_succ u315) l314
                    exact xi_ok314 pc
                  · obtain rfl : m = 315 := Nat.le_antisymm (Nat.le_of_lt_succ u316) l315
                    exact xi_ok315 pc
          · rcases Nat.lt_or_ge m 323 with u323 | l323
            · rcases Nat.lt_or_ge m 319 with u319 | l319
              · rcases Nat.lt_or_ge m 317 with u317 | l317
                · obtain rfl : m = 316 := Nat.le_antisymm (Nat.le_of_lt_succ u317) l316
                  exact xi_ok316 pc
                · rcases Nat.lt_or_ge m 318 with u318 | l318
                  · obtain rfl : m = 317 := Nat.le_antisymm (Nat.le_of_lt_succ u318) l317
                    exact xi_ok317 pc
                  · obtain rfl : m = 318 := Nat.le_antisymm (Nat.le_of_lt_succ u319) l318
                    exact xi_ok318 pc
              · rcases Nat.lt_or_ge m 321 with u321 | l321
                · rcases Nat.lt_or_ge m 320 with u320 | l320
                  · obtain rfl : m = 319 := Nat.le_antisymm (Nat.le_of_lt_succ u320) l319
                    exact xi_ok319 pc
                  · obtain rfl : m = 320 := Nat.le_antisymm (Nat.le_of_lt_succ u321) l320
                    exact xi_ok320 pc
                · rcases Nat.lt_or_ge m 322 with u322 | l322
                  · obtain rfl : m = 321 := Nat.le_antisymm (Nat.le_of_lt_succ u322) l321
                    exact xi_ok321 pc
                  · obtain rfl : m = 322 := Nat.le_antisymm (Nat.le_of_lt_succ u323) l322
                    exact xi_ok322 pc
            · rcases Nat.lt_or_ge m 326 with u326 | l326
              · rcases Nat.lt_or_ge m 324 with u324 | l324
                · obtain rfl : m = 323 := Nat.le_antisymm (Nat.le_of_lt_succ u324) l323
                  exact xi_ok323 pc
                · rcases Nat.lt_or_ge m 325 with u325 | l325
                  · obtain rfl : m = 324 := Nat.le_antisymm (Nat.le_of_lt_succ u325) l324
                    exact xi_ok324 pc
                  · obtain rfl : m = 325 := Nat.le_antisymm (Nat.le_of_lt_succ u326) l325
                    exact xi_ok325 pc
              · rcases Nat.lt_or_ge m 328 with u328 | l328
                · rcases Nat.lt_or_ge m 327 with u327 | l327
                  · obtain rfl : m = 326 := Nat.le_antisymm (Nat.le_of_lt_succ u327) l326
                    exact xi_ok326 pc
                  · obtain rfl : m = 327 := Nat.le_antisymm (Nat.le_of_lt_succ u328) l327
                    exact xi_ok327 pc
                · rcases Nat.lt_or_ge m 329 with u329 | l329
                  · obtain rfl : m = 328 := Nat.le_antisymm (Nat.le_of_lt_succ u329) l328
                    exact xi_ok328 pc
                  · obtain rfl : m = 329 := Nat.le_antisymm (Nat.le_of_lt_succ u330) l329
                    exact xi_ok329 pc
    · rcases Nat.lt_or_ge m 385 with u385 | l385
      · rcases Nat.lt_or_ge m 357 with u357 | l357
        · rcases Nat.lt_or_ge m 343 with u343 | l343
          · rcases Nat.lt_or_ge m 336 with u336 | l336
            · rcases Nat.lt_or_ge m 333 with u333 | l333
              · rcases Nat.lt_or_ge m 331 with u331 | l331
                · obtain rfl : m = 330 := Nat.le_antisymm (Nat.le_of_lt_succ u331) l330
                  exact xi_ok330 pc
                · rcases Nat.lt_or_ge m 332 with u332 | l332
                  · obtain rfl : m = 331 := Nat.le_antisymm (Nat.le_of_lt_succ u332) l331
                    exact xi_ok331 pc
                  · obtain rfl : m = 332 := Nat.le_antisymm (Nat.le_of_lt_succ u333) l332
                    exact xi_ok332 pc
              · rcases Nat.lt_or_ge m 334 with u334 | l334
                · obtain rfl : m = 333 := Nat.le_antisymm (Nat.le_of_lt_succ u334) l333
                  exact xi_ok333 pc
                · rcases Nat.lt_or_ge m 335 with u335 | l335
                  · obtain rfl : m = 334 := Nat.le_antisymm (Nat.le_of_lt_succ u335) l334
                    exact xi_ok334 pc
                  · obtain rfl : m = 335 := Nat.le_antisymm (Nat.le_of_lt_succ u336) l335
                    exact xi_ok335 pc
            · rcases Nat.lt_or_ge m 339 with u339 | l339
              · rcases Nat.lt_or_ge m 337 with u337 | l337
                · obtain rfl : m = 336 := Nat.le_antisymm (Nat.le_of_lt_succ u337) l336
                  exact xi_ok336 pc
                · rcases Nat.lt_or_ge m 338 with u338 | l338
                  · obtain rfl : m = 337 := Nat.le_antisymm (Nat.le_of_lt_succ u338) l337
                    exact xi_ok337 pc
                  · obtain rfl : m = 338 := Nat.le_antisymm (Nat.le_of_lt_succ u339) l338
                    exact xi_ok338 pc
              · rcases Nat.lt_or_ge m 341 with u341 | l341
                · rcases Nat.lt_or_ge m 340 with u340 | l340
                  · obtain rfl : m = 339 := Nat.le_antisymm (Nat.le_of_lt_succ u340) l339
                    exact xi_ok339 pc
                  · obtain rfl : m = 340 := Nat.le_antisymm (Nat.le_of_lt_succ u341) l340
                    exact xi_ok340 pc
                · rcases Nat.lt_or_ge m 342 with u342 | l342
                  · obtain rfl : m = 341 := Nat.le_antisymm (Nat.le_of_lt_succ u342) l341
                    exact xi_ok341 pc
                  · obtain rfl : m = 342 := Nat.le_antisymm (Nat.le_of_lt_succ u343) l342
                    exact xi_ok342 pc
          · rcases Nat.lt_or_ge m 350 with u350 | l350
            · rcases Nat.lt_or_ge m 346 with u346 | l346
              · rcases Nat.lt_or_ge m 344 with u344 | l344
                · obtain rfl : m = 343 := Nat.le_antisymm (Nat.le_of_lt_succ u344) l343
                  exact xi_ok343 pc
                · rcases Nat.lt_or_ge m 345 with u345 | l345
                  · obtain rfl : m = 344 := Nat.le_antisymm (Nat.le_of_lt_succ u345) l344
                    exact xi_ok344 pc
                  · obtain rfl : m = 345 := Nat.le_antisymm (Nat.le_of_lt_succ u346) l345
                    exact xi_ok345 pc
              · rcases Nat.lt_or_ge m 348 with u348 | l348
                · rcases Nat.lt_or_ge m 347 with u347 | l347
                  · obtain rfl : m = 346 := Nat.le_antisymm (Nat.le_of_lt_succ u347) l346
                    exact xi_ok346 pc
                  · obtain rfl : m = 347 := Nat.le_antisymm (Nat.le_of_lt_succ u348) l347
                    exact xi_ok347 pc
                · rcases Nat.lt_or_ge m 349 with u349 | l349
                  · obtain rfl : m = 348 := Nat.le_antisymm (Nat.le_of_lt_succ u349) l348
                    exact xi_ok348 pc
                  · obtain rfl : m = 349 := Nat.le_antisymm (Nat.le_of_lt_succ u350) l349
                    exact xi_ok349 pc
            · rcases Nat.lt_or_ge m 353 with u353 | l353
              · rcases Nat.lt_or_ge m 351 with u351 | l351
                · obtain rfl : m = 350 := Nat.le_antisymm (Nat.le_of_lt_succ u351) l350
                  exact xi_ok350 pc
                · rcases Nat.lt_or_ge m 352 with u352 | l352
                  · obtain rfl : m = 351 := Nat.le_antisymm (Nat.le_of_lt_succ u352) l351
                    exact xi_ok351 pc
                  · obtain rfl : m = 352 := Nat.le_antisymm (Nat.le_of_lt_succ u353) l352
                    exact xi_ok352 pc
              · rcases Nat.lt_or_ge m 355 with u355 | l355
                · rcases Nat.lt_or_ge m 354 with u354 | l354
                  · obtain rfl : m = 353 := Nat.le_antisymm (Nat.le_of_lt_succ u354) l353
                    exact xi_ok353 pc
                  · obtain rfl : m = 354 := Nat.le_antisymm (Nat.le_of_lt_succ u355) l354
                    exact xi_ok354 pc
                · rcases Nat.lt_or_ge m 356 with u356 | l356
                  · obtain rfl : m = 355 := Nat.le_antisymm (Nat.le_of_lt_succ u356) l355
                    exact xi_ok355 pc
                  · obtain rfl : m = 356 := Nat.le_antisymm (Nat.le_of_lt_succ u357) l356
                    exact xi_ok356 pc
        · rcases Nat.lt_or_ge m 371 with u371 | l371
          · rcases Nat.lt_or_ge m 364 with u364 | l364
            · rcases Nat.lt_or_ge m 360 with u360 | l360
              · rcases Nat.lt_or_ge m 358 with u358 | l358
                · obtain rfl : m = 357 := Nat.le_antisymm (Nat.le_of_lt_succ u358) l357
                  exact xi_ok357 pc
                · rcases Nat.lt_or_ge m 359 with u359 | l359
                  · obtain rfl : m = 358 := Nat.le_antisymm (Nat.le_of_lt_succ u359) l358
                    exact xi_ok358 pc
                  · obtain rfl : m = 359 := Nat.le_antisymm (Nat.le_of_lt_succ u360) l359
                    exact xi_ok359 pc
              · rcases Nat.lt_or_ge m 362 with u362 | l362
                · rcases Nat.lt_or_ge m 361 with u361 | l361
                  · obtain rfl : m = 360 := Nat.le_antisymm (Nat.le_of_lt_succ u361) l360
                    exact xi_ok360 pc
                  · obtain rfl : m = 361 := Nat.le_antisymm (Nat.le_of_lt_succ u362) l361
                    exact xi_ok361 pc
                · rcases Nat.lt_or_ge m 363 with u363 | l363
                  · obtain rfl : m = 362 := Nat.le_antisymm (Nat.le_of_lt_succ u363) l362
                    exact xi_ok362 pc
                  · obtain rfl : m = 363 := Nat.le_antisymm (Nat.le_of_lt_succ u364) l363
                    exact xi_ok363 pc
            · rcases Nat.lt_or_ge m 367 with u367 | l367
              · rcases Nat.lt_or_ge m 365 with u365 | l365
                · obtain rfl : m = 364 := Nat.le_antisymm (Nat.le_of_lt_succ u365) l364
                  exact xi_ok364 pc
                · rcases Nat.lt_or_ge m 366 with u366 | l366
                  · obtain rfl : m = 365 := Nat.le_antisymm (Nat.le_of_lt_succ u366) l365
                    exact xi_ok365 pc
                  · obtain rfl : m = 366 := Nat.le_antisymm (Nat.le_of_lt_succ u367) l366
                    exact xi_ok366 pc
              · rcases Nat.lt_or_ge m 369 with u369 | l369
                · rcases Nat.lt_or_ge m 368 with u368 | l368
                  · obtain rfl : m = 367 := Nat.le_antisymm (Nat.le_of_lt_succ u368) l367
                    exact xi_ok367 pc
                  · obtain rfl : m = 368 := Nat.le_antisymm (Nat.le_of_lt_succ u369) l368
                    exact xi_ok368 pc
                · rcases Nat.lt_or_ge m 370 with u370 | l370
                  · obtain rfl : m = 369 := Nat.le_antisymm (Nat.le_of_lt_succ u370) l369
                    exact xi_ok369 pc
                  · obtain rfl : m = 370 := Nat.le_antisymm (Nat.le_of_lt_succ u371) l370
                    exact xi_ok370 pc
          · rcases Nat.lt_or_ge m 378 with u378 | l378
            · rcases Nat.lt_or_ge m 374 with u374 | l374
              · rcases Nat.lt_or_ge m 372 with u372 | l372
                · obtain rfl : m = 371 := Nat.le_antisymm (Nat.le_of_lt_succ u372) l371
                  exact xi_ok371 pc
                · rcases Nat.lt_or_ge m 373 with u373 | l373
                  · obtain rfl : m = 372 := Nat.le_antisymm (Nat.le_of_lt_succ u373) l372
                    exact xi_ok372 pc
                  · obtain rfl : m = 373 := Nat.le_antisymm (Nat.le_of_lt_succ u374) l373
                    exact xi_ok373 pc
              · rcases Nat.lt_or_ge m 376 with u376 | l376
                · rcases Nat.lt_or_ge m 375 with u375 | l375
                  · obtain rfl : m = 374 := Nat.le_antisymm (Nat.le_of_lt_succ u375) l374
                    exact xi_ok374 pc
                  · obtain rfl : m = 375 := Nat.le_antisymm (Nat.le_of_lt_succ u376) l375
                    exact xi_ok375 pc
                · rcases Nat.lt_or_ge m 377 with u377 | l377
                  · obtain rfl : m = 376 := Nat.le_antisymm (Nat.le_of_lt_succ u377) l376
                    exact xi_ok376 pc
                  · obtain rfl : m = 377 := Nat.le_antisymm (Nat.le_of_lt_succ u378) l377
                    exact xi_ok377 pc
            · rcases Nat.lt_or_ge m 381 with u381 | l381
              · rcases Nat.lt_or_ge m 379 with u379 | l379
                · obtain rfl : m = 378 := Nat.le_antisymm (Nat.le_of_lt_succ u379) l378
                  exact xi_ok378 pc
                · rcases Nat.lt_or_ge m 380 with u380 | l380
                  · obtain rfl : m = 379 := Nat.le_antisymm (Nat.le_of_lt_succ u380) l379
                    exact xi_ok379 pc
                  · obtain rfl : m = 380 := Nat.le_antisymm (Nat.le_of_lt_succ u381) l380
                    exact xi_ok380 pc
              · rcases Nat.lt_or_ge m 383 with u383 | l383
                · rcases Nat.lt_or_ge m 382 with u382 | l382
                  · obtain rfl : m = 381 := Nat.le_antisymm (Nat.le_of_lt_succ u382) l381
                    exact xi_ok381 pc
                  · obtain rfl : m = 382 := Nat.le_antisymm (Nat.le_of_lt_succ u383) l382
                    exact xi_ok382 pc
                · rcases Nat.lt_or_ge m 384 with u384 | l384
                  · obtain rfl : m = 383 := Nat.le_antisymm (Nat.le_of_lt_succ u384) l383
                    exact xi_ok383 pc
                  · obtain rfl : m = 384 := Nat.le_antisymm (Nat.le_of_lt_succ u385) l384
                    exact xi_ok384 pc
      · rcases Nat.lt_or_ge m 412 with u412 | l412
        · rcases Nat.lt_or_ge m 398 with u398 | l398
          · rcases Nat.lt_or_ge m 391 with u391 | l391
            · rcases Nat.lt_or_ge m 388 with u388 | l388
              · rcases Nat.lt_or_ge m 386 with u386 | l386
                · obtain rfl : m = 385 := Nat.le_antisymm (Nat.le_of_lt_succ u386) l385
                  exact xi_ok385 pc
                · rcases Nat.lt_or_ge m 387 with u387 | l387
                  · obtain rfl : m = 386 := Nat.le_antisymm (Nat.le_of_lt_succ u387) l386
                    exact xi_ok386 pc
                  · obtain rfl : m = 387 := Nat.le_antisymm (Nat.le_of_lt_succ u388) l387
                    exact xi_ok387 pc
              · rcases Nat.lt_or_ge m 389 with u389 | l389
                · obtain rfl : m = 388 := Nat.le_antisymm (Nat.le_of_lt_succ u389) l388
                  exact xi_ok388 pc
                · rcases Nat.lt_or_ge m 390 with u390 | l390
                  · obtain rfl : m = 389 := Nat.le_antisymm (Nat.le_of_lt_succ u390) l389
                    exact xi_ok389 pc
                  · obtain rfl : m = 390 := Nat.le_antisymm (Nat.le_of_lt_succ u391) l390
                    exact xi_ok390 pc
            · rcases Nat.lt_or_ge m 394 with u394 | l394
              · rcases Nat.lt_or_ge m 392 with u392 | l392
                · obtain rfl : m = 391 := Nat.le_antisymm (Nat.le_of_lt_succ u392) l391
                  exact xi_ok391 pc
                · rcases Nat.lt_or_ge m 393 with u393 | l393
                  · obtain rfl : m = 392 := Nat.le_antisymm (Nat.le_of_lt_succ u393) l392
                    exact xi_ok392 pc
                  · obtain rfl : m = 393 := Nat.le_antisymm (Nat.le_of_lt_succ u394) l393
                    exact xi_ok393 pc
              · rcases Nat.lt_or_ge m 396 with u396 | l396
                · rcases Nat.lt_or_ge m 395 with u395 | l395
                  · obtain rfl : m = 394 := Nat.le_antisymm (Nat.le_of_lt_succ u395) l394
                    exact xi_ok394 pc
                  · obtain rfl : m = 395 := Nat.le_antisymm (Nat.le_of_lt_succ u396) l395
                    exact xi_ok395 pc
                · rcases Nat.lt_or_ge m 397 with u397 | l397
                  · obtain rfl : m = 396 := Nat.le_antisymm (Nat.le_of_lt_succ u397) l396
                    exact xi_ok396 pc
                  · obtain rfl : m = 397 := Nat.le_antisymm (Nat.le_of_lt_succ u398) l397
                    exact xi_ok397 pc
          · rcases Nat.lt_or_ge m 405 with u405 | l405
            · rcases Nat.lt_or_ge m 401 with u401 | l401
              · rcases Nat.lt_or_ge m 399 with u399 | l399
                · obtain rfl : m = 398 := Nat.le_antisymm (Nat.le_of_lt_succ u399) l398
                  exact xi_ok398 pc
                · rcases Nat.lt_or_ge m 400 with u400 | l400
                  · obtain rfl : m = 399 := Nat.le_antisymm (Nat.le_of_lt_succ u400) l399
                    exact xi_ok399 pc
                  · obtain rfl : m = 400 := Nat.le_antisymm (Nat.le_of_lt_succ u401) l400
                    exact xi_ok400 pc
              · rcases Nat.lt_or_ge m 403 with u403 | l403
                · rcases Nat.lt_or_ge m 402 with u402 | l402
                  · obtain rfl : m = 401 := Nat.le_antisymm (Nat.le_of_lt_succ u402) l401
                    exact xi_ok401 pc
                  · obtain rfl : m = 402 := Nat.le_antisymm (Nat.le_of_lt_succ u403) l402
                    exact xi_ok402 pc
                · rcases Nat.lt_or_ge m 404 with u404 | l404
                  · obtain rfl : m = 403 := Nat.le_antisymm (Nat.le_of_lt_succ u404) l403
                    exact xi_ok403 pc
                  · obtain rfl : m = 404 := Nat.le_antisymm (Nat.le_of_lt_succ u405) l404
                    exact xi_ok404 pc
            · rcases Nat.lt_or_ge m 408 with u408 | l408
              · rcases Nat.lt_or_ge m 406 with u406 | l406
                · obtain rfl : m = 405 := Nat.le_antisymm (Nat.le_of_lt_succ u406) l405
                  exact xi_ok405 pc
                · rcases Nat.lt_or_ge m 407 with u407 | l407
                  · obtain rfl : m = 406 := Nat.le_antisymm (Nat.le_of_lt_succ u407) l406
                    exact xi_ok406 pc
                  · obtain rfl : m = 407 := Nat.le_antisymm (Nat.le_of_lt_succ u408) l407
                    exact xi_ok407 pc
              · rcases Nat.lt_or_ge m 410 with u410 | l410
                · rcases Nat.lt_or_ge m 409 with u409 | l409
                  · obtain rfl : m = 408 := Nat.le_antisymm (Nat.le_of_lt_succ u409) l408
                    exact xi_ok408 pc
                  · obtain rfl : m = 409 := Nat.le_antisymm (Nat.le_of_lt_succ u410) l409
                    exact xi_ok409 pc
                · rcases Nat.lt_or_ge m 411 with u411 | l411
                  · obtain rfl : m = 410 := Nat.le_antisymm (Nat.le_of_lt_succ u411) l410
                    exact xi_ok410 pc
                  · obtain rfl : m = 411 := Nat.le_antisymm (Nat.le_of_lt_succ u412) l411
                    exact xi_ok411 pc
        · rcases Nat.lt_or_ge m 426 with u426 | l426
          · rcases Nat.lt_or_ge m 419 with u419 | l419
            · rcases Nat.lt_or_ge m 415 with u415 | l415
              · rcases Nat.lt_or_ge m 413 with u413 | l413
                · obtain rfl : m = 412 := Nat.le_antisymm (Nat.le_of_lt_succ u413) l412
                  exact xi_ok412 pc
                · rcases Nat.lt_or_ge m 414 with u414 | l414
                  · obtain rfl : m = 413 := Nat.le_antisymm (Nat.le_of_lt_succ u414) l413
                    exact xi_ok413 pc
                  · obtain rfl : m = 414 := Nat.le_antisymm (Nat.le_of_lt_succ u415) l414
                    exact xi_ok414 pc
              · rcases Nat.lt_or_ge m 417 with u417 | l417
                · rcases Nat.lt_or_ge m 416 with u416 | l416
                  · obtain rfl : m = 415 := Nat.le_antisymm (Nat.le_of_lt_succ u416) l415
                    exact xi_ok415 pc
                  · obtain rfl : m = 416 := Nat.le_antisymm (Nat.le_of_lt_succ u417) l416
                    exact xi_ok416 pc
                · rcases Nat.lt_or_ge m 418 with u418 | l418
                  · obtain rfl : m = 417 := Nat.le_antisymm (Nat.le_of_lt_succ u418) l417
                    exact xi_ok417 pc
                  · obtain rfl : m = 418 := Nat.le_antisymm (Nat.le_of_lt_succ u419) l418
                    exact xi_ok418 pc
            · rcases Nat.lt_or_ge m 422 with u422 | l422
              · rcases Nat.lt_or_ge m 420 with u420 | l420
                · obtain rfl : m = 419 := Nat.le_antisymm (Nat.le_of_lt_succ u420) l419
                  exact xi_ok419 pc
                · rcases Nat.lt_or_ge m 421 with u421 | l421
                  · obtain rfl : m = 420 := Nat.le_antisymm (Nat.le_of_lt_succ u421) l420
                    exact xi_ok420 pc
                  · obtain rfl : m = 421 := Nat.le_antisymm (Nat.le_of_lt_succ u422) l421
                    exact xi_ok421 pc
              · rcases Nat.lt_or_ge m 424 with u424 | l424
                · rcases Nat.lt_or_ge m 423 with u423 | l423
                  · obtain rfl : m = 422 := Nat.le_antisymm (Nat.le_of_lt_succ u423) l422
                    exact xi_ok422 pc
                  · obtain rfl : m = 423 := Nat.le_antisymm (Nat.le_of_lt_succ u424) l423
                    exact xi_ok423 pc
                · rcases Nat.lt_or_ge m 425 with u425 | l425
                  · obtain rfl : m = 424 := Nat.le_antisymm (Nat.le_of_lt_succ u425) l424
                    exact xi_ok424 pc
                  · obtain rfl : m = 425 := Nat.le_antisymm (Nat.le_of_lt_succ u426) l425
                    exact xi_ok425 pc
          · rcases Nat.lt_or_ge m 433 with u433 | l433
            · rcases Nat.lt_or_ge m 429 with u429 | l429
              · rcases Nat.lt_or_ge m 427 with u427 | l427
                · obtain rfl : m = 426 := Nat.le_antisymm (Nat.le_of_lt_succ u427) l426
                  exact xi_ok426 pc
                · rcases Nat.lt_or_ge m 428 with u428 | l428
                  · obtain rfl : m = 427 := Nat.le_antisymm (Nat.le_of_lt_succ u428) l427
                    exact xi_ok427 pc
                  · obtain rfl : m = 428 := Nat.le_antisymm (Nat.le_of_lt_succ u429) l428
                    exact xi_ok428 pc
              · rcases Nat.lt_or_ge m 431 with u431 | l431
                · rcases Nat.lt_or_ge m 430 with u430 | l430
                  · obtain rfl : m = 429 := Nat.le_antisymm (Nat.le_of_lt_succ u430) l429
                    exact xi_ok429 pc
                  · obtain rfl : m = 430 := Nat.le_antisymm (Nat.le_of_lt_succ u431) l430
                    exact xi_ok430 pc
                · rcases Nat.lt_or_ge m 432 with u432 | l432
                  · obtain rfl : m = 431 := Nat.le_antisymm (Nat.le_of_lt_succ u432) l431
                    exact xi_ok431 pc
                  · obtain rfl : m = 432 := Nat.le_antisymm (Nat.le_of_lt_succ u433) l432
                    exact xi_ok432 pc
            · rcases Nat.lt_or_ge m 436 with u436 | l436
              · rcases Nat.lt_or_ge m 434 with u434 | l434
                · obtain rfl : m = 433 := Nat.le_antisymm (Nat.le_of_lt_succ u434) l433
                  exact xi_ok433 pc
                · rcases Nat.lt_or_ge m 435 with u435 | l435
                  · obtain rfl : m = 434 := Nat.le_antisymm (Nat.le_of_lt_succ u435) l434
                    exact xi_ok434 pc
                  · obtain rfl : m = 435 := Nat.le_antisymm (Nat.le_of_lt_succ u436) l435
                    exact xi_ok435 pc
              · rcases Nat.lt_or_ge m 438 with u438 | l438
                · rcases Nat.lt_or_ge m 437 with u437 | l437
                  · obtain rfl : m = 436 := Nat.le_antisymm (Nat.le_of_lt_succ u437) l436
                    exact xi_ok436 pc
                  · obtain rfl : m = 437 := Nat.le_antisymm (Nat.le_of_lt_succ u438) l437
                    exact xi_ok437 pc
                · rcases Nat.lt_or_ge m 439 with u439 | l439
                  · obtain rfl : m = 438 := Nat.le_antisymm (Nat.le_of_lt_succ u439) l438
                    exact xi_ok438 pc
                  · obtain rfl : m = 439 := Nat.le_antisymm (Nat.le_of_lt_succ h) l439
                    exact xi_ok439 pc
noncomputable def xm_n : Nat := 440
set_option maxRecDepth 100000 in
theorem xo_all : (List.range 440).all (fun m => decide (xo m < 21)) = true := by decide +kernel
theorem xm_any {l : List (Nat × Nat)} {m : Nat} (h : l.any (fun q => Nat.beq q.1 m) = true) : ∃ g, (m, g) ∈ l := by
  obtain ⟨q, h1, h2⟩ := List.any_eq_true.mp h
  have e := Nat.eq_of_beq_eq_true h2
  exact ⟨q.2, by rw [← e]; exact h1⟩
set_option maxHeartbeats 4000000 in
set_option maxRecDepth 100000 in
theorem xmc_all {m : Nat} (h0 : 0 < m) (h : m < 440) : (if xk m = 0 then Cond.code (xy m) (xc m) (xn m) (xr m) else Cond.codeWith (xy m) (xc m) (xn m) (xr m) (xh m)) ∈ am_T := by
  rcases Nat.lt_or_ge m 220 with u220 | l220
  · rcases Nat.lt_or_ge m 110 with u110 | l110
    · rcases Nat.lt_or_ge m 55 with u55 | l55
      · rcases Nat.lt_or_ge m 28 with u28 | l28
        · rcases Nat.lt_or_ge m 14 with u14 | l14
          · rcases Nat.lt_or_ge m 7 with u7 | l7
            · rcases Nat.lt_or_ge m 4 with u4 | l4
              · rcases Nat.lt_or_ge m 2 with u2 | l2
                · obtain rfl : m = 1 := Nat.le_antisymm (Nat.le_of_lt_succ u2) h0
                  exact xmc1
                · rcases Nat.lt_or_ge m 3 with u3 | l3
                  · obtain rfl : m = 2 := Nat.le_antisymm (Nat.le_of_lt_succ u3) l2
                    exact xmc2
                  · obtain rfl : m = 3 := Nat.le_antisymm (Nat.le_of_lt_succ u4) l3
                    exact xmc3
              · rcases Nat.lt_or_ge m 5 with u5 | l5
                · obtain rfl : m = 4 := Nat.le_antisymm (Nat.le_of_lt_succ u5) l4
                  exact xmc4
                · rcases Nat.lt_or_ge m 6 with u6 | l6
                  · obtain rfl : m = 5 := Nat.le_antisymm (Nat.le_of_lt_succ u6) l5
                    exact xmc5
                  · obtain rfl : m = 6 := Nat.le_antisymm (Nat.le_of_lt_succ u7) l6
                    exact xmc6
            · rcases Nat.lt_or_ge m 10 with u10 | l10
              · rcases Nat.lt_or_ge m 8 with u8 | l8
                · obtain rfl : m = 7 := Nat.le_antisymm (Nat.le_of_lt_succ u8) l7
                  exact xmc7
                · rcases Nat.lt_or_ge m 9 with u9 | l9
                  · obtain rfl : m = 8 := Nat.le_antisymm (Nat.le_of_lt_succ u9) l8
                    exact xmc8
                  · obtain rfl : m = 9 := Nat.le_antisymm (Nat.le_of_lt_succ u10) l9
                    exact xmc9
              · rcases Nat.lt_or_ge m 12 with u12 | l12
                · rcases Nat.lt_or_ge m 11 with u11 | l11
                  · obtain rfl : m = 10 := Nat.le_antisymm (Nat.le_of_lt_succ u11) l10
                    exact xmc10
                  · obtain rfl : m = 11 := Nat.le_antisymm (Nat.le_of_lt_succ u12) l11
                    exact xmc11
                · rcases Nat.lt_or_ge m 13 with u13 | l13
                  · obtain rfl : m = 12 := Nat.le_antisymm (Nat.le_of_lt_succ u13) l12
                    exact xmc12
                  · obtain rfl : m = 13 := Nat.le_antisymm (Nat.le_of_lt_succ u14) l13
                    exact xmc13
          · rcases Nat.lt_or_ge m 21 with u21 | l21
            · rcases Nat.lt_or_ge m 17 with u17 | l17
              · rcases Nat.lt_or_ge m 15 with u15 | l15
                · obtain rfl : m = 14 := Nat.le_antisymm (Nat.le_of_lt_succ u15) l14
                  exact xmc14
                · rcases Nat.lt_or_ge m 16 with u16 | l16
                  · obtain rfl : m = 15 := Nat.le_antisymm (Nat.le_of_lt_succ u16) l15
                    exact xmc15
                  · obtain rfl : m = 16 := Nat.le_antisymm (Nat.le_of_lt_succ u17) l16
                    exact xmc16
              · rcases Nat.lt_or_ge m 19 with u19 | l19
                · rcases Nat.lt_or_ge m 18 with u18 | l18
                  · obtain rfl : m = 17 := Nat.le_antisymm (Nat.le_of_lt_succ u18) l17
                    exact xmc17
                  · obtain rfl : m = 18 := Nat.le_antisymm (Nat.le_of_lt_succ u19) l18
                    exact xmc18
                · rcases Nat.lt_or_ge m 20 with u20 | l20
                  · obtain rfl : m = 19 := Nat.le_antisymm (Nat.le_of_lt_succ u20) l19
                    exact xmc19
                  · obtain rfl : m = 20 := Nat.le_antisymm (Nat.le_of_lt_succ u21) l20
                    exact xmc20
            · rcases Nat.lt_or_ge m 24 with u24 | l24
              · rcases Nat.lt_or_ge m 22 with u22 | l22
                · obtain rfl : m = 21 := Nat.le_antisymm (Nat.le_of_lt_succ u22) l21
                  exact xmc21
                · rcases Nat.lt_or_ge m 23 with u23 | l23
                  · obtain rfl : m = 22 := Nat.le_antisymm (Nat.le_of_lt_succ u23) l22
                    exact xmc22
                  · obtain rfl : m = 23 := Nat.le_antisymm (Nat.le_of_lt_succ u24) l23
                    exact xmc23
              · rcases Nat.lt_or_ge m 26 with u26 | l26
                · rcases Nat.lt_or_ge m 25 with u25 | l25
                  · obtain rfl : m = 24 := Nat.le_antisymm (Nat.le_of_lt_succ u25) l24
                    exact xmc24
                  · obtain rfl : m = 25 := Nat.le_antisymm (Nat.le_of_lt_succ u26) l25
                    exact xmc25
                · rcases Nat.lt_or_ge m 27 with u27 | l27
                  · obtain rfl : m = 26 := Nat.le_antisymm (Nat.le_of_lt_succ u27) l26
                    exact xmc26
                  · obtain rfl : m = 27 := Nat.le_antisymm (Nat.le_of_lt_succ u28) l27
                    exact xmc27
        · rcases Nat.lt_or_ge m 41 with u41 | l41
          · rcases Nat.lt_or_ge m 34 with u34 | l34
            · rcases Nat.lt_or_ge m 31 with u31 | l31
              · rcases Nat.lt_or_ge m 29 with u29 | l29
                · obtain rfl : m = 28 := Nat.le_antisymm (Nat.le_of_lt_succ u29) l28
                  exact xmc28
                · rcases Nat.lt_or_ge m 30 with u30 | l30
                  · obtain rfl : m = 29 := Nat.le_antisymm (Nat.le_of_lt_succ u30) l29
                    exact xmc29
                  · obtain rfl : m = 30 := Nat.le_antisymm (Nat.le_of_lt_succ u31) l30
                    exact xmc30
              · rcases Nat.lt_or_ge m 32 with u32 | l32
                · obtain rfl : m = 31 := Nat.le_antisymm (Nat.le_of_lt_succ u32) l31
                  exact xmc31
                · rcases Nat.lt_or_ge m 33 with u33 | l33
                  · obtain rfl : m = 32 := Nat.le_antisymm (Nat.le_of_lt_succ u33) l32
                    exact xmc32
                  · obtain rfl : m = 33 := Nat.le_antisymm (Nat.le_of_lt_succ u34) l33
                    exact xmc33
            · rcases Nat.lt_or_ge m 37 with u37 | l37
              · rcases Nat.lt_or_ge m 35 with u35 | l35
                · obtain rfl : m = 34 := Nat.le_antisymm (Nat.le_of_lt_succ u35) l34
                  exact xmc34
                · rcases Nat.lt_or_ge m 36 with u36 | l36
                  · obtain rfl : m = 35 := Nat.le_antisymm (Nat.le_of_lt_succ u36) l35
                    exact xmc35
                  · obtain rfl : m = 36 := Nat.le_antisymm (Nat.le_of_lt_succ u37) l36
                    exact xmc36
              · rcases Nat.lt_or_ge m 39 with u39 | l39
                · rcases Nat.lt_or_ge m 38 with u38 | l38
                  · obtain rfl : m = 37 := Nat.le_antisymm (Nat.le_of_lt_succ u38) l37
                    exact xmc37
                  · obtain rfl : m = 38 := Nat.le_antisymm (Nat.le_of_lt_succ u39) l38
                    exact xmc38
                · rcases Nat.lt_or_ge m 40 with u40 | l40
                  · obtain rfl : m = 39 := Nat.le_antisymm (Nat.le_of_lt_succ u40) l39
                    exact xmc39
                  · obtain rfl : m = 40 := Nat.le_antisymm (Nat.le_of_lt_succ u41) l40
                    exact xmc40
          · rcases Nat.lt_or_ge m 48 with u48 | l48
            · rcases Nat.lt_or_ge m 44 with u44 | l44
              · rcases Nat.lt_or_ge m 42 with u42 | l42
                · obtain rfl : m = 41 := Nat.le_antisymm (Nat.le_of_lt_succ u42) l41
                  exact xmc41
                · rcases Nat.lt_or_ge m 43 with u43 | l43
                  · obtain rfl : m = 42 := Nat.le_antisymm (Nat.le_of_lt_succ u43) l42
                    exact xmc42
                  · obtain rfl : m = 43 := Nat.le_antisymm (Nat.le_of_lt_succ u44) l43
                    exact xmc43
              · rcases Nat.lt_or_ge m 46 with u46 | l46
                · rcases Nat.lt_or_ge m 45 with u45 | l45
                  · obtain rfl : m = 44 := Nat.le_antisymm (Nat.le_of_lt_succ u45) l44
                    exact xmc44
                  · obtain rfl : m = 45 := Nat.le_antisymm (Nat.le_of_lt_succ u46) l45
                    exact xmc45
                · rcases Nat.lt_or_ge m 47 with u47 | l47
                  · obtain rfl : m = 46 := Nat.le_antisymm (Nat.le_of_lt_succ u47) l46
                    exact xmc46
                  · obtain rfl : m = 47 := Nat.le_antisymm (Nat.le_of_lt_succ u48) l47
                    exact xmc47
            · rcases Nat.lt_or_ge m 51 with u51 | l51
              · rcases Nat.lt_or_ge m 49 with u49 | l49
                · obtain rfl : m = 48 := Nat.le_antisymm (Nat.le_of_lt_succ u49) l48
                  exact xmc48
                · rcases Nat.lt_or_ge m 50 with u50 | l50
                  · obtain rfl : m = 49 := Nat.le_antisymm (Nat.le_of_lt_succ u50) l49
                    exact xmc49
                  · obtain rfl : m = 50 := Nat.le_antisymm (Nat.le_of_lt_succ u51) l50
                    exact xmc50
              · rcases Nat.lt_or_ge m 53 with u53 | l53
                · rcases Nat.lt_or_ge m 52 with u52 | l52
                  · obtain rfl : m = 51 := Nat.le_antisymm (Nat.le_of_lt_succ u52) l51
                    exact xmc51
                  · obtain rfl : m = 52 := Nat.le_antisymm (Nat.le_of_lt_succ u53) l52
                    exact xmc52
                · rcases Nat.lt_or_ge m 54 with u54 | l54
                  · obtain rfl : m = 53 := Nat.le_antisymm (Nat.le_of_lt_succ u54) l53
                    exact xmc53
                  · obtain rfl : m = 54 := Nat.le_antisymm (Nat.le_of_lt_succ u55) l54
                    exact xmc54
      · rcases Nat.lt_or_ge m 82 with u82 | l82
        · rcases Nat.lt_or_ge m 68 with u68 | l68
          · rcases Nat.lt_or_ge m 61 with u61 | l61
            · rcases Nat.lt_or_ge m 58 with u58 | l58
              · rcases Nat.lt_or_ge m 56 with u56 | l56
                · obtain rfl : m = 55 := Nat.le_antisymm (Nat.le_of_lt_succ u56) l55
                  exact xmc55
                · rcases Nat.lt_or_ge m 57 with u57 | l57
                  · obtain rfl : m = 56 := Nat.le_antisymm (Nat.le_of_lt_succ u57) l56
                    exact xmc56
                  · obtain rfl : m = 57 := Nat.le_antisymm (Nat.le_of_lt_succ u58) l57
                    exact xmc57
              · rcases Nat.lt_or_ge m 59 with u59 | l59
                · obtain rfl : m = 58 := Nat.le_antisymm (Nat.le_of_lt_succ u59) l58
                  exact xmc58
                · rcases Nat.lt_or_ge m 60 with u60 | l60
                  · obtain rfl : m = 59 := Nat.le_antisymm (Nat.le_of_lt_succ u60) l59
                    exact xmc59
                  · obtain rfl : m = 60 := Nat.le_antisymm (Nat.le_of_lt_succ u61) l60
                    exact xmc60
            · rcases Nat.lt_or_ge m 64 with u64 | l64
              · rcases Nat.lt_or_ge m 62 with u62 | l62
                · obtain rfl : m = 61 := Nat.le_antisymm (Nat.le_of_lt_succ u62) l61
                  exact xmc61
                · rcases Nat.lt_or_ge m 63 with u63 | l63
                  · obtain rfl : m = 62 := Nat.le_antisymm (Nat.le_of_lt_succ u63) l62
                    exact xmc62
                  · obtain rfl : m = 63 := Nat.le_antisymm (Nat.le_of_lt_succ u64) l63
                    exact xmc63
              · rcases Nat.lt_or_ge m 66 with u66 | l66
                · rcases Nat.lt_or_ge m 65 with u65 | l65
                  · obtain rfl : m = 64 := Nat.le_antisymm (Nat.le_of_lt_succ u65) l64
                    exact xmc64
                  · obtain rfl : m = 65 := Nat.le_antisymm (Nat.le_of_lt_succ u66) l65
                    exact xmc65
                · rcases Nat.lt_or_ge m 67 with u67 | l67
                  · obtain rfl : m = 66 := Nat.le_antisymm (Nat.le_of_lt_succ u67) l66
                    exact xmc66
                  · obtain rfl : m = 67 := Nat.le_antisymm (Nat.le_of_lt_succ u68) l67
                    exact xmc67
          · rcases Nat.lt_or_ge m 75 with u75 | l75
            · rcases Nat.lt_or_ge m 71 with u71 | l71
              · rcases Nat.lt_or_ge m 69 with u69 | l69
                · obtain rfl : m = 68 := Nat.le_antisymm (Nat.le_of_lt_succ u69) l68
                  exact xmc68
                · rcases Nat.lt_or_ge m 70 with u70 | l70
                  · obtain rfl : m = 69 := Nat.le_antisymm (Nat.le_of_lt_succ u70) l69
                    exact xmc69
                  · obtain rfl : m = 70 := Nat.le_antisymm (Nat.le_of_lt_succ u71) l70
                    exact xmc70
              · rcases Nat.lt_or_ge m 73 with u73 | l73
                · rcases Nat.lt_or_ge m 72 with u72 | l72
                  · obtain rfl : m = 71 := Nat.le_antisymm (Nat.le_of_lt_succ u72) l71
                    exact xmc71
                  · obtain rfl : m = 72 := Nat.le_antisymm (Nat.le_of_lt_succ u73) l72
                    exact xmc72
                · rcases Nat.lt_or_ge m 74 with u74 | l74
                  · obtain rfl : m = 73 := Nat.le_antisymm (Nat.le_of_lt_succ u74) l73
                    exact xmc73
                  · obtain rfl : m = 74 := Nat.le_antisymm (Nat.le_of_lt_succ u75) l74
                    exact xmc74
            · rcases Nat.lt_or_ge m 78 with u78 | l78
              · rcases Nat.lt_or_ge m 76 with u76 | l76
                · obtain rfl : m = 75 := Nat.le_antisymm (Nat.le_of_lt_succ u76) l75
                  exact xmc75
                · rcases Nat.lt_or_ge m 77 with u77 | l77
                  · obtain rfl : m = 76 := Nat.le_antisymm (Nat.le_of_lt_succ u77) l76
                    exact xmc76
                  · obtain rfl : m = 77 := Nat.le_antisymm (Nat.le_of_lt_succ u78) l77
                    exact xmc77
              · rcases Nat.lt_or_ge m 80 with u80 | l80
                · rcases Nat.lt_or_ge m 79 with u79 | l79
                  · obtain rfl : m = 78 := Nat.le_antisymm (Nat.le_of_lt_succ u79) l78
                    exact xmc78
                  · obtain rfl : m = 79 := Nat.le_antisymm (Nat.le_of_lt_succ u80) l79
                    exact xmc79
                · rcases Nat.lt_or_ge m 81 with u81 | l81
                  · obtain rfl : m = 80 := Nat.le_antisymm (Nat.le_of_lt_succ u81) l80
                    exact xmc80
                  · obtain rfl : m = 81 := Nat.le_antisymm (Nat.le_of_lt_succ u82) l81
                    exact xmc81
        · rcases Nat.lt_or_ge m 96 with u96 | l96
          · rcases Nat.lt_or_ge m 89 with u89 | l89
            · rcases Nat.lt_or_ge m 85 with u85 | l85
              · rcases Nat.lt_or_ge m 83 with u83 | l83
                · obtain rfl : m = 82 := Nat.le_antisymm (Nat.le_of_lt_succ u83) l82
                  exact xmc82
                · rcases Nat.lt_or_ge m 84 with u84 | l84
                  · obtain rfl : m = 83 := Nat.le_antisymm (Nat.le_of_lt_succ u84) l83
                    exact xmc83
                  · obtain rfl : m = 84 := Nat.le_antisymm (Nat.le_of_lt_succ u85) l84
                    exact xmc84
              · rcases Nat.lt_or_ge m 87 with u87 | l87
                · rcases Nat.lt_or_ge m 86 with u86 | l86
                  · obtain rfl : m = 85 := Nat.le_antisymm (Nat.le_of_lt_succ u86) l85
                    exact xmc85
                  · obtain rfl : m = 86 := Nat.le_antisymm (Nat.le_of_lt_succ u87) l86
                    exact xmc86
                · rcases Nat.lt_or_ge m 88 with u88 | l88
                  · obtain rfl : m = 87 := Nat.le_antisymm (Nat.le_of_lt_succ u88) l87
                    exact xmc87
                  · obtain rfl : m = 88 := Nat.le_antisymm (Nat.le_of_lt_succ u89) l88
                    exact xmc88
            · rcases Nat.lt_or_ge m 92 with u92 | l92
              · rcases Nat.lt_or_ge m 90 with u90 | l90
                · obtain rfl : m = 89 := Nat.le_antisymm (Nat.le_of_lt_succ u90) l89
                  exact xmc89
                · rcases Nat.lt_or_ge m 91 with u91 | l91
                  · obtain rfl : m = 90 := Nat.le_antisymm (Nat.le_of_lt_succ u91) l90
                    exact xmc90
                  · obtain rfl : m = 91 := Nat.le_antisymm (Nat.le_of_lt_succ u92) l91
                    exact xmc91
              · rcases Nat.lt_or_ge m 94 with u94 | l94
                · rcases Nat.lt_or_ge m 93 with u93 | l93
                  · obtain rfl : m = 92 := Nat.le_antisymm (Nat.le_of_lt_succ u93) l92
                    exact xmc92
                  · obtain rfl : m = 93 := Nat.le_antisymm (Nat.le_of_lt_succ u94) l93
                    exact xmc93
                · rcases Nat.lt_or_ge m 95 with u95 | l95
                  · obtain rfl : m = 94 := Nat.le_antisymm (Nat.le_of_lt_succ u95) l94
                    exact xmc94
                  · obtain rfl : m = 95 := Nat.le_antisymm (Nat.le_of_lt_succ u96) l95
                    exact xmc95
          · rcases Nat.lt_or_ge m 103 with u103 | l103
            · rcases Nat.lt_or_ge m 99 with u99 | l99
              · rcases Nat.lt_or_ge m 97 with u97 | l97
                · obtain rfl : m = 96 := Nat.le_antisymm (Nat.le_of_lt_succ u97) l96
                  exact xmc96
                · rcases Nat.lt_or_ge m 98 with u98 | l98
                  · obtain rfl : m = 97 := Nat.le_antisymm (Nat.le_of_lt_succ u98) l97
                    exact xmc97
                  · obtain rfl : m = 98 := Nat.le_antisymm (Nat.le_of_lt_succ u99) l98
                    exact xmc98
              · rcases Nat.lt_or_ge m 101 with u101 | l101
                · rcases Nat.lt_or_ge m 100 with u100 | l100
                  · obtain rfl : m = 99 := Nat.le_antisymm (Nat.le_of_lt_succ u100) l99
                    exact xmc99
                  · obtain rfl : m = 100 := Nat.le_antisymm (Nat.le_of_lt_succ u101) l100
                    exact xmc100
                · rcases Nat.lt_or_ge m 102 with u102 | l102
                  · obtain rfl : m = 101 := Nat.le_antisymm (Nat.le_of_lt_succ u102) l101
                    exact xmc101
                  · obtain rfl : m = 102 := Nat.le_antisymm (Nat.le_of_lt_succ u103) l102
                    exact xmc102
            · rcases Nat.lt_or_ge m 106 with u106 | l106
              · rcases Nat.lt_or_ge m 104 with u104 | l104
                · obtain rfl : m = 103 := Nat.le_antisymm (Nat.le_of_lt_succ u104) l103
                  exact xmc103
                · rcases Nat.lt_or_ge m 105 with u105 | l105
                  · obtain rfl : m = 104 := Nat.le_antisymm (Nat.le_of_lt_succ u105) l104
                    exact xmc104
                  · obtain rfl : m = 105 := Nat.le_antisymm (Nat.le_of_lt_succ u106) l105
                    exact xmc105
              · rcases Nat.lt_or_ge m 108 with u108 | l108
                · rcases Nat.lt_or_ge m 107 with u107 | l107
                  · obtain rfl : m = 106 := Nat.le_antisymm (Nat.le_of_lt_succ u107) l106
                    exact xmc106
                  · obtain rfl : m = 107 := Nat.le_antisymm (Nat.le_of_lt_succ u108) l107
                    exact xmc107
                · rcases Nat.lt_or_ge m 109 with u109 | l109
                  · obtain rfl : m = 108 := Nat.le_antisymm (Nat.le_of_lt_succ u109) l108
                    exact xmc108
                  · obtain rfl : m = 109 := Nat.le_antisymm (Nat.le_of_lt_succ u110) l109
                    exact xmc109
    · rcases Nat.lt_or_ge m 165 with u165 | l165
      · rcases Nat.lt_or_ge m 137 with u137 | l137
        · rcases Nat.lt_or_ge m 123 with u123 | l123
          · rcases Nat.lt_or_ge m 116 with u116 | l116
            · rcases Nat.lt_or_ge m 113 with u113 | l113
              · rcases Nat.lt_or_ge m 111 with u111 | l111
                · obtain rfl : m = 110 := Nat.le_antisymm (Nat.le_of_lt_succ u111) l110
                  exact xmc110
                · rcases Nat.lt_or_ge m 112 with u112 | l112
                  · obtain rfl : m = 111 := Nat.le_antisymm (Nat.le_of_lt_succ u112) l111
                    exact xmc111
                  · obtain rfl : m = 112 := Nat.le_antisymm (Nat.le_of_lt_succ u113) l112
                    exact xmc112
              · rcases Nat.lt_or_ge m 114 with u114 | l114
                · obtain rfl : m = 113 := Nat.le_antisymm (Nat.le_of_lt_succ u114) l113
                  exact xmc113
                · rcases Nat.lt_or_ge m 115 with u115 | l115
                  · obtain rfl : m = 114 := Nat.le_antisymm (Nat.le_of_lt_succ u115) l114
                    exact xmc114
                  · obtain rfl : m = 115 := Nat.le_antisymm (Nat.le_of_lt_succ u116) l115
                    exact xmc115
            · rcases Nat.lt_or_ge m 119 with u119 | l119
              · rcases Nat.lt_or_ge m 117 with u117 | l117
                · obtain rfl : m = 116 := Nat.le_antisymm (Nat.le_of_lt_succ u117) l116
                  exact xmc116
                · rcases Nat.lt_or_ge m 118 with u118 | l118
                  · obtain rfl : m = 117 := Nat.le_antisymm (Nat.le_of_lt_succ u118) l117
                    exact xmc117
                  · obtain rfl : m = 118 := Nat.le_antisymm (Nat.le_of_lt_succ u119) l118
                    exact xmc118
              · rcases Nat.lt_or_ge m 121 with u121 | l121
                · rcases Nat.lt_or_ge m 120 with u120 | l120
                  · obtain rfl : m = 119 := Nat.le_antisymm (Nat.le_of_lt_succ u120) l119
                    exact xmc119
                  · obtain rfl : m = 120 := Nat.le_antisymm (Nat.le_of_lt_succ u121) l120
                    exact xmc120
                · rcases Nat.lt_or_ge m 122 with u122 | l122
                  · obtain rfl : m = 121 := Nat.le_antisymm (Nat.le_of_lt_succ u122) l121
                    exact xmc121
                  · obtain rfl : m = 122 := Nat.le_antisymm (Nat.le_of_lt_succ u123) l122
                    exact xmc122
          · rcases Nat.lt_or_ge m 130 with u130 | l130
            · rcases Nat.lt_or_ge m 126 with u126 | l126
              · rcases Nat.lt_or_ge m 124 with u124 | l124
                · obtain rfl : m = 123 := Nat.le_antisymm (Nat.le_of_lt_succ u124) l123
                  exact xmc123
                · rcases Nat.lt_or_ge m 125 with u125 | l125
                  · obtain rfl : m = 124 := Nat.le_antisymm (Nat.le_of_lt_succ u125) l124
                    exact xmc124
                  · obtain rfl : m = 125 := Nat.le_antisymm (Nat.le_of_lt_succ u126) l125
                    exact xmc125
              · rcases Nat.lt_or_ge m 128 with u128 | l128
                · rcases Nat.lt_or_ge m 127 with u127 | l127
                  · obtain rfl : m = 126 := Nat.le_antisymm (Nat.le_of_lt_succ u127) l126
                    exact xmc126
                  · obtain rfl : m = 127 := Nat.le_antisymm (Nat.le_of_lt_succ u128) l127
                    exact xmc127
                · rcases Nat.lt_or_ge m 129 with u129 | l129
                  · obtain rfl : m = 128 := Nat.le_antisymm (Nat.le_of_lt_succ u129) l128
                    exact xmc128
                  · obtain rfl : m = 129 := Nat.le_antisymm (Nat.le_of_lt_succ u130) l129
                    exact xmc129
            · rcases Nat.lt_or_ge m 133 with u133 | l133
              · rcases Nat.lt_or_ge m 131 with u131 | l131
                · obtain rfl : m = 130 := Nat.le_antisymm (Nat.le_of_lt_succ u131) l130
                  exact xmc130
                · rcases Nat.lt_or_ge m 132 with u132 | l132
                  · obtain rfl : m = 131 := Nat.le_antisymm (Nat.le_of_lt_succ u132) l131
                    exact xmc131
                  · obtain rfl : m = 132 := Nat.le_antisymm (Nat.le_of_lt_succ u133) l132
                    exact xmc132
              · rcases Nat.lt_or_ge m 135 with u135 | l135
                · rcases Nat.lt_or_ge m 134 with u134 | l134
                  · obtain rfl : m = 133 := Nat.le_antisymm (Nat.le_of_lt_succ u134) l133
                    exact xmc133
                  · obtain rfl : m = 134 := Nat.le_antisymm (Nat.le_of_lt_succ u135) l134
                    exact xmc134
                · rcases Nat.lt_or_ge m 136 with u136 | l136
                  · obtain rfl : m = 135 := Nat.le_antisymm (Nat.le_of_lt_succ u136) l135
                    exact xmc135
                  · obtain rfl : m = 136 := Nat.le_antisymm (Nat.le_of_lt_succ u137) l136
                    exact xmc136
        · rcases Nat.lt_or_ge m 151 with u151 | l151
          · rcases Nat.lt_or_ge m 144 with u144 | l144
            · rcases Nat.lt_or_ge m 140 with u140 | l140
              · rcases Nat.lt_or_ge m 138 with u138 | l138
                · obtain rfl : m = 137 := Nat.le_antisymm (Nat.le_of_lt_succ u138) l137
                  exact xmc137
                · rcases Nat.lt_or_ge m 139 with u139 | l139
                  · obtain rfl : m = 138 := Nat.le_antisymm (Nat.le_of_lt_succ u139) l138
                    exact xmc138
                  · obtain rfl : m = 139 := Nat.le_antisymm (Nat.le_of_lt_succ u140) l139
                    exact xmc139
              · rcases Nat.lt_or_ge m 142 with u142 | l142
                · rcases Nat.lt_or_ge m 141 with u141 | l141
                  · obtain rfl : m = 140 := Nat.le_antisymm (Nat.le_of_lt_succ u141) l140
                    exact xmc140
                  · obtain rfl : m = 141 := Nat.le_antisymm (Nat.le_of_lt_succ u142) l141
                    exact xmc141
                · rcases Nat.lt_or_ge m 143 with u143 | l143
                  · obtain rfl : m = 142 := Nat.le_antisymm (Nat.le_of_lt_succ u143) l142
                    exact xmc142
                  · obtain rfl : m = 143 := Nat.le_antisymm (Nat.le_of_lt_succ u144) l143
                    exact xmc143
            · rcases Nat.lt_or_ge m 147 with u147 | l147
              · rcases Nat.lt_or_ge m 145 with u145 | l145
                · obtain rfl : m = 144 := Nat.le_antisymm (Nat.le_of_lt_succ u145) l144
                  exact xmc144
                · rcases Nat.lt_or_ge m 146 with u146 | l146
                  · obtain rfl : m = 145 := Nat.le_antisymm (Nat.le_of_lt_succ u146) l145
                    exact xmc145
                  · obtain rfl : m = 146 := Nat.le_antisymm (Nat.le_of_lt_succ u147) l146
                    exact xmc146
              · rcases Nat.lt_or_ge m 149 with u149 | l149
                · rcases Nat.lt_or_ge m 148 with u148 | l148
                  · obtain rfl : m = 147 := Nat.le_antisymm (Nat.le_of_lt_succ u148) l147
                    exact xmc147
                  · obtain rfl : m = 148 := Nat.le_antisymm (Nat.le_of_lt_succ u149) l148
                    exact xmc148
                · rcases Nat.lt_or_ge m 150 with u150 | l150
                  · obtain rfl : m = 149 := Nat.le_antisymm (Nat.le_of_lt_succ u150) l149
                    exact xmc149
                  · obtain rfl : m = 150 := Nat.le_antisymm (Nat.le_of_lt_succ u151) l150
                    exact xmc150
          · rcases Nat.lt_or_ge m 158 with u158 | l158
            · rcases Nat.lt_or_ge m 154 with u154 | l154
              · rcases Nat.lt_or_ge m 152 with u152 | l152
                · obtain rfl : m = 151 := Nat.le_antisymm (Nat.le_of_lt_succ u152) l151
                  exact xmc151
                · rcases Nat.lt_or_ge m 153 with u153 | l153
                  · obtain rfl : m = 152 := Nat.le_antisymm (Nat.le_of_lt_succ u153) l152
                    exact xmc152
                  · obtain rfl : m = 153 := Nat.le_antisymm (Nat.le_of_lt_succ u154) l153
                    exact xmc153
              · rcases Nat.lt_or_ge m 156 with u156 | l156
                · rcases Nat.lt_or_ge m 155 with u155 | l155
                  · obtain rfl : m = 154 := Nat.le_antisymm (Nat.le_of_lt_succ u155) l154
                    exact xmc154
                  · obtain rfl : m = 155 := Nat.le_antisymm (Nat.le_of_lt_succ u156) l155
                    exact xmc155
                · rcases Nat.lt_or_ge m 157 with u157 | l157
                  · obtain rfl : m = 156 := Nat.le_antisymm (Nat.le_of_lt_succ u157) l156
                    exact xmc156
                  · obtain rfl : m = 157 := Nat.le_antisymm (Nat.le_of_lt_succ u158) l157
                    exact xmc157
            · rcases Nat.lt_or_ge m 161 with u161 | l161
              · rcases Nat.lt_or_ge m 159 with u159 | l159
                · obtain rfl : m = 158 := Nat.le_antisymm (Nat.le_of_lt_succ u159) l158
                  exact xmc158
                · rcases Nat.lt_or_ge m 160 with u160 | l160
                  · obtain rfl : m = 159 := Nat.le_antisymm (Nat.le_of_lt_succ u160) l159
                    exact xmc159
                  · obtain rfl : m = 160 := Nat.le_antisymm (Nat.le_of_lt_succ u161) l160
                    exact xmc160
              · rcases Nat.lt_or_ge m 163 with u163 | l163
                · rcases Nat.lt_or_ge m 162 with u162 | l162
                  · obtain rfl : m = 161 := Nat.le_antisymm (Nat.le_of_lt_succ u162) l161
                    exact xmc161
                  · obtain rfl : m = 162 := Nat.le_antisymm (Nat.le_of_lt_succ u163) l162
                    exact xmc162
                · rcases Nat.lt_or_ge m 164 with u164 | l164
                  · obtain rfl : m = 163 := Nat.le_antisymm (Nat.le_of_lt_succ u164) l163
                    exact xmc163
                  · obtain rfl : m = 164 := Nat.le_antisymm (Nat.le_of_lt_succ u165) l164
                    exact xmc164
      · rcases Nat.lt_or_ge m 192 with u192 | l192
        · rcases Nat.lt_or_ge m 178 with u178 | l178
          · rcases Nat.lt_or_ge m 171 with u171 | l171
            · rcases Nat.lt_or_ge m 168 with u168 | l168
              · rcases Nat.lt_or_ge m 166 with u166 | l166
                · obtain rfl : m = 165 := Nat.le_antisymm (Nat.le_of_lt_succ u166) l165
                  exact xmc165
                · rcases Nat.lt_or_ge m 167 with u167 | l167
                  · obtain rfl : m = 166 := Nat.le_antisymm (Nat.le_of_lt_succ u167) l166
                    exact xmc166
                  · obtain rfl : m = 167 := Nat.le_antisymm (Nat.le_of_lt_succ u168) l167
                    exact xmc167
              · rcases Nat.lt_or_ge m 169 with u169 | l169
                · obtain rfl : m = 168 := Nat.le_antisymm (Nat.le_of_lt_succ u169) l168
                  exact xmc168
                · rcases Nat.lt_or_ge m 170 with u170 | l170
                  · obtain rfl : m = 169 := Nat.le_antisymm (Nat.le_of_lt_succ u170) l169
                    exact xmc169
                  · obtain rfl : m = 170 := Nat.le_antisymm (Nat.le_of_lt_succ u171) l170
                    exact xmc170
            · rcases Nat.lt_or_ge m 174 with u174 | l174
              · rcases Nat.lt_or_ge m 172 with u172 | l172
                · obtain rfl : m = 171 := Nat.le_antisymm (Nat.le_of_lt_succ u172) l171
                  exact xmc171
                · rcases Nat.lt_or_ge m 173 with u173 | l173
                  · obtain rfl : m = 172 := Nat.le_antisymm (Nat.le_of_lt_succ u173) l172
                    exact xmc172
                  · obtain rfl : m = 173 := Nat.le_antisymm (Nat.le_of_lt_succ u174) l173
                    exact xmc173
              · rcases Nat.lt_or_ge m 176 with u176 | l176
                · rcases Nat.lt_or_ge m 175 with u175 | l175
                  · obtain rfl : m = 174 := Nat.le_antisymm (Nat.le_of_lt_succ u175) l174
                    exact xmc174
                  · obtain rfl : m = 175 := Nat.le_antisymm (Nat.le_of_lt_succ u176) l175
                    exact xmc175
                · rcases Nat.lt_or_ge m 177 with u177 | l177
                  · obtain rfl : m = 176 := Nat.le_antisymm (Nat.le_of_lt_succ u177) l176
                    exact xmc176
                  · obtain rfl : m = 177 := Nat.le_antisymm (Nat.le_of_lt_succ u178) l177
                    exact xmc177
          · rcases Nat.lt_or_ge m 185 with u185 | l185
            · rcases Nat.lt_or_ge m 181 with u181 | l181
              · rcases Nat.lt_or_ge m 179 with u179 | l179
                · obtain rfl : m = 178 := Nat.le_antisymm (Nat.le_of_lt_succ u179) l178
                  exact xmc178
                · rcases Nat.lt_or_ge m 180 with u180 | l180
                  · obtain rfl : m = 179 := Nat.le_antisymm (Nat.le_of_lt_succ u180) l179
                    exact xmc179
                  · obtain rfl : m = 180 := Nat.le_antisymm (Nat.le_of_lt_succ u181) l180
                    exact xmc180
              · rcases Nat.lt_or_ge m 183 with u183 | l183
                · rcases Nat.lt_or_ge m 182 with u182 | l182
                  · obtain rfl : m = 181 := Nat.le_antisymm (Nat.le_of_lt_succ u182) l181
                    exact xmc181
                  · obtain rfl : m = 182 := Nat.le_antisymm (Nat.le_of_lt_succ u183) l182
                    exact xmc182
                · rcases Nat.lt_or_ge m 184 with u184 | l184
                  · obtain rfl : m = 183 := Nat.le_antisymm (Nat.le_of_lt_succ u184) l183
                    exact xmc183
                  · obtain rfl : m = 184 := Nat.le_antisymm (Nat.le_of_lt_succ u185) l184
                    exact xmc184
            · rcases Nat.lt_or_ge m 188 with u188 | l188
              · rcases Nat.lt_or_ge m 186 with u186 | l186
                · obtain rfl : m = 185 := Nat.le_antisymm (Nat.le_of_lt_succ u186) l185
                  exact xmc185
                · rcases Nat.lt_or_ge m 187 with u187 | l187
                  · obtain rfl : m = 186 := Nat.le_antisymm (Nat.le_of_lt_succ u187) l186
                    exact xmc186
                  · obtain rfl : m = 187 := Nat.le_antisymm (Nat.le_of_lt_succ u188) l187
                    exact xmc187
              · rcases Nat.lt_or_ge m 190 with u190 | l190
                · rcases Nat.lt_or_ge m 189 with u189 | l189
                  · obtain rfl : m = 188 := Nat.le_antisymm (Nat.le_of_lt_succ u189) l188
                    exact xmc188
                  · obtain rfl : m = 189 := Nat.le_antisymm (Nat.le_of_lt_succ u190) l189
                    exact xmc189
                · rcases Nat.lt_or_ge m 191 with u191 | l191
                  · obtain rfl : m = 190 := Nat.le_antisymm (Nat.le_of_lt_succ u191) l190
                    exact xmc190
                  · obtain rfl : m = 191 := Nat.le_antisymm (Nat.le_of_lt_succ u192) l191
                    exact xmc191
        · rcases Nat.lt_or_ge m 206 with u206 | l206
          · rcases Nat.lt_or_ge m 199 with u199 | l199
            · rcases Nat.lt_or_ge m 195 with u195 | l195
              · rcases Nat.lt_or_ge m 193 with u193 | l193
                · obtain rfl : m = 192 := Nat.le_antisymm (Nat.le_of_lt_succ u193) l192
                  exact xmc192
                · rcases Nat.lt_or_ge m 194 with u194 | l194
                  · obtain rfl : m = 193 := Nat.le_antisymm (Nat.le_of_lt_succ u194) l193
                    exact xmc193
                  · obtain rfl : m = 194 := Nat.le_antisymm (Nat.le_of_lt_succ u195) l194
                    exact xmc194
              · rcases Nat.lt_or_ge m 197 with u197 | l197
                · rcases Nat.lt_or_ge m 196 with u196 | l196
                  · obtain rfl : m = 195 := Nat.le_antisymm (Nat.le_of_lt_succ u196) l195
                    exact xmc195
                  · obtain rfl : m = 196 := Nat.le_antisymm (Nat.le_of_lt_succ u197) l196
                    exact xmc196
                · rcases Nat.lt_or_ge m 198 with u198 | l198
                  · obtain rfl : m = 197 := Nat.le_antisymm (Nat.le_of_lt_succ u198) l197
                    exact xmc197
                  · obtain rfl : m = 198 := Nat.le_antisymm (Nat.le_of_lt_succ u199) l198
                    exact xmc198
            · rcases Nat.lt_or_ge m 202 with u202 | l202
              · rcases Nat.lt_or_ge m 200 with u200 | l200
                · obtain rfl : m = 199 := Nat.le_antisymm (Nat.le_of_lt_succ u200) l199
                  exact xmc199
                · rcases Nat.lt_or_ge m 201 with u201 | l201
                  · obtain rfl : m = 200 := Nat.le_antisymm (Nat.le_of_lt_succ u201) l200
                    exact xmc200
                  · obtain rfl : m = 201 := Nat.le_antisymm (Nat.le_of_lt_succ u202) l201
                    exact xmc201
              · rcases Nat.lt_or_ge m 204 with u204 | l204
                · rcases Nat.lt_or_ge m 203 with u203 | l203
                  · obtain rfl : m = 202 := Nat.le_antisymm (Nat.le_of_lt_succ u203) l202
                    exact xmc202
                  · obtain rfl : m = 203 := Nat.le_antisymm (Nat.le_of_lt_succ u204) l203
                    exact xmc203
                · rcases Nat.lt_or_ge m 205 with u205 | l205
                  · obtain rfl : m = 204 := Nat.le_antisymm (Nat.le_of_lt_succ u205) l204
                    exact xmc204
                  · obtain rfl : m = 205 := Nat.le_antisymm (Nat.le_of_lt_succ u206) l205
                    exact xmc205
          · rcases Nat.lt_or_ge m 213 with u213 | l213
            · rcases Nat.lt_or_ge m 209 with u209 | l209
              · rcases Nat.lt_or_ge m 207 with u207 | l207
                · obtain rfl : m = 206 := Nat.le_antisymm (Nat.le_of_lt_succ u207) l206
                  exact xmc206
                · rcases Nat.lt_or_ge m 208 with u208 | l208
                  · obtain rfl : m = 207 := Nat.le_antisymm (Nat.le_of_lt_succ u208) l207
                    exact xmc207
                  · obtain rfl : m = 208 := Nat.le_antisymm (Nat.le_of_lt_succ u209) l208
                    exact xmc208
              · rcases Nat.lt_or_ge m 211 with u211 | l211
                · rcases Nat.lt_or_ge m 210 with u210 | l210
                  · obtain rfl : m = 209 := Nat.le_antisymm (Nat.le_of_lt_succ u210) l209
                    exact xmc209
                  · obtain rfl : m = 210 := Nat.le_antisymm (Nat.le_of_lt_succ u211) l210
                    exact xmc210
                · rcases Nat.lt_or_ge m 212 with u212 | l212
                  · obtain rfl : m = 211 := Nat.le_antisymm (Nat.le_of_lt_succ u212) l211
                    exact xmc211
                  · obtain rfl : m = 212 := Nat.le_antisymm (Nat.le_of_lt_succ u213) l212
                    exact xmc212
            · rcases Nat.lt_or_ge m 216 with u216 | l216
              · rcases Nat.lt_or_ge m 214 with u214 | l214
                · obtain rfl : m = 213 := Nat.le_antisymm (Nat.le_of_lt_succ u214) l213
                  exact xmc213
                · rcases Nat.lt_or_ge m 215 with u215 | l215
                  · obtain rfl : m = 214 := Nat.le_antisymm (Nat.le_of_lt_succ u215) l214
                    exact xmc214
                  · obtain rfl : m = 215 := Nat.le_antisymm (Nat.le_of_lt_succ u216) l215
                    exact xmc215
              · rcases Nat.lt_or_ge m 218 with u218 | l218
                · rcases Nat.lt_or_ge m 217 with u217 | l217
                  · obtain rfl : m = 216 := Nat.le_antisymm (Nat.le_of_lt_succ u217) l216
                    exact xmc216
                  · obtain rfl : m = 217 := Nat.le_antisymm (Nat.le_of_lt_succ u218) l217
                    exact xmc217
                · rcases Nat.lt_or_ge m 219 with u219 | l219
                  · obtain rfl : m = 218 := Nat.le_antisymm (Nat.le_of_lt_succ u219) l218
                    exact xmc218
                  · obtain rfl : m = 219 := Nat.le_antisymm (Nat.le_of_lt_succ u220) l219
                    exact xmc219
  · rcases Nat.lt_or_ge m 330 with u330 | l330
    · rcases Nat.lt_or_ge m 275 with u275 | l275
      · rcases Nat.lt_or_ge m 247 with u247 | l247
        · rcases Nat.lt_or_ge m 233 with u233 | l233
          · rcases Nat.lt_or_ge m 226 with u226 | l226
            · rcases Nat.lt_or_ge m 223 with u223 | l223
              · rcases Nat.lt_or_ge m 221 with u221 | l221
                · obtain rfl : m = 220 := Nat.le_antisymm (Nat.le_of_lt_succ u221) l220
                  exact xmc220
                · rcases Nat.lt_or_ge m 222 with u222 | l222
                  · obtain rfl : m = 221 := Nat.le_antisymm (Nat.le_of_lt_succ u222) l221
                    exact xmc221
                  · obtain rfl : m = 222 := Nat.le_antisymm (Nat.le_of_lt_succ u223) l222
                    exact xmc222
              · rcases Nat.lt_or_ge m 224 with u224 | l224
                · obtain rfl : m = 223 := Nat.le_antisymm (Nat.le_of_lt_succ u224) l223
                  exact xmc223
                · rcases Nat.lt_or_ge m 225 with u225 | l225
                  · obtain rfl : m = 224 := Nat.le_antisymm (Nat.le_of_lt_succ u225) l224
                    exact xmc224
                  · obtain rfl : m = 225 := Nat.le_antisymm (Nat.le_of_lt_succ u226) l225
                    exact xmc225
            · rcases Nat.lt_or_ge m 229 with u229 | l229
              · rcases Nat.lt_or_ge m 227 with u227 | l227
                · obtain rfl : m = 226 := Nat.le_antisymm (Nat.le_of_lt_succ u227) l226
                  exact xmc226
                · rcases Nat.lt_or_ge m 228 with u228 | l228
                  · obtain rfl : m = 227 := Nat.le_antisymm (Nat.le_of_lt_succ u228) l227
                    exact xmc227
                  · obtain rfl : m = 228 := Nat.le_antisymm (Nat.le_of_lt_succ u229) l228
                    exact xmc228
              · rcases Nat.lt_or_ge m 231 with u231 | l231
                · rcases Nat.lt_or_ge m 230 with u230 | l230
                  · obtain rfl : m = 229 := Nat.le_antisymm (Nat.le_of_lt_succ u230) l229
                    exact xmc229
                  · obtain rfl : m = 230 := Nat.le_antisymm (Nat.le_of_lt_succ u231) l230
                    exact xmc230
                · rcases Nat.lt_or_ge m 232 with u232 | l232
                  · obtain rfl : m = 231 := Nat.le_antisymm (Nat.le_of_lt_succ u232) l231
                    exact xmc231
                  · obtain rfl : m = 232 := Nat.le_antisymm (Nat.le_of_lt_succ u233) l232
                    exact xmc232
          · rcases Nat.lt_or_ge m 240 with u240 | l240
            · rcases Nat.lt_or_ge m 236 with u236 | l236
              · rcases Nat.lt_or_ge m 234 with u234 | l234
                · obtain rfl : m = 233 := Nat.le_antisymm (Nat.le_of_lt_succ u234) l233
                  exact xmc233
                · rcases Nat.lt_or_ge m 235 with u235 | l235
                  · obtain rfl : m = 234 := Nat.le_antisymm (Nat.le_of_lt_succ u235) l234
                    exact xmc234
                  · obtain rfl : m = 235 := Nat.le_antisymm (Nat.le_of_lt_succ u236) l235
                    exact xmc235
              · rcases Nat.lt_or_ge m 238 with u238 | l238
                · rcases Nat.lt_or_ge m 237 with u237 | l237
                  · obtain rfl : m = 236 := Nat.le_antisymm (Nat.le_of_lt_succ u237) l236
                    exact xmc236
                  · obtain rfl : m = 237 := Nat.le_antisymm (Nat.le_of_lt_succ u238) l237
                    exact xmc237
                · rcases Nat.lt_or_ge m 239 with u239 | l239
                  · obtain rfl : m = 238 := Nat.le_antisymm (Nat.le_of_lt_succ u239) l238
                    exact xmc238
                  · obtain rfl : m = 239 := Nat.le_antisymm (Nat.le_of_lt_succ u240) l239
                    exact xmc239
            · rcases Nat.lt_or_ge m 243 with u243 | l243
              · rcases Nat.lt_or_ge m 241 with u241 | l241
                · obtain rfl : m = 240 := Nat.le_antisymm (Nat.le_of_lt_succ u241) l240
                  exact xmc240
                · rcases Nat.lt_or_ge m 242 with u242 | l242
                  · obtain rfl : m = 241 := Nat.le_antisymm (Nat.le_of_lt_succ u242) l241
                    exact xmc241
                  · obtain rfl : m = 242 := Nat.le_antisymm (Nat.le_of_lt_succ u243) l242
                    exact xmc242
              · rcases Nat.lt_or_ge m 245 with u245 | l245
                · rcases Nat.lt_or_ge m 244 with u244 | l244
                  · obtain rfl : m = 243 := Nat.le_antisymm (Nat.le_of_lt_succ u244) l243
                    exact xmc243
                  · obtain rfl : m = 244 := Nat.le_antisymm (Nat.le_of_lt_succ u245) l244
                    exact xmc244
                · rcases Nat.lt_or_ge m 246 with u246 | l246
                  · obtain rfl : m = 245 := Nat.le_antisymm (Nat.le_of_lt_succ u246) l245
                    exact xmc245
                  · obtain rfl : m = 246 := Nat.le_antisymm (Nat.le_of_lt_succ u247) l246
                    exact xmc246
        · rcases Nat.lt_or_ge m 261 with u261 | l261
          · rcases Nat.lt_or_ge m 254 with u254 | l254
            · rcases Nat.lt_or_ge m 250 with u250 | l250
              · rcases Nat.lt_or_ge m 248 with u248 | l248
                · obtain rfl : m = 247 := Nat.le_antisymm (Nat.le_of_lt_succ u248) l247
                  exact xmc247
                · rcases Nat.lt_or_ge m 249 with u249 | l249
                  · obtain rfl : m = 248 := Nat.le_antisymm (Nat.le_of_lt_succ u249) l248
                    exact xmc248
                  · obtain rfl : m = 249 := Nat.le_antisymm (Nat.le_of_lt_succ u250) l249
                    exact xmc249
              · rcases Nat.lt_or_ge m 252 with u252 | l252
                · rcases Nat.lt_or_ge m 251 with u251 | l251
                  · obtain rfl : m = 250 := Nat.le_antisymm (Nat.le_of_lt_succ u251) l250
                    exact xmc250
                  · obtain rfl : m = 251 := Nat.le_antisymm (Nat.le_of_lt_succ u252) l251
                    exact xmc251
                · rcases Nat.lt_or_ge m 253 with u253 | l253
                  · obtain rfl : m = 252 := Nat.le_antisymm (Nat.le_of_lt_succ u253) l252
                    exact xmc252
                  · obtain rfl : m = 253 := Nat.le_antisymm (Nat.le_of_lt_succ u254) l253
                    exact xmc253
            · rcases Nat.lt_or_ge m 257 with u257 | l257
              · rcases Nat.lt_or_ge m 255 with u255 | l255
                · obtain rfl : m = 254 := Nat.le_antisymm (Nat.le_of_lt_succ u255) l254
                  exact xmc254
                · rcases Nat.lt_or_ge m 256 with u256 | l256
                  · obtain rfl : m = 255 := Nat.le_antisymm (Nat.le_of_lt_succ u256) l255
                    exact xmc255
                  · obtain rfl : m = 256 := Nat.le_antisymm (Nat.le_of_lt_succ u257) l256
                    exact xmc256
              · rcases Nat.lt_or_ge m 259 with u259 | l259
                · rcases Nat.lt_or_ge m 258 with u258 | l258
                  · obtain rfl : m = 257 := Nat.le_antisymm (Nat.le_of_lt_succ u258) l257
                    exact xmc257
                  · obtain rfl : m = 258 := Nat.le_antisymm (Nat.le_of_lt_succ u259) l258
                    exact xmc258
                · rcases Nat.lt_or_ge m 260 with u260 | l260
                  · obtain rfl : m = 259 := Nat.le_antisymm (Nat.le_of_lt_succ u260) l259
                    exact xmc259
                  · obtain rfl : m = 260 := Nat.le_antisymm (Nat.le_of_lt_succ u261) l260
                    exact xmc260
          · rcases Nat.lt_or_ge m 268 with u268 | l268
            · rcases Nat.lt_or_ge m 264 with u264 | l264
              · rcases Nat.lt_or_ge m 262 with u262 | l262
                · obtain rfl : m = 261 := Nat.le_antisymm (Nat.le_of_lt_succ u262) l261
                  exact xmc261
                · rcases Nat.lt_or_ge m 263 with u263 | l263
                  · obtain rfl : m = 262 := Nat.le_antisymm (Nat.le_of_lt_succ u263) l262
                    exact xmc262
                  · obtain rfl : m = 263 := Nat.le_antisymm (Nat.le_of_lt_succ u264) l263
                    exact xmc263
              · rcases Nat.lt_or_ge m 266 with u266 | l266
                · rcases Nat.lt_or_ge m 265 with u265 | l265
                  · obtain rfl : m = 264 := Nat.le_antisymm (Nat.le_of_lt_succ u265) l264
                    exact xmc264
                  · obtain rfl : m = 265 := Nat.le_antisymm (Nat.le_of_lt_succ u266) l265
                    exact xmc265
                · rcases Nat.lt_or_ge m 267 with u267 | l267
                  · obtain rfl : m = 266 := Nat.le_antisymm (Nat.le_of_lt_succ u267) l266
                    exact xmc266
                  · obtain rfl : m = 267 := Nat.le_antisymm (Nat.le_of_lt_succ u268) l267
                    exact xmc267
            · rcases Nat.lt_or_ge m 271 with u271 | l271
              · rcases Nat.lt_or_ge m 269 with u269 | l269
                · obtain rfl : m = 268 := Nat.le_antisymm (Nat.le_of_lt_succ u269) l268
                  exact xmc268
                · rcases Nat.lt_or_ge m 270 with u270 | l270
                  · obtain rfl : m = 269 := Nat.le_antisymm (Nat.le_of_lt_succ u270) l269
                    exact xmc269
                  · obtain rfl : m = 270 := Nat.le_antisymm (Nat.le_of_lt_succ u271) l270
                    exact xmc270
              · rcases Nat.lt_or_ge m 273 with u273 | l273
                · rcases Nat.lt_or_ge m 272 with u272 | l272
                  · obtain rfl : m = 271 := Nat.le_antisymm (Nat.le_of_lt_succ u272) l271
                    exact xmc271
                  · obtain rfl : m = 272 := Nat.le_antisymm (Nat.le_of_lt_succ u273) l272
                    exact xmc272
                · rcases Nat.lt_or_ge m 274 with u274 | l274
                  · obtain rfl : m = 273 := Nat.le_antisymm (Nat.le_of_lt_succ u274) l273
                    exact xmc273
                  · obtain rfl : m = 274 := Nat.le_antisymm (Nat.le_of_lt_succ u275) l274
                    exact xmc274
      · rcases Nat.lt_or_ge m 302 with u302 | l302
        · rcases Nat.lt_or_ge m 288 with u288 | l288
          · rcases Nat.lt_or_ge m 281 with u281 | l281
            · rcases Nat.lt_or_ge m 278 with u278 | l278
              · rcases Nat.lt_or_ge m 276 with u276 | l276
                · obtain rfl : m = 275 := Nat.le_antisymm (Nat.le_of_lt_succ u276) l275
                  exact xmc275
                · rcases Nat.lt_or_ge m 277 with u277 | l277
                  · obtain rfl : m = 276 := Nat.le_antisymm (Nat.le_of_lt_succ u277) l276
                    exact xmc276
                  · obtain rfl : m = 277 := Nat.le_antisymm (Nat.le_of_lt_succ u278) l277
                    exact xmc277
              · rcases Nat.lt_or_ge m 279 with u279 | l279
                · obtain rfl : m = 278 := Nat.le_antisymm (Nat.le_of_lt_succ u279) l278
                  exact xmc278
                · rcases Nat.lt_or_ge m 280 with u280 | l280
                  · obtain rfl : m = 279 := Nat.le_antisymm (Nat.le_of_lt_succ u280) l279
                    exact xmc279
                  · obtain rfl : m = 280 := Nat.le_antisymm (Nat.le_of_lt_succ u281) l280
                    exact xmc280
            · rcases Nat.lt_or_ge m 284 with u284 | l284
              · rcases Nat.lt_or_ge m 282 with u282 | l282
                · obtain rfl : m = 281 := Nat.le_antisymm (Nat.le_of_lt_succ u282) l281
                  exact xmc281
                · rcases Nat.lt_or_ge m 283 with u283 | l283
                  · obtain rfl : m = 282 := Nat.le_antisymm (Nat.le_of_lt_succ u283) l282
                    exact xmc282
                  · obtain rfl : m = 283 := Nat.le_antisymm (Nat.le_of_lt_succ u284) l283
                    exact xmc283
              · rcases Nat.lt_or_ge m 286 with u286 | l286
                · rcases Nat.lt_or_ge m 285 with u285 | l285
                  · obtain rfl : m = 284 := Nat.le_antisymm (Nat.le_of_lt_succ u285) l284
                    exact xmc284
                  · obtain rfl : m = 285 := Nat.le_antisymm (Nat.le_of_lt_succ u286) l285
                    exact xmc285
                · rcases Nat.lt_or_ge m 287 with u287 | l287
                  · obtain rfl : m = 286 := Nat.le_antisymm (Nat.le_of_lt_succ u287) l286
                    exact xmc286
                  · obtain rfl : m = 287 := Nat.le_antisymm (Nat.le_of_lt_succ u288) l287
                    exact xmc287
          · rcases Nat.lt_or_ge m 295 with u295 | l295
            · rcases Nat.lt_or_ge m 291 with u291 | l291
              · rcases Nat.lt_or_ge m 289 with u289 | l289
                · obtain rfl : m = 288 := Nat.le_antisymm (Nat.le_of_lt_succ u289) l288
                  exact xmc288
                · rcases Nat.lt_or_ge m 290 with u290 | l290
                  · obtain rfl : m = 289 := Nat.le_antisymm (Nat.le_of_lt_succ u290) l289
                    exact xmc289
                  · obtain rfl : m = 290 := Nat.le_antisymm (Nat.le_of_lt_succ u291) l290
                    exact xmc290
              · rcases Nat.lt_or_ge m 293 with u293 | l293
                · rcases Nat.lt_or_ge m 292 with u292 | l292
                  · obtain rfl : m = 291 := Nat.le_antisymm (Nat.le_of_lt_succ u292) l291
                    exact xmc291
                  · obtain rfl : m = 292 := Nat.le_antisymm (Nat.le_of_lt_succ u293) l292
                    exact xmc292
                · rcases Nat.lt_or_ge m 294 with u294 | l294
                  · obtain rfl : m = 293 := Nat.le_antisymm (Nat.le_of_lt_succ u294) l293
                    exact xmc293
                  · obtain rfl : m = 294 := Nat.le_antisymm (Nat.le_of_lt_succ u295) l294
                    exact xmc294
            · rcases Nat.lt_or_ge m 298 with u298 | l298
              · rcases Nat.lt_or_ge m 296 with u296 | l296
                · obtain rfl : m = 295 := Nat.le_antisymm (Nat.le_of_lt_succ u296) l295
                  exact xmc295
                · rcases Nat.lt_or_ge m 297 with u297 | l297
                  · obtain rfl : m = 296 := Nat.le_antisymm (Nat.le_of_lt_succ u297) l296
                    exact xmc296
                  · obtain rfl : m = 297 := Nat.le_antisymm (Nat.le_of_lt_succ u298) l297
                    exact xmc297
              · rcases Nat.lt_or_ge m 300 with u300 | l300
                · rcases Nat.lt_or_ge m 299 with u299 | l299
                  · obtain rfl : m = 298 := Nat.le_antisymm (Nat.le_of_lt_succ u299) l298
                    exact xmc298
                  · obtain rfl : m = 299 := Nat.le_antisymm (Nat.le_of_lt_succ u300) l299
                    exact xmc299
                · rcases Nat.lt_or_ge m 301 with u301 | l301
                  · obtain rfl : m = 300 := Nat.le_antisymm (Nat.le_of_lt_succ u301) l300
                    exact xmc300
                  · obtain rfl : m = 301 := Nat.le_antisymm (Nat.le_of_lt_succ u302) l301
                    exact xmc301
        · rcases Nat.lt_or_ge m 316 with u316 | l316
          · rcases Nat.lt_or_ge m 309 with u309 | l309
            · rcases Nat.lt_or_ge m 305 with u305 | l305
              · rcases Nat.lt_or_ge m 303 with u303 | l303
                · obtain rfl : m = 302 := Nat.le_antisymm (Nat.le_of_lt_succ u303) l302
                  exact xmc302
                · rcases Nat.lt_or_ge m 304 with u304 | l304
                  · obtain rfl : m = 303 := Nat.le_antisymm (Nat.le_of_lt_succ u304) l303
                    exact xmc303
                  · obtain rfl : m = 304 := Nat.le_antisymm (Nat.le_of_lt_succ u305) l304
                    exact xmc304
              · rcases Nat.lt_or_ge m 307 with u307 | l307
                · rcases Nat.lt_or_ge m 306 with u306 | l306
                  · obtain rfl : m = 305 := Nat.le_antisymm (Nat.le_of_lt_succ u306) l305
                    exact xmc305
                  · obtain rfl : m = 306 := Nat.le_antisymm (Nat.le_of_lt_succ u307) l306
                    exact xmc306
                · rcases Nat.lt_or_ge m 308 with u308 | l308
                  · obtain rfl : m = 307 := Nat.le_antisymm (Nat.le_of_lt_succ u308) l307
                    exact xmc307
                  · obtain rfl : m = 308 := Nat.le_antisymm (Nat.le_of_lt_succ u309) l308
                    exact xmc308
            · rcases Nat.lt_or_ge m 312 with u312 | l312
              · rcases Nat.lt_or_ge m 310 with u310 | l310
                · obtain rfl : m = 309 := Nat.le_antisymm (Nat.le_of_lt_succ u310) l309
                  exact xmc309
                · rcases Nat.lt_or_ge m 311 with u311 | l311
                  · obtain rfl : m = 310 := Nat.le_antisymm (Nat.le_of_lt_succ u311) l310
                    exact xmc310
                  · obtain rfl : m = 311 := Nat.le_antisymm (Nat.le_of_lt_succ u312) l311
                    exact xmc311
              · rcases Nat.lt_or_ge m 314 with u314 | l314
                · rcases Nat.lt_or_ge m 313 with u313 | l313
                  · obtain rfl : m = 312 := Nat.le_antisymm (Nat.le_of_lt_succ u313) l312
                    exact xmc312
                  · obtain rfl : m = 313 := Nat.le_antisymm (Nat.le_of_lt_succ u314) l313
                    exact xmc313
                · rcases Nat.lt_or_ge m 315 with u315 | l315
                  · obtain rfl : m = 314 := Nat.le_antisymm (Nat.le_of_lt_succ u315) l314
                    exact xmc314
                  · obtain rfl : m = 315 := Nat.le_antisymm (Nat.le_of_lt_succ u316) l315
                    exact xmc315
          · rcases Nat.lt_or_ge m 323 with u323 | l323
            · rcases Nat.lt_or_ge m 319 with u319 | l319
              · rcases Nat.lt_or_ge m 317 with u317 | l317
                · obtain rfl : m = 316 := Nat.le_antisymm (Nat.le_of_lt_succ u317) l316
                  exact xmc316
                · rcases Nat.lt_or_ge m 318 with u318 | l318
                  · obtain rfl : m = 317 := Nat.le_antisymm (Nat.le_of_lt_succ u318) l317
                    exact xmc317
                  · obtain rfl : m = 318 := Nat.le_antisymm (Nat.le_of_lt_succ u319) l318
                    exact xmc318
              · rcases Nat.lt_or_ge m 321 with u321 | l321
                · rcases Nat.lt_or_ge m 320 with u320 | l320
                  · obtain rfl : m = 319 := Nat.le_antisymm (Nat.le_of_lt_succ u320) l319
                    exact xmc319
                  · obtain rfl : m = 320 := Nat.le_antisymm (Nat.le_of_lt_succ u321) l320
                    exact xmc320
                · rcases Nat.lt_or_ge m 322 with u322 | l322
                  · obtain rfl : m = 321 := Nat.le_antisymm (Nat.le_of_lt_succ u322) l321
                    exact xmc321
                  · obtain rfl : m = 322 := Nat.le_antisymm (Nat.le_of_lt_succ u323) l322
                    exact xmc322
            · rcases Nat.lt_or_ge m 326 with u326 | l326
              · rcases Nat.lt_or_ge m 324 with u324 | l324
                · obtain rfl : m = 323 := Nat.le_antisymm (Nat.le_of_lt_succ u324) l323
                  exact xmc323
                · rcases Nat.lt_or_ge m 325 with u325 | l325
                  · obtain rfl : m = 324 := Nat.le_antisymm (Nat.le_of_lt_succ u325) l324
                    exact xmc324
                  · obtain rfl : m = 325 := Nat.le_antisymm (Nat.le_of_lt_succ u326) l325
                    exact xmc325
              · rcases Nat.lt_or_ge m 328 with u328 | l328
                · rcases Nat.lt_or_ge m 327 with u327 | l327
                  · obtain rfl : m = 326 := Nat.le_antisymm (Nat.le_of_lt_succ u327) l326
                    exact xmc326
                  · obtain rfl : m = 327 := Nat.le_antisymm (Nat.le_of_lt_succ u328) l327
                    exact xmc327
                · rcases Nat.lt_or_ge m 329 with u329 | l329
                  · obtain rfl : m = 328 := Nat.le_antisymm (Nat.le_of_lt_succ u329) l328
                    exact xmc328
                  · obtain rfl : m = 329 := Nat.le_antisymm (Nat.le_of_lt_succ u330) l329
                    exact xmc329
    · rcases Nat.lt_or_ge m 385 with u385 | l385
      · rcases Nat.lt_or_ge m 357 with u357 | l357
        · rcases Nat.lt_or_ge m 343 with u343 | l343
          · rcases Nat.lt_or_ge m 336 with u336 | l336
            · rcases Nat.lt_or_ge m 333 with u333 | l333
              · rcases Nat.lt_or_ge m 331 with u331 | l331
                · obtain rfl : m = 330 := Nat.le_antisymm (Nat.le_of_lt_succ u331) l330
                  exact xmc330
                · rcases Nat.lt_or_ge m 332 with u332 | l332
                  · obtain rfl : m = 331 := Nat.le_antisymm (Nat.le_of_lt_succ u332) l331
                    exact xmc331
                  · obtain rfl : m = 332 := Nat.le_antisymm (Nat.le_of_lt_succ u333) l332
                    exact xmc332
              · rcases Nat.lt_or_ge m 334 with u334 | l334
                · obtain rfl : m = 333 := Nat.le_antisymm (Nat.le_of_lt_succ u334) l333
                  exact xmc333
                · rcases Nat.lt_or_ge m 335 with u335 | l335
                  · obtain rfl : m = 334 := Nat.le_antisymm (Nat.le_of_lt_succ u335) l334
                    exact xmc334
                  · obtain rfl : m = 335 := Nat.le_antisymm (Nat.le_of_lt_succ u336) l335
                    exact xmc335
            · rcases Nat.lt_or_ge m 339 with u339 | l339
              · rcases Nat.lt_or_ge m 337 with u337 | l337
                · obtain rfl : m = 336 := Nat.le_antisymm (Nat.le_of_lt_succ u337) l336
                  exact xmc336
                · rcases Nat.lt_or_ge m 338 with u338 | l338
                  · obtain rfl : m = 337 := Nat.le_antisymm (Nat.le_of_lt_succ u338) l337
                    exact xmc337
                  · obtain rfl : m = 338 := Nat.le_antisymm (Nat.le_of_lt_succ u339) l338
                    exact xmc338
              · rcases Nat.lt_or_ge m 341 with u341 | l341
                · rcases Nat.lt_or_ge m 340 with u340 | l340
                  · obtain rfl : m = 339 := Nat.le_antisymm (Nat.le_of_lt_succ u340) l339
                    exact xmc339
                  · obtain rfl : m = 340 := Nat.le_antisymm (Nat.le_of_lt_succ u341) l340
                    exact xmc340
                · rcases Nat.lt_or_ge m 342 with u342 | l342
                  · obtain rfl : m = 341 := Nat.le_antisymm (Nat.le_of_lt_succ u342) l341
                    exact xmc341
                  · obtain rfl : m = 342 := Nat.le_antisymm (Nat.le_of_lt_succ u343) l342
                    exact xmc342
          · rcases Nat.lt_or_ge m 350 with u350 | l350
            · rcases Nat.lt_or_ge m 346 with u346 | l346
              · rcases Nat.lt_or_ge m 344 with u344 | l344
                · obtain rfl : m = 343 := Nat.le_antisymm (Nat.le_of_lt_succ u344) l343
                  exact xmc343
                · rcases Nat.lt_or_ge m 345 with u345 | l345
                  · obtain rfl : m = 344 := Nat.le_antisymm (Nat.le_of_lt_succ u345) l344
                    exact xmc344
                  · obtain rfl : m = 345 := Nat.le_antisymm (Nat.le_of_lt_succ u346) l345
                    exact xmc345
              · rcases Nat.lt_or_ge m 348 with u348 | l348
                · rcases Nat.lt_or_ge m 347 with u347 | l347
                  · obtain rfl : m = 346 := Nat.le_antisymm (Nat.le_of_lt_succ u347) l346
                    exact xmc346
                  · obtain rfl : m = 347 := Nat.le_antisymm (Nat.le_of_lt_succ u348) l347
                    exact xmc347
                · rcases Nat.lt_or_ge m 349 with u349 | l349
                  · obtain rfl : m = 348 := Nat.le_antisymm (Nat.le_of_lt_succ u349) l348
                    exact xmc348
                  · obtain rfl : m = 349 := Nat.le_antisymm (Nat.le_of_lt_succ u350) l349
                    exact xmc349
            · rcases Nat.lt_or_ge m 353 with u353 | l353
              · rcases Nat.lt_or_ge m 351 with u351 | l351
                · obtain rfl : m = 350 := Nat.le_antisymm (Nat.le_of_lt_succ u351) l350
                  exact xmc350
                · rcases Nat.lt_or_ge m 352 with u352 | l352
                  · obtain rfl : m = 351 := Nat.le_antisymm (Nat.le_of_lt_succ u352) l351
                    exact xmc351
                  · obtain rfl : m = 352 := Nat.le_antisymm (Nat.le_of_lt_succ u353) l352
                    exact xmc352
              · rcases Nat.lt_or_ge m 355 with u355 | l355
                · rcases Nat.lt_or_ge m 354 with u354 | l354
                  · obtain rfl : m = 353 := Nat.le_antisymm (Nat.le_of_lt_succ u354) l353
                    exact xmc353
                  · obtain rfl : m = 354 := Nat.le_antisymm (Nat.le_of_lt_succ u355) l354
                    exact xmc354
                · rcases Nat.lt_or_ge m 356 with u356 | l356
                  · obtain rfl : m = 355 := Nat.le_antisymm (Nat.le_of_lt_succ u356) l355
                    exact xmc355
                  · obtain rfl : m = 356 := Nat.le_antisymm (Nat.le_of_lt_succ u357) l356
                    exact xmc356
        · rcases Nat.lt_or_ge m 371 with u371 | l371
          · rcases Nat.lt_or_ge m 364 with u364 | l364
            · rcases Nat.lt_or_ge m 360 with u360 | l360
              · rcases Nat.lt_or_ge m 358 with u358 | l358
                · obtain rfl : m = 357 := Nat.le_antisymm (Nat.le_of_lt_succ u358) l357
                  exact xmc357
                · rcases Nat.lt_or_ge m 359 with u359 | l359
                  · obtain rfl : m = 358 := Nat.le_antisymm (Nat.le_of_lt_succ u359) l358
                    exact xmc358
                  · obtain rfl : m = 359 := Nat.le_antisymm (Nat.le_of_lt_succ u360) l359
                    exact xmc359
              · rcases Nat.lt_or_ge m 362 with u362 | l362
                · rcases Nat.lt_or_ge m 361 with u361 | l361
                  · obtain rfl : m = 360 := Nat.le_antisymm (Nat.le_of_lt_succ u361) l360
                    exact xmc360
                  · obtain rfl : m = 361 := Nat.le_antisymm (Nat.le_of_lt_succ u362) l361
                    exact xmc361
                · rcases Nat.lt_or_ge m 363 with u363 | l363
                  · obtain rfl : m = 362 := Nat.le_antisymm (Nat.le_of_lt_succ u363) l362
                    exact xmc362
                  · obtain rfl : m = 363 := Nat.le_antisymm (Nat.le_of_lt_succ u364) l363
                    exact xmc363
            · rcases Nat.lt_or_ge m 367 with u367 | l367
              · rcases Nat.lt_or_ge m 365 with u365 | l365
                · obtain rfl : m = 364 := Nat.le_antisymm (Nat.le_of_lt_succ u365) l364
                  exact xmc364
                · rcases Nat.lt_or_ge m 366 with u366 | l366
                  · obtain rfl : m = 365 := Nat.le_antisymm (Nat.le_of_lt_succ u366) l365
                    exact xmc365
                  · obtain rfl : m = 366 := Nat.le_antisymm (Nat.le_of_lt_succ u367) l366
                    exact xmc366
              · rcases Nat.lt_or_ge m 369 with u369 | l369
                · rcases Nat.lt_or_ge m 368 with u368 | l368
                  · obtain rfl : m = 367 := Nat.le_antisymm (Nat.le_of_lt_succ u368) l367
                    exact xmc367
                  · obtain rfl : m = 368 := Nat.le_antisymm (Nat.le_of_lt_succ u369) l368
                    exact xmc368
                · rcases Nat.lt_or_ge m 370 with u370 | l370
                  · obtain rfl : m = 369 := Nat.le_antisymm (Nat.le_of_lt_succ u370) l369
                    exact xmc369
                  · obtain rfl : m = 370 := Nat.le_antisymm (Nat.le_of_lt_succ u371) l370
                    exact xmc370
          · rcases Nat.lt_or_ge m 378 with u378 | l378
            · rcases Nat.lt_or_ge m 374 with u374 | l374
              · rcases Nat.lt_or_ge m 372 with u372 | l372
                · obtain rfl : m = 371 := Nat.le_antisymm (Nat.le_of_lt_succ u372) l371
                  exact xmc371
                · rcases Nat.lt_or_ge m 373 with u373 | l373
                  · obtain rfl : m = 372 := Nat.le_antisymm (Nat.le_of_lt_succ u373) l372
                    exact xmc372
                  · obtain rfl : m = 373 := Nat.le_antisymm (Nat.le_of_lt_succ u374) l373
                    exact xmc373
              · rcases Nat.lt_or_ge m 376 with u376 | l376
                · rcases Nat.lt_or_ge m 375 with u375 | l375
                  · obtain rfl : m = 374 := Nat.le_antisymm (Nat.le_of_lt_succ u375) l374
                    exact xmc374
                  · obtain rfl : m = 375 := Nat.le_antisymm (Nat.le_of_lt_succ u376) l375
                    exact xmc375
                · rcases Nat.lt_or_ge m 377 with u377 | l377
                  · obtain rfl : m = 376 := Nat.le_antisymm (Nat.le_of_lt_succ u377) l376
                    exact xmc376
                  · obtain rfl : m = 377 := Nat.le_antisymm (Nat.le_of_lt_succ u378) l377
                    exact xmc377
            · rcases Nat.lt_or_ge m 381 with u381 | l381
              · rcases Nat.lt_or_ge m 379 with u379 | l379
                · obtain rfl : m = 378 := Nat.le_antisymm (Nat.le_of_lt_succ u379) l378
                  exact xmc378
                · rcases Nat.lt_or_ge m 380 with u380 | l380
                  · obtain rfl : m = 379 := Nat.le_antisymm (Nat.le_of_lt_succ u380) l379
                    exact xmc379
                  · obtain rfl : m = 380 := Nat.le_antisymm (Nat.le_of_lt_succ u381) l380
                    exact xmc380
              · rcases Nat.lt_or_ge m 383 with u383 | l383
                · rcases Nat.lt_or_ge m 382 with u382 | l382
                  · obtain rfl : m = 381 := Nat.le_antisymm (Nat.le_of_lt_succ u382) l381
                    exact xmc381
                  · obtain rfl : m = 382 := Nat.le_antisymm (Nat.le_of_lt_succ u383) l382
                    exact xmc382
                · rcases Nat.lt_or_ge m 384 with u384 | l384
                  · obtain rfl : m = 383 := Nat.le_antisymm (Nat.le_of_lt_succ u384) l383
                    exact xmc383
                  · obtain rfl : m = 384 := Nat.le_antisymm (Nat.le_of_lt_succ u385) l384
                    exact xmc384
      · rcases Nat.lt_or_ge m 412 with u412 | l412
        · rcases Nat.lt_or_ge m 398 with u398 | l398
          · rcases Nat.lt_or_ge m 391 with u391 | l391
            · rcases Nat.lt_or_ge m 388 with u388 | l388
              · rcases Nat.lt_or_ge m 386 with u386 | l386
                · obtain rfl : m = 385 := Nat.le_antisymm (Nat.le_of_lt_succ u386) l385
                  exact xmc385
                · rcases Nat.lt_or_ge m 387 with u387 | l387
                  · obtain rfl : m = 386 := Nat.le_antisymm (Nat.le_of_lt_succ u387) l386
                    exact xmc386
                  · obtain rfl : m = 387 := Nat.le_antisymm (Nat.le_of_lt_succ u388) l387
                    exact xmc387
              · rcases Nat.lt_or_ge m 389 with u389 | l389
                · obtain rfl : m = 388 := Nat.le_antisymm (Nat.le_of_lt_succ u389) l388
                  exact xmc388
                · rcases Nat.lt_or_ge m 390 with u390 | l390
                  · obtain rfl : m = 389 := Nat.le_antisymm (Nat.le_of_lt_succ u390) l389
                    exact xmc389
                  · obtain rfl : m = 390 := Nat.le_antisymm (Nat.le_of_lt_succ u391) l390
                    exact xmc390
            · rcases Nat.lt_or_ge m 394 with u394 | l394
              · rcases Nat.lt_or_ge m 392 with u392 | l392
                · obtain rfl : m = 391 := Nat.le_antisymm (Nat.le_of_lt_succ u392) l391
                  exact xmc391
                · rcases Nat.lt_or_ge m 393 with u393 | l393
                  · obtain rfl : m = 392 := Nat.le_antisymm (Nat.le_of_lt_succ u393) l392
                    exact xmc392
                  · obtain rfl : m = 393 := Nat.le_antisymm (Nat.le_of_lt_succ u394) l393
                    exact xmc393
              · rcases Nat.lt_or_ge m 396 with u396 | l396
                · rcases Nat.lt_or_ge m 395 with u395 | l395
                  · obtain rfl : m = 394 := Nat.le_antisymm (Nat.le_of_lt_succ u395) l394
                    exact xmc394
                  · obtain rfl : m = 395 := Nat.le_antisymm (Nat.le_of_lt_succ u396) l395
                    exact xmc395
                · rcases Nat.lt_or_ge m 397 with u397 | l397
                  · obtain rfl : m = 396 := Nat.le_antisymm (Nat.le_of_lt_succ u397) l396
                    exact xmc396
                  · obtain rfl : m = 397 := Nat.le_antisymm (Nat.le_of_lt_succ u398) l397
                    exact xmc397
          · rcases Nat.lt_or_ge m 405 with u405 | l405
            · rcases Nat.lt_or_ge m 401 with u401 | l401
              · rcases Nat.lt_or_ge m 399 with u399 | l399
                · obtain rfl : m = 398 := Nat.le_antisymm (Nat.le_of_lt_succ u399) l398
                  exact xmc398
                · rcases Nat.lt_or_ge m 400 with u400 | l400
                  · obtain rfl : m = 399 := Nat.le_antisymm (Nat.le_of_lt_succ u400) l399
                    exact xmc399
                  · obtain rfl : m = 400 := Nat.le_antisymm (Nat.le_of_lt_succ u401) l400
                    exact xmc400
              · rcases Nat.lt_or_ge m 403 with u403 | l403
                · rcases Nat.lt_or_ge m 402 with u402 | l402
                  · obtain rfl : m = 401 := Nat.le_antisymm (Nat.le_of_lt_succ u402) l401
                    exact xmc401
                  · obtain rfl : m = 402 := Nat.le_antisymm (Nat.le_of_lt_succ u403) l402
                    exact xmc402
                · rcases Nat.lt_or_ge m 404 with u404 | l404
                  · obtain rfl : m = 403 := Nat.le_antisymm (Nat.le_of_lt_succ u404) l403
                    exact xmc403
                  · obtain rfl : m = 404 := Nat.le_antisymm (Nat.le_of_lt_succ u405) l404
                    exact xmc404
            · rcases Nat.lt_or_ge m 408 with u408 | l408
              · rcases Nat.lt_or_ge m 406 with u406 | l406
                · obtain rfl : m = 405 := Nat.le_antisymm (Nat.le_of_lt_succ u406) l405
                  exact xmc405
                · rcases Nat.lt_or_ge m 407 with u407 | l407
                  · obtain rfl : m = 406 := Nat.le_antisymm (Nat.le_of_lt_succ u407) l406
                    exact xmc406
                  · obtain rfl : m = 407 := Nat.le_antisymm (Nat.le_of_lt_succ u408) l407
                    exact xmc407
              · rcases Nat.lt_or_ge m 410 with u410 | l410
                · rcases Nat.lt_or_ge m 409 with u409 | l409
                  · obtain rfl : m = 408 := Nat.le_antisymm (Nat.le_of_lt_succ u409) l408
                    exact xmc408
                  · obtain rfl : m = 409 := Nat.le_antisymm (Nat.le_of_lt_succ u410) l409
                    exact xmc409
                · rcases Nat.lt_or_ge m 411 with u411 | l411
                  · obtain rfl : m = 410 := Nat.le_antisymm (Nat.le_of_lt_succ u411) l410
                    exact xmc410
                  · obtain rfl : m = 411 := Nat.le_antisymm (Nat.le_of_lt_succ u412) l411
                    exact xmc411
        · rcases Nat.lt_or_ge m 426 with u426 | l426
          · rcases Nat.lt_or_ge m 419 with u419 | l419
            · rcases Nat.lt_or_ge m 415 with u415 | l415
              · rcases Nat.lt_or_ge m 413 with u413 | l413
                · obtain rfl : m = 412 := Nat.le_antisymm (Nat.le_of_lt_succ u413) l412
                  exact xmc412
                · rcases Nat.lt_or_ge m 414 with u414 | l414
                  · obtain rfl : m = 413 := Nat.le_antisymm (Nat.le_of_lt_succ u414) l413
                    exact xmc413
                  · obtain rfl : m = 414 := Nat.le_antisymm (Nat.le_of_lt_succ u415) l414
                    exact xmc414
              · rcases Nat.lt_or_ge m 417 with u417 | l417
                · rcases Nat.lt_or_ge m 416 with u416 | l416
                  · obtain rfl : m = 415 := Nat.le_antisymm (Nat.le_of_lt_succ u416) l415
                    exact xmc415
                  · obtain rfl : m = 416 := Nat.le_antisymm (Nat.le_of_lt_succ u417) l416
                    exact xmc416
                · rcases Nat.lt_or_ge m 418 with u418 | l418
                  · obtain rfl : m = 417 := Nat.le_antisymm (Nat.le_of_lt_succ u418) l417
                    exact xmc417
                  · obtain rfl : m = 418 := Nat.le_antisymm (Nat.le_of_lt_succ u419) l418
                    exact xmc418
            · rcases Nat.lt_or_ge m 422 with u422 | l422
              · rcases Nat.lt_or_ge m 420 with u420 | l420
                · obtain rfl : m = 419 := Nat.le_antisymm (Nat.le_of_lt_succ u420) l419
                  exact xmc419
                · rcases Nat.lt_or_ge m 421 with u421 | l421
                  · obtain rfl : m = 420 := Nat.le_antisymm (Nat.le_of_lt_succ u421) l420
                    exact xmc420
                  · obtain rfl : m = 421 := Nat.le_antisymm (Nat.le_of_lt_succ u422) l421
                    exact xmc421
              · rcases Nat.lt_or_ge m 424 with u424 | l424
                · rcases Nat.lt_or_ge m 423 with u423 | l423
                  · obtain rfl : m = 422 := Nat.le_antisymm (Nat.le_of_lt_succ u423) l422
                    exact xmc422
                  · obtain rfl : m = 423 := Nat.le_antisymm (Nat.le_of_lt_succ u424) l423
                    exact xmc423
                · rcases Nat.lt_or_ge m 425 with u425 | l425
                  · obtain rfl : m = 424 := Nat.le_antisymm (Nat.le_of_lt_succ u425) l424
                    exact xmc424
                  · obtain rfl : m = 425 := Nat.le_antisymm (Nat.le_of_lt_succ u426) l425
                    exact xmc425
          · rcases Nat.lt_or_ge m 433 with u433 | l433
            · rcases Nat.lt_or_ge m 429 with u429 | l429
              · rcases Nat.lt_or_ge m 427 with u427 | l427
                · obtain rfl : m = 426 := Nat.le_antisymm (Nat.le_of_lt_succ u427) l426
                  exact xmc426
                · rcases Nat.lt_or_ge m 428 with u428 | l428
                  · obtain rfl : m = 427 := Nat.le_antisymm (Nat.le_of_lt_succ u428) l427
                    exact xmc427
                  · obtain rfl : m = 428 := Nat.le_antisymm (Nat.le_of_lt_succ u429) l428
                    exact xmc428
              · rcases Nat.lt_or_ge m 431 with u431 | l431
                · rcases Nat.lt_or_ge m 430 with u430 | l430
                  · obtain rfl : m = 429 := Nat.le_antisymm (Nat.le_of_lt_succ u430) l429
                    exact xmc429
                  · obtain rfl : m = 430 := Nat.le_antisymm (Nat.le_of_lt_succ u431) l430
                    exact xmc430
                · rcases Nat.lt_or_ge m 432 with u432 | l432
                  · obtain rfl : m = 431 := Nat.le_antisymm (Nat.le_of_lt_succ u432) l431
                    exact xmc431
                  · obtain rfl : m = 432 := Nat.le_antisymm (Nat.le_of_lt_succ u433) l432
                    exact xmc432
            · rcases Nat.lt_or_ge m 436 with u436 | l436
              · rcases Nat.lt_or_ge m 434 with u434 | l434
                · obtain rfl : m = 433 := Nat.le_antisymm (Nat.le_of_lt_succ u434) l433
                  exact xmc433
                · rcases Nat.lt_or_ge m 435 with u435 | l435
                  · obtain rfl : m = 434 := Nat.le_antisymm (Nat.le_of_lt_succ u435) l434
                    exact xmc434
                  · obtain rfl : m = 435 := Nat.le_antisymm (Nat.le_of_lt_succ u436) l435
                    exact xmc435
              · rcases Nat.lt_or_ge m 438 with u438 | l438
                · rcases Nat.lt_or_ge m 437 with u437 | l437
                  · obtain rfl : m = 436 := Nat.le_antisymm (Nat.le_of_lt_succ u437) l436
                    exact xmc436
                  · obtain rfl : m = 437 := Nat.le_antisymm (Nat.le_of_lt_succ u438) l437
                    exact xmc437
                · rcases Nat.lt_or_ge m 439 with u439 | l439
                  · obtain rfl : m = 438 := Nat.le_antisymm (Nat.le_of_lt_succ u439) l438
                    exact xmc438
                  · obtain rfl : m = 439 := Nat.le_antisymm (Nat.le_of_lt_succ h) l439
                    exact xmc439
theorem xmp_all {m : Nat} (h0 : 0 < m) (h : m < 440) : xm_pl m = true := by
  rcases (by omega : (1 ≤ m ∧ m < 61) ∨ (61 ≤ m ∧ m < 121) ∨ (121 ≤ m ∧ m < 181) ∨ (181 ≤ m ∧ m < 241) ∨ (241 ≤ m ∧ m < 301) ∨ (301 ≤ m ∧ m < 361) ∨ (361 ≤ m ∧ m < 421) ∨ (421 ≤ m ∧ m < 440)) with z | z | z | z | z | z | z | z
  · exact List.all_eq_true.mp xm_pl1 m (List.mem_range'_1.mpr (by omega))
  · exact List.all_eq_true.mp xm_pl61 m (List.mem_range'_1.mpr (by omega))
  · exact List.all_eq_true.mp xm_pl121 m (List.mem_range'_1.mpr (by omega))
  · exact List.all_eq_true.mp xm_pl181 m (List.mem_range'_1.mpr (by omega))
  · exact List.all_eq_true.mp xm_pl241 m (List.mem_range'_1.mpr (by omega))
  · exact List.all_eq_true.mp xm_pl301 m (List.mem_range'_1.mpr (by omega))
  · exact List.all_eq_true.mp xm_pl361 m (List.mem_range'_1.mpr (by omega))
  · exact List.all_eq_true.mp xm_pl421 m (List.mem_range'_1.mpr (by omega))
theorem xin_all {m : Nat} (h : m < 440) : xin m = decide ((xy m).name = "<init>") := by
  rcases (by omega : (0 ≤ m ∧ m < 60) ∨ (60 ≤ m ∧ m < 120) ∨ (120 ≤ m ∧ m < 180) ∨ (180 ≤ m ∧ m < 240) ∨ (240 ≤ m ∧ m < 300) ∨ (300 ≤ m ∧ m < 360) ∨ (360 ≤ m ∧ m < 420) ∨ (420 ≤ m ∧ m < 440)) with z | z | z | z | z | z | z | z
  · exact of_decide_eq_true (List.all_eq_true.mp xin_ok0 m (List.mem_range'_1.mpr (by omega)))
  · exact of_decide_eq_true (List.all_eq_true.mp xin_ok60 m (List.mem_range'_1.mpr (by omega)))
  · exact of_decide_eq_true (List.all_eq_true.mp xin_ok120 m (List.mem_range'_1.mpr (by omega)))
  · exact of_decide_eq_true (List.all_eq_true.mp xin_ok180 m (List.mem_range'_1.mpr (by omega)))
  · exact of_decide_eq_true (List.all_eq_true.mp xin_ok240 m (List.mem_range'_1.mpr (by omega)))
  · exact of_decide_eq_true (List.all_eq_true.mp xin_ok300 m (List.mem_range'_1.mpr (by omega)))
  · exact of_decide_eq_true (List.all_eq_true.mp xin_ok360 m (List.mem_range'_1.mpr (by omega)))
  · exact of_decide_eq_true (List.all_eq_true.mp xin_ok420 m (List.mem_range'_1.mpr (by omega)))
theorem xf_all {m : Nat} (h : m < 21) : xps (xf_wd m) (xf_ck m) (fun q => q.2.2.2) lw_tbl (xf m) = true := by
  rcases Nat.lt_or_ge m 10 with u10 | l10
  · rcases Nat.lt_or_ge m 5 with u5 | l5
    · rcases Nat.lt_or_ge m 2 with u2 | l2
      · rcases Nat.lt_or_ge m 1 with u1 | l1
        · obtain rfl : m = 0 := Nat.le_antisymm (Nat.le_of_lt_succ u1) (Nat.zero_le _)
          exact xf_ok0
        · obtain rfl : m = 1 := Nat.le_antisymm (Nat.le_of_lt_succ u2) l1
          exact xf_ok1
      · rcases Nat.lt_or_ge m 3 with u3 | l3
        · obtain rfl : m = 2 := Nat.le_antisymm (Nat.le_of_lt_succ u3) l2
          exact xf_ok2
        · rcases Nat.lt_or_ge m 4 with u4 | l4
          · obtain rfl : m = 3 := Nat.le_antisymm (Nat.le_of_lt_succ u4) l3
            exact xf_ok3
          · obtain rfl : m = 4 := Nat.le_antisymm (Nat.le_of_lt_succ u5) l4
            exact xf_ok4
    · rcases Nat.lt_or_ge m 7 with u7 | l7
      · rcases Nat.lt_or_ge m 6 with u6 | l6
        · obtain rfl : m = 5 := Nat.le_antisymm (Nat.le_of_lt_succ u6) l5
          exact xf_ok5
        · obtain rfl : m = 6 := Nat.le_antisymm (Nat.le_of_lt_succ u7) l6
          exact xf_ok6
      · rcases Nat.lt_or_ge m 8 with u8 | l8
        · obtain rfl : m = 7 := Nat.le_antisymm (Nat.le_of_lt_succ u8) l7
          exact xf_ok7
        · rcases Nat.lt_or_ge m 9 with u9 | l9
          · obtain rfl : m = 8 := Nat.le_antisymm (Nat.le_of_lt_succ u9) l8
            exact xf_ok8
          · obtain rfl : m = 9 := Nat.le_antisymm (Nat.le_of_lt_succ u10) l9
            exact xf_ok9
  · rcases Nat.lt_or_ge m 15 with u15 | l15
    · rcases Nat.lt_or_ge m 12 with u12 | l12
      · rcases Nat.lt_or_ge m 11 with u11 | l11
        · obtain rfl : m = 10 := Nat.le_antisymm (Nat.le_of_lt_succ u11) l10
          exact xf_ok10
        · obtain rfl : m = 11 := Nat.le_antisymm (Nat.le_of_lt_succ u12) l11
          exact xf_ok11
      · rcases Nat.lt_or_ge m 13 with u13 | l13
        · obtain rfl : m = 12 := Nat.le_antisymm (Nat.le_of_lt_succ u13) l12
          exact xf_ok12
        · rcases Nat.lt_or_ge m 14 with u14 | l14
          · obtain rfl : m = 13 := Nat.le_antisymm (Nat.le_of_lt_succ u14) l13
            exact xf_ok13
          · obtain rfl : m = 14 := Nat.le_antisymm (Nat.le_of_lt_succ u15) l14
            exact xf_ok14
    · rcases Nat.lt_or_ge m 18 with u18 | l18
      · rcases Nat.lt_or_ge m 16 with u16 | l16
        · obtain rfl : m = 15 := Nat.le_antisymm (Nat.le_of_lt_succ u16) l15
          exact xf_ok15
        · rcases Nat.lt_or_ge m 17 with u17 | l17
          · obtain rfl : m = 16 := Nat.le_antisymm (Nat.le_of_lt_succ u17) l16
            exact xf_ok16
          · obtain rfl : m = 17 := Nat.le_antisymm (Nat.le_of_lt_succ u18) l17
            exact xf_ok17
      · rcases Nat.lt_or_ge m 19 with u19 | l19
        · obtain rfl : m = 18 := Nat.le_antisymm (Nat.le_of_lt_succ u19) l18
          exact xf_ok18
        · rcases Nat.lt_or_ge m 20 with u20 | l20
          · obtain rfl : m = 19 := Nat.le_antisymm (Nat.le_of_lt_succ u20) l19
            exact xf_ok19
          · obtain rfl : m = 20 := Nat.le_antisymm (Nat.le_of_lt_succ h) l20
            exact xf_ok20
theorem xl_all {m : Nat} (h : m < 21) : xps (xl_wd m) (xl_ck m) (fun q => q.2.2.2.1) lw_tbl (xl m) = true := by
  rcases Nat.lt_or_ge m 10 with u10 | l10
  · rcases Nat.lt_or_ge m 5 with u5 | l5
    · rcases Nat.lt_or_ge m 2 with u2 | l2
      · rcases Nat.lt_or_ge m 1 with u1 | l1
        · obtain rfl : m = 0 := Nat.le_antisymm (Nat.le_of_lt_succ u1) (Nat.zero_le _)
          exact xl_ok0
        · obtain rfl : m = 1 := Nat.le_antisymm (Nat.le_of_lt_succ u2) l1
          exact xl_ok1
      · rcases Nat.lt_or_ge m 3 with u3 | l3
        · obtain rfl : m = 2 := Nat.le_antisymm (Nat.le_of_lt_succ u3) l2
          exact xl_ok2
        · rcases Nat.lt_or_ge m 4 with u4 | l4
          · obtain rfl : m = 3 := Nat.le_antisymm (Nat.le_of_lt_succ u4) l3
            exact xl_ok3
          · obtain rfl : m = 4 := Nat.le_antisymm (Nat.le_of_lt_succ u5) l4
            exact xl_ok4
    · rcases Nat.lt_or_ge m 7 with u7 | l7
      · rcases Nat.lt_or_ge m 6 with u6 | l6
        · obtain rfl : m = 5 := Nat.le_antisymm (Nat.le_of_lt_succ u6) l5
          exact xl_ok5
        · obtain rfl : m = 6 := Nat.le_antisymm (Nat.le_of_lt_succ u7) l6
          exact xl_ok6
      · rcases Nat.lt_or_ge m 8 with u8 | l8
        · obtain rfl : m = 7 := Nat.le_antisymm (Nat.le_of_lt_succ u8) l7
          exact xl_ok7
        · rcases Nat.lt_or_ge m 9 with u9 | l9
          · obtain rfl : m = 8 := Nat.le_antisymm (Nat.le_of_lt_succ u9) l8
            exact xl_ok8
          · obtain rfl : m = 9 := Nat.le_antisymm (Nat.le_of_lt_succ u10) l9
            exact xl_ok9
  · rcases Nat.lt_or_ge m 15 with u15 | l15
    · rcases Nat.lt_or_ge m 12 with u12 | l12
      · rcases Nat.lt_or_ge m 11 with u11 | l11
        · obtain rfl : m = 10 := Nat.le_antisymm (Nat.le_of_lt_succ u11) l10
          exact xl_ok10
        · obtain rfl : m = 11 := Nat.le_antisymm (Nat.le_of_lt_succ u12) l11
          exact xl_ok11
      · rcases Nat.lt_or_ge m 13 with u13 | l13
        · obtain rfl : m = 12 := Nat.le_antisymm (Nat.le_of_lt_succ u13) l12
          exact xl_ok12
        · rcases Nat.lt_or_ge m 14 with u14 | l14
          · obtain rfl : m = 13 := Nat.le_antisymm (Nat.le_of_lt_succ u14) l13
            exact xl_ok13
          · obtain rfl : m = 14 := Nat.le_antisymm (Nat.le_of_lt_succ u15) l14
            exact xl_ok14
    · rcases Nat.lt_or_ge m 18 with u18 | l18
      · rcases Nat.lt_or_ge m 16 with u16 | l16
        · obtain rfl : m = 15 := Nat.le_antisymm (Nat.le_of_lt_succ u16) l15
          exact xl_ok15
        · rcases Nat.lt_or_ge m 17 with u17 | l17
          · obtain rfl : m = 16 := Nat.le_antisymm (Nat.le_of_lt_succ u17) l16
            exact xl_ok16
          · obtain rfl : m = 17 := Nat.le_antisymm (Nat.le_of_lt_succ u18) l17
            exact xl_ok17
      · rcases Nat.lt_or_ge m 19 with u19 | l19
        · obtain rfl : m = 18 := Nat.le_antisymm (Nat.le_of_lt_succ u19) l18
          exact xl_ok18
        · rcases Nat.lt_or_ge m 20 with u20 | l20
          · obtain rfl : m = 19 := Nat.le_antisymm (Nat.le_of_lt_succ u20) l19
            exact xl_ok19
          · obtain rfl : m = 20 := Nat.le_antisymm (Nat.le_of_lt_succ h) l20
            exact xl_ok20
theorem xw_all {m : Nat} (h : m < 21) : xps (xw_wd m) (xw_ck m) (fun q => q.2.2) lw_tbl (xw m) = true := by
  rcases Nat.lt_or_ge m 10 with u10 | l10
  · rcases Nat.lt_or_ge m 5 with u5 | l5
    · rcases Nat.lt_or_ge m 2 with u2 | l2
      · rcases Nat.lt_or_ge m 1 with u1 | l1
        · obtain rfl : m = 0 := Nat.le_antisymm (Nat.le_of_lt_succ u1) (Nat.zero_le _)
          exact xw_ok0
        · obtain rfl : m = 1 := Nat.le_antisymm (Nat.le_of_lt_succ u2) l1
          exact xw_ok1
      · rcases Nat.lt_or_ge m 3 with u3 | l3
        · obtain rfl : m = 2 := Nat.le_antisymm (Nat.le_of_lt_succ u3) l2
          exact xw_ok2
        · rcases Nat.lt_or_ge m 4 with u4 | l4
          · obtain rfl : m = 3 := Nat.le_antisymm (Nat.le_of_lt_succ u4) l3
            exact xw_ok3
          · obtain rfl : m = 4 := Nat.le_antisymm (Nat.le_of_lt_succ u5) l4
            exact xw_ok4
    · rcases Nat.lt_or_ge m 7 with u7 | l7
      · rcases Nat.lt_or_ge m 6 with u6 | l6
        · obtain rfl : m = 5 := Nat.le_antisymm (Nat.le_of_lt_succ u6) l5
          exact xw_ok5
        · obtain rfl : m = 6 := Nat.le_antisymm (Nat.le_of_lt_succ u7) l6
          exact xw_ok6
      · rcases Nat.lt_or_ge m 8 with u8 | l8
        · obtain rfl : m = 7 := Nat.le_antisymm (Nat.le_of_lt_succ u8) l7
          exact xw_ok7
        · rcases Nat.lt_or_ge m 9 with u9 | l9
          · obtain rfl : m = 8 := Nat.le_antisymm (Nat.le_of_lt_succ u9) l8
            exact xw_ok8
          · obtain rfl : m = 9 := Nat.le_antisymm (Nat.le_of_lt_succ u10) l9
            exact xw_ok9
  · rcases Nat.lt_or_ge m 15 with u15 | l15
    · rcases Nat.lt_or_ge m 12 with u12 | l12
      · rcases Nat.lt_or_ge m 11 with u11 | l11
        · obtain rfl : m = 10 := Nat.le_antisymm (Nat.le_of_lt_succ u11) l10
          exact xw_ok10
        · obtain rfl : m = 11 := Nat.le_antisymm (Nat.le_of_lt_succ u12) l11
          exact xw_ok11
      · rcases Nat.lt_or_ge m 13 with u13 | l13
        · obtain rfl : m = 12 := Nat.le_antisymm (Nat.le_of_lt_succ u13) l12
          exact xw_ok12
        · rcases Nat.lt_or_ge m 14 with u14 | l14
          · obtain rfl : m = 13 := Nat.le_antisymm (Nat.le_of_lt_succ u14) l13
            exact xw_ok13
          · obtain rfl : m = 14 := Nat.le_antisymm (Nat.le_of_lt_succ u15) l14
            exact xw_ok14
    · rcases Nat.lt_or_ge m 18 with u18 | l18
      · rcases Nat.lt_or_ge m 16 with u16 | l16
        · obtain rfl : m = 15 := Nat.le_antisymm (Nat.le_of_lt_succ u16) l15
          exact xw_ok15
        · rcases Nat.lt_or_ge m 17 with u17 | l17
          · obtain rfl : m = 16 := Nat.le_antisymm (Nat.le_of_lt_succ u17) l16
            exact xw_ok16
          · obtain rfl : m = 17 := Nat.le_antisymm (Nat.le_of_lt_succ u18) l17
            exact xw_ok17
      · rcases Nat.lt_or_ge m 19 with u19 | l19
        · obtain rfl : m = 18 := Nat.le_antisymm (Nat.le_of_lt_succ u19) l18
          exact xw_ok18
        · rcases Nat.lt_or_ge m 20 with u20 | l20
          · obtain rfl : m = 19 := Nat.le_antisymm (Nat.le_of_lt_succ u20) l19
            exact xw_ok19
          · obtain rfl : m = 20 := Nat.le_antisymm (Nat.le_of_lt_succ h) l20
            exact xw_ok20
theorem xa_all {m : Nat} (h : m < 21) : xps (xa_wd m) (xa_ck m) (fun q => q.2.2) lw_tbl (xa m) = true := by
  rcases Nat.lt_or_ge m 10 with u10 | l10
  · rcases Nat.lt_or_ge m 5 with u5 | l5
    · rcases Nat.lt_or_ge m 2 with u2 | l2
      · rcases Nat.lt_or_ge m 1 with u1 | l1
        · obtain rfl : m = 0 := Nat.le_antisymm (Nat.le_of_lt_succ u1) (Nat.zero_le _)
          exact xa_ok0
        · obtain rfl : m = 1 := Nat.le_antisymm (Nat.le_of_lt_succ u2) l1
          exact xa_ok1
      · rcases Nat.lt_or_ge m 3 with u3 | l3
        · obtain rfl : m = 2 := Nat.le_antisymm (Nat.le_of_lt_succ u3) l2
          exact xa_ok2
        · rcases Nat.lt_or_ge m 4 with u4 | l4
          · obtain rfl : m = 3 := Nat.le_antisymm (Nat.le_of_lt_succ u4) l3
            exact xa_ok3
          · obtain rfl : m = 4 := Nat.le_antisymm (Nat.le_of_lt_succ u5) l4
            exact xa_ok4
    · rcases Nat.lt_or_ge m 7 with u7 | l7
      · rcases Nat.lt_or_ge m 6 with u6 | l6
        · obtain rfl : m = 5 := Nat.le_antisymm (Nat.le_of_lt_succ u6) l5
          exact xa_ok5
        · obtain rfl : m = 6 := Nat.le_antisymm (Nat.le_of_lt_succ u7) l6
          exact xa_ok6
      · rcases Nat.lt_or_ge m 8 with u8 | l8
        · obtain rfl : m = 7 := Nat.le_antisymm (Nat.le_of_lt_succ u8) l7
          exact xa_ok7
        · rcases Nat.lt_or_ge m 9 with u9 | l9
          · obtain rfl : m = 8 := Nat.le_antisymm (Nat.le_of_lt_succ u9) l8
            exact xa_ok8
          · obtain rfl : m = 9 := Nat.le_antisymm (Nat.le_of_lt_succ u10) l9
            exact xa_ok9
  · rcases Nat.lt_or_ge m 15 with u15 | l15
    · rcases Nat.lt_or_ge m 12 with u12 | l12
      · rcases Nat.lt_or_ge m 11 with u11 | l11
        · obtain rfl : m = 10 := Nat.le_antisymm (Nat.le_of_lt_succ u11) l10
          exact xa_ok10
        · obtain rfl : m = 11 := Nat.le_antisymm (Nat.le_of_lt_succ u12) l11
          exact xa_ok11
      · rcases Nat.lt_or_ge m 13 with u13 | l13
        · obtain rfl : m = 12 := Nat.le_antisymm (Nat.le_of_lt_succ u13) l12
          exact xa_ok12
        · rcases Nat.lt_or_ge m 14 with u14 | l14
          · obtain rfl : m = 13 := Nat.le_antisymm (Nat.le_of_lt_succ u14) l13
            exact xa_ok13
          · obtain rfl : m = 14 := Nat.le_antisymm (Nat.le_of_lt_succ u15) l14
            exact xa_ok14
    · rcases Nat.lt_or_ge m 18 with u18 | l18
      · rcases Nat.lt_or_ge m 16 with u16 | l16
        · obtain rfl : m = 15 := Nat.le_antisymm (Nat.le_of_lt_succ u16) l15
          exact xa_ok15
        · rcases Nat.lt_or_ge m 17 with u17 | l17
          · obtain rfl : m = 16 := Nat.le_antisymm (Nat.le_of_lt_succ u17) l16
            exact xa_ok16
          · obtain rfl : m = 17 := Nat.le_antisymm (Nat.le_of_lt_succ u18) l17
            exact xa_ok17
      · rcases Nat.lt_or_ge m 19 with u19 | l19
        · obtain rfl : m = 18 := Nat.le_antisymm (Nat.le_of_lt_succ u19) l18
          exact xa_ok18
        · rcases Nat.lt_or_ge m 20 with u20 | l20
          · obtain rfl : m = 19 := Nat.le_antisymm (Nat.le_of_lt_succ u20) l19
            exact xa_ok19
          · obtain rfl : m = 20 := Nat.le_antisymm (Nat.le_of_lt_succ h) l20
            exact xa_ok20
theorem xb_all {m : Nat} (h : m < 21) : xps (xb_wd m) (xb_ck m) (fun q => q.2.2) lw_tbl (xb m) = true := by
  rcases Nat.lt_or_ge m 10 with u10 | l10
  · rcases Nat.lt_or_ge m 5 with u5 | l5
    · rcases Nat.lt_or_ge m 2 with u2 | l2
      · rcases Nat.lt_or_ge m 1 with u1 | l1
        · obtain rfl : m = 0 := Nat.le_antisymm (Nat.le_of_lt_succ u1) (Nat.zero_le _)
          exact xb_ok0
        · obtain rfl : m = 1 := Nat.le_antisymm (Nat.le_of_lt_succ u2) l1
          exact xb_ok1
      · rcases Nat.lt_or_ge m 3 with u3 | l3
        · obtain rfl : m = 2 := Nat.le_antisymm (Nat.le_of_lt_succ u3) l2
          exact xb_ok2
        · rcases Nat.lt_or_ge m 4 with u4 | l4
          · obtain rfl : m = 3 := Nat.le_antisymm (Nat.le_of_lt_succ u4) l3
            exact xb_ok3
          · obtain rfl : m = 4 := Nat.le_antisymm (Nat.le_of_lt_succ u5) l4
            exact xb_ok4
    · rcases Nat.lt_or_ge m 7 with u7 | l7
      · rcases Nat.lt_or_ge m 6 with u6 | l6
        · obtain rfl : m = 5 := Nat.le_antisymm (Nat.le_of_lt_succ u6) l5
          exact xb_ok5
        · obtain rfl : m = 6 := Nat.le_antisymm (Nat.le_of_lt_succ u7) l6
          exact xb_ok6
      · rcases Nat.lt_or_ge m 8 with u8 | l8
        · obtain rfl : m = 7 := Nat.le_antisymm (Nat.le_of_lt_succ u8) l7
          exact xb_ok7
        · rcases Nat.lt_or_ge m 9 with u9 | l9
          · obtain rfl : m = 8 := Nat.le_antisymm (Nat.le_of_lt_succ u9) l8
            exact xb_ok8
          · obtain rfl : m = 9 := Nat.le_antisymm (Nat.le_of_lt_succ u10) l9
            exact xb_ok9
  · rcases Nat.lt_or_ge m 15 with u15 | l15
    · rcases Nat.lt_or_ge m 12 with u12 | l12
      · rcases Nat.lt_or_ge m 11 with u11 | l11
        · obtain rfl : m = 10 := Nat.le_antisymm (Nat.le_of_lt_succ u11) l10
          exact xb_ok10
        · obtain rfl : m = 11 := Nat.le_antisymm (Nat.le_of_lt_succ u12) l11
          exact xb_ok11
      · rcases Nat.lt_or_ge m 13 with u13 | l13
        · obtain rfl : m = 12 := Nat.le_antisymm (Nat.le_of_lt_succ u13) l12
          exact xb_ok12
        · rcases Nat.lt_or_ge m 14 with u14 | l14
          · obtain rfl : m = 13 := Nat.le_antisymm (Nat.le_of_lt_succ u14) l13
            exact xb_ok13
          · obtain rfl : m = 14 := Nat.le_antisymm (Nat.le_of_lt_succ u15) l14
            exact xb_ok14
    · rcases Nat.lt_or_ge m 18 with u18 | l18
      · rcases Nat.lt_or_ge m 16 with u16 | l16
        · obtain rfl : m = 15 := Nat.le_antisymm (Nat.le_of_lt_succ u16) l15
          exact xb_ok15
        · rcases Nat.lt_or_ge m 17 with u17 | l17
          · obtain rfl : m = 16 := Nat.le_antisymm (Nat.le_of_lt_succ u17) l16
            exact xb_ok16
          · obtain rfl : m = 17 := Nat.le_antisymm (Nat.le_of_lt_succ u18) l17
            exact xb_ok17
      · rcases Nat.lt_or_ge m 19 with u19 | l19
        · obtain rfl : m = 18 := Nat.le_antisymm (Nat.le_of_lt_succ u19) l18
          exact xb_ok18
        · rcases Nat.lt_or_ge m 20 with u20 | l20
          · obtain rfl : m = 19 := Nat.le_antisymm (Nat.le_of_lt_succ u20) l19
            exact xb_ok19
          · obtain rfl : m = 20 := Nat.le_antisymm (Nat.le_of_lt_succ h) l20
            exact xb_ok20
theorem xl_n0 : xl_0.all (fun q => decide (q.2.1 < 440 ∨ 1000 ≤ q.2.1)) = true := by decide +kernel
theorem xl_n1 : xl_1.all (fun q => decide (q.2.1 < 440 ∨ 1000 ≤ q.2.1)) = true := by decide +kernel
theorem xl_n2 : xl_2.all (fun q => decide (q.2.1 < 440 ∨ 1000 ≤ q.2.1)) = true := by decide +kernel
theorem xl_n3 : xl_3.all (fun q => decide (q.2.1 < 440 ∨ 1000 ≤ q.2.1)) = true := by decide +kernel
theorem xl_n4 : xl_4.all (fun q => decide (q.2.1 < 440 ∨ 1000 ≤ q.2.1)) = true := by decide +kernel
theorem xl_n5 : xl_5.all (fun q => decide (q.2.1 < 440 ∨ 1000 ≤ q.2.1)) = true := by decide +kernel
theorem xl_n6 : xl_6.all (fun q => decide (q.2.1 < 440 ∨ 1000 ≤ q.2.1)) = true := by decide +kernel
theorem xl_n7 : xl_7.all (fun q => decide (q.2.1 < 440 ∨ 1000 ≤ q.2.1)) = true := by decide +kernel
theorem xl_n8 : xl_8.all (fun q => decide (q.2.1 < 440 ∨ 1000 ≤ q.2.1)) = true := by decide +kernel
theorem xl_n9 : xl_9.all (fun q => decide (q.2.1 < 440 ∨ 1000 ≤ q.2.1)) = true := by decide +kernel
theorem xl_n10 : xl_10.all (fun q => decide (q.2.1 < 440 ∨ 1000 ≤ q.2.1)) = true := by decide +kernel
theorem xl_n11 : xl_11.all (fun q => decide (q.2.1 < 440 ∨ 1000 ≤ q.2.1)) = true := by decide +kernel
theorem xl_n12 : xl_12.all (fun q => decide (q.2.1 < 440 ∨ 1000 ≤ q.2.1)) = true := by decide +kernel
theorem xl_n13 : xl_13.all (fun q => decide (q.2.1 < 440 ∨ 1000 ≤ q.2.1)) = true := by decide +kernel
theorem xl_n14 : xl_14.all (fun q => decide (q.2.1 < 440 ∨ 1000 ≤ q.2.1)) = true := by decide +kernel
theorem xl_n15 : xl_15.all (fun q => decide (q.2.1 < 440 ∨ 1000 ≤ q.2.1)) = true := by decide +kernel
theorem xl_n16 : xl_16.all (fun q => decide (q.2.1 < 440 ∨ 1000 ≤ q.2.1)) = true := by decide +kernel
theorem xl_n17 : xl_17.all (fun q => decide (q.2.1 < 440 ∨ 1000 ≤ q.2.1)) = true := by decide +kernel
theorem xl_n18 : xl_18.all (fun q => decide (q.2.1 < 440 ∨ 1000 ≤ q.2.1)) = true := by decide +kernel
theorem xl_n19 : xl_19.all (fun q => decide (q.2.1 < 440 ∨ 1000 ≤ q.2.1)) = true := by decide +kernel
theorem xl_n20 : xl_20.all (fun q => decide (q.2.1 < 440 ∨ 1000 ≤ q.2.1)) = true := by decide +kernel
theorem xl_nall {m : Nat} (h : m < 21) : (xl m).all (fun q => decide (q.2.1 < 440 ∨ 1000 ≤ q.2.1)) = true := by
  rcases Nat.lt_or_ge m 10 with u10 | l10
  · rcases Nat.lt_or_ge m 5 with u5 | l5
    · rcases Nat.lt_or_ge m 2 with u2 | l2
      · rcases Nat.lt_or_ge m 1 with u1 | l1
        · obtain rfl : m = 0 := Nat.le_antisymm (Nat.le_of_lt_succ u1) (Nat.zero_le _)
          exact xl_n0
        · obtain rfl : m = 1 := Nat.le_antisymm (Nat.le_of_lt_succ u2) l1
          exact xl_n1
      · rcases Nat.lt_or_ge m 3 with u3 | l3
        · obtain rfl : m = 2 := Nat.le_antisymm (Nat.le_of_lt_succ u3) l2
          exact xl_n2
        · rcases Nat.lt_or_ge m 4 with u4 | l4
          · obtain rfl : m = 3 := Nat.le_antisymm (Nat.le_of_lt_succ u4) l3
            exact xl_n3
          · obtain rfl : m = 4 := Nat.le_antisymm (Nat.le_of_lt_succ u5) l4
            exact xl_n4
    · rcases Nat.lt_or_ge m 7 with u7 | l7
      · rcases Nat.lt_or_ge m 6 with u6 | l6
        · obtain rfl : m = 5 := Nat.le_antisymm (Nat.le_of_lt_succ u6) l5
          exact xl_n5
        · obtain rfl : m = 6 := Nat.le_antisymm (Nat.le_of_lt_succ u7) l6
          exact xl_n6
      · rcases Nat.lt_or_ge m 8 with u8 | l8
        · obtain rfl : m = 7 := Nat.le_antisymm (Nat.le_of_lt_succ u8) l7
          exact xl_n7
        · rcases Nat.lt_or_ge m 9 with u9 | l9
          · obtain rfl : m = 8 := Nat.le_antisymm (Nat.le_of_lt_succ u9) l8
            exact xl_n8
          · obtain rfl : m = 9 := Nat.le_antisymm (Nat.le_of_lt_succ u10) l9
            exact xl_n9
  · rcases Nat.lt_or_ge m 15 with u15 | l15
    · rcases Nat.lt_or_ge m 12 with u12 | l12
      · rcases Nat.lt_or_ge m 11 with u11 | l11
        · obtain rfl : m = 10 := Nat.le_antisymm (Nat.le_of_lt_succ u11) l10
          exact xl_n10
        · obtain rfl : m = 11 := Nat.le_antisymm (Nat.le_of_lt_succ u12) l11
          exact xl_n11
      · rcases Nat.lt_or_ge m 13 with u13 | l13
        · obtain rfl : m = 12 := Nat.le_antisymm (Nat.le_of_lt_succ u13) l12
          exact xl_n12
        · rcases Nat.lt_or_ge m 14 with u14 | l14
          · obtain rfl : m = 13 := Nat.le_antisymm (Nat.le_of_lt_succ u14) l13
            exact xl_n13
          · obtain rfl : m = 14 := Nat.le_antisymm (Nat.le_of_lt_succ u15) l14
            exact xl_n14
    · rcases Nat.lt_or_ge m 18 with u18 | l18
      · rcases Nat.lt_or_ge m 16 with u16 | l16
        · obtain rfl : m = 15 := Nat.le_antisymm (Nat.le_of_lt_succ u16) l15
          exact xl_n15
        · rcases Nat.lt_or_ge m 17 with u17 | l17
          · obtain rfl : m = 16 := Nat.le_antisymm (Nat.le_of_lt_succ u17) l16
            exact xl_n16
          · obtain rfl : m = 17 := Nat.le_antisymm (Nat.le_of_lt_succ u18) l17
            exact xl_n17
      · rcases Nat.lt_or_ge m 19 with u19 | l19
        · obtain rfl : m = 18 := Nat.le_antisymm (Nat.le_of_lt_succ u19) l18
          exact xl_n18
        · rcases Nat.lt_or_ge m 20 with u20 | l20
          · obtain rfl : m = 19 := Nat.le_antisymm (Nat.le_of_lt_succ u20) l19
            exact xl_n19
          · obtain rfl : m = 20 := Nat.le_antisymm (Nat.le_of_lt_succ h) l20
            exact xl_n20
theorem xD_mem {α : Type} {f : Nat → Option α} {l : List (Nat × α)} {ok : α → Nat → Bool} (hok : ∀ v i, ok v i = true → (i, v) ∈ l) (h : ((List.range 1100).all (fun i => match f i with | some v => ok v i | none => true)) = true) {i : Nat} {v : α} (hi : i < 1100) (hv : f i = some v) : (i, v) ∈ l := by
  have h1 := List.all_eq_true.mp h i (List.mem_range.mpr hi)
  simp only [hv] at h1
  exact hok v i h1
theorem xfD_any {l : List (Nat × Nat × Nat × Nat)} (v : Nat × Nat × Nat) (i : Nat) (h : l.any (fun q => decide (q = (i, v))) = true) : (i, v) ∈ l := by
  obtain ⟨q, h1, h2⟩ := List.any_eq_true.mp h
  rw [← of_decide_eq_true h2]; exact h1
set_option maxRecDepth 100000 in
set_option maxHeartbeats 4000000 in
theorem xfD_mem {m i : Nat} {v : Nat × Nat × Nat} (h : m < 21) (hv : xfD m i = some v) : (i, v) ∈ xf m := by
  unfold xfD at hv
  cases hi : Nat.blt i 1100 with
  | false => rw [hi] at hv; cases hv
  | true =>
    rw [hi] at hv
    have hi : i < 1100 := Nat.le_of_ble_eq_true hi
    rcases Nat.lt_or_ge m 10 with u10 | l10
    · rcases Nat.lt_or_ge m 5 with u5 | l5
      · rcases Nat.lt_or_ge m 2 with u2 | l2
        · rcases Nat.lt_or_ge m 1 with u1 | l1
          · obtain rfl : m = 0 := Nat.le_antisymm (Nat.le_of_lt_succ u1) (Nat.zero_le _)
            exact xD_mem (f := xfD_0) (l := xf_0) (ok := fun v i => xf_0.any (fun q => decide (q = (i, v)))) (fun v i => xfD_any v i) xfD_ok0 hi hv
          · obtain rfl : m = 1 := Nat.le_antisymm (Nat.le_of_lt_succ u2) l1
            exact xD_mem (f := xfD_1) (l := xf_1) (ok := fun v i => xf_1.any (fun q => decide (q = (i, v)))) (fun v i => xfD_any v i) xfD_ok1 hi hv
        · rcases Nat.lt_or_ge m 3 with u3 | l3
          · obtain rfl : m = 2 := Nat.le_antisymm (Nat.le_of_lt_succ u3) l2
            exact xD_mem (f := xfD_2) (l := xf_2) (ok := fun v i => xf_2.any (fun q => decide (q = (i, v)))) (fun v i => xfD_any v i) xfD_ok2 hi hv
          · rcases Nat.lt_or_ge m 4 with u4 | l4
            · obtain rfl : m = 3 := Nat.le_antisymm (Nat.le_of_lt_succ u4) l3
              exact xD_mem (f := xfD_3) (l := xf_3) (ok := fun v i => xf_3.any (fun q => decide (q = (i, v)))) (fun v i => xfD_any v i) xfD_ok3 hi hv
            · obtain rfl : m = 4 := Nat.le_antisymm (Nat.le_of_lt_succ u5) l4
              exact xD_mem (f := xfD_4) (l := xf_4) (ok := fun v i => xf_4.any (fun q => decide (q = (i, v)))) (fun v i => xfD_any v i) xfD_ok4 hi hv
      · rcases Nat.lt_or_ge m 7 with u7 | l7
        · rcases Nat.lt_or_ge m 6 with u6 | l6
          · obtain rfl : m = 5 := Nat.le_antisymm (Nat.le_of_lt_succ u6) l5
            exact xD_mem (f := xfD_5) (l := xf_5) (ok := fun v i => xf_5.any (fun q => decide (q = (i, v)))) (fun v i => xfD_any v i) xfD_ok5 hi hv
          · obtain rfl : m = 6 := Nat.le_antisymm (Nat.le_of_lt_succ u7) l6
            exact xD_mem (f := xfD_6) (l := xf_6) (ok := fun v i => xf_6.any (fun q => decide (q = (i, v)))) (fun v i => xfD_any v i) xfD_ok6 hi hv
        · rcases Nat.lt_or_ge m 8 with u8 | l8
          · obtain rfl : m = 7 := Nat.le_antisymm (Nat.le_of_lt_succ u8) l7
            exact xD_mem (f := xfD_7) (l := xf_7) (ok := fun v i => xf_7.any (fun q => decide (q = (i, v)))) (fun v i => xfD_any v i) xfD_ok7 hi hv
          · rcases Nat.lt_or_ge m 9 with u9 | l9
            · obtain rfl : m = 8 := Nat.le_antisymm (Nat.le_of_lt_succ u9) l8
              exact xD_mem (f := xfD_8) (l := xf_8) (ok := fun v i => xf_8.any (fun q => decide (q = (i, v)))) (fun v i => xfD_any v i) xfD_ok8 hi hv
            · obtain rfl : m = 9 := Nat.le_antisymm (Nat.le_of_lt_succ u10) l9
              exact xD_mem (f := xfD_9) (l := xf_9) (ok := fun v i => xf_9.any (fun q => decide (q = (i, v)))) (fun v i => xfD_any v i) xfD_ok9 hi hv
    · rcases Nat.lt_or_ge m 15 with u15 | l15
      · rcases Nat.lt_or_ge m 12 with u12 | l12
        · rcases Nat.lt_or_ge m 11 with u11 | l11
          · obtain rfl : m = 10 := Nat.le_antisymm (Nat.le_of_lt_succ u11) l10
            exact xD_mem (f := xfD_10) (l := xf_10) (ok := fun v i => xf_10.any (fun q => decide (q = (i, v)))) (fun v i => xfD_any v i) xfD_ok10 hi hv
          · obtain rfl : m = 11 := Nat.le_antisymm (Nat.le_of_lt_succ u12) l11
            exact xD_mem (f := xfD_11) (l := xf_11) (ok := fun v i => xf_11.any (fun q => decide (q = (i, v)))) (fun v i => xfD_any v i) xfD_ok11 hi hv
        · rcases Nat.lt_or_ge m 13 with u13 | l13
          · obtain rfl : m = 12 := Nat.le_antisymm (Nat.le_of_lt_succ u13) l12
            exact xD_mem (f := xfD_12) (l := xf_12) (ok := fun v i => xf_12.any (fun q => decide (q = (i, v)))) (fun v i => xfD_any v i) xfD_ok12 hi hv
          · rcases Nat.lt_or_ge m 14 with u14 | l14
            · obtain rfl : m = 13 := Nat.le_antisymm (Nat.le_of_lt_succ u14) l13
              exact xD_mem (f := xfD_13) (l := xf_13) (ok := fun v i => xf_13.any (fun q => decide (q = (i, v)))) (fun v i => xfD_any v i) xfD_ok13 hi hv
            · obtain rfl : m = 14 := Nat.le_antisymm (Nat.le_of_lt_succ u15) l14
              exact xD_mem (f := xfD_14) (l := xf_14) (ok := fun v i => xf_14.any (fun q => decide (q = (i, v)))) (fun v i => xfD_any v i) xfD_ok14 hi hv
      · rcases Nat.lt_or_ge m 18 with u18 | l18
        · rcases Nat.lt_or_ge m 16 with u16 | l16
          · obtain rfl : m = 15 := Nat.le_antisymm (Nat.le_of_lt_succ u16) l15
            exact xD_mem (f := xfD_15) (l := xf_15) (ok := fun v i => xf_15.any (fun q => decide (q = (i, v)))) (fun v i => xfD_any v i) xfD_ok15 hi hv
          · rcases Nat.lt_or_ge m 17 with u17 | l17
            · obtain rfl : m = 16 := Nat.le_antisymm (Nat.le_of_lt_succ u17) l16
              exact xD_mem (f := xfD_16) (l := xf_16) (ok := fun v i => xf_16.any (fun q => decide (q = (i, v)))) (fun v i => xfD_any v i) xfD_ok16 hi hv
            · obtain rfl : m = 17 := Nat.le_antisymm (Nat.le_of_lt_succ u18) l17
              exact xD_mem (f := xfD_17) (l := xf_17) (ok := fun v i => xf_17.any (fun q => decide (q = (i, v)))) (fun v i => xfD_any v i) xfD_ok17 hi hv
        · rcases Nat.lt_or_ge m 19 with u19 | l19
          · obtain rfl : m = 18 := Nat.le_antisymm (Nat.le_of_lt_succ u19) l18
            exact xD_mem (f := xfD_18) (l := xf_18) (ok := fun v i => xf_18.any (fun q => decide (q = (i, v)))) (fun v i => xfD_any v i) xfD_ok18 hi hv
          · rcases Nat.lt_or_ge m 20 with u20 | l20
            · obtain rfl : m = 19 := Nat.le_antisymm (Nat.le_of_lt_succ u20) l19
              exact xD_mem (f := xfD_19) (l := xf_19) (ok := fun v i => xf_19.any (fun q => decide (q = (i, v)))) (fun v i => xfD_any v i) xfD_ok19 hi hv
            · obtain rfl : m = 20 := Nat.le_antisymm (Nat.le_of_lt_succ h) l20
              exact xD_mem (f := xfD_20) (l := xf_20) (ok := fun v i => xf_20.any (fun q => decide (q = (i, v)))) (fun v i => xfD_any v i) xfD_ok20 hi hv
theorem xlD_any {l : List (Nat × Nat × Nat × Nat × Nat)} (v : Nat × Nat × Nat × Nat) (i : Nat) (h : l.any (fun q => decide (q = (i, v))) = true) : (i, v) ∈ l := by
  obtain ⟨q, h1, h2⟩ := List.any_eq_true.mp h
  rw [← of_decide_eq_true h2]; exact h1
set_option maxRecDepth 100000 in
set_option maxHeartbeats 4000000 in
theorem xlD_mem {m i : Nat} {v : Nat × Nat × Nat × Nat} (h : m < 21) (hv : xlD m i = some v) : (i, v) ∈ xl m := by
  unfold xlD at hv
  cases hi : Nat.blt i 1100 with
  | false => rw [hi] at hv; cases hv
  | true =>
    rw [hi] at hv
    have hi : i < 1100 := Nat.le_of_ble_eq_true hi
    rcases Nat.lt_or_ge m 10 with u10 | l10
    · rcases Nat.lt_or_ge m 5 with u5 | l5
      · rcases Nat.lt_or_ge m 2 with u2 | l2
        · rcases Nat.lt_or_ge m 1 with u1 | l1
          · obtain rfl : m = 0 := Nat.le_antisymm (Nat.le_of_lt_succ u1) (Nat.zero_le _)
            exact xD_mem (f := xlD_0) (l := xl_0) (ok := fun v i => xl_0.any (fun q => decide (q = (i, v)))) (fun v i => xlD_any v i) xlD_ok0 hi hv
          · obtain rfl : m = 1 := Nat.le_antisymm (Nat.le_of_lt_succ u2) l1
            exact xD_mem (f := xlD_1) (l := xl_1) (ok := fun v i => xl_1.any (fun q => decide (q = (i, v)))) (fun v i => xlD_any v i) xlD_ok1 hi hv
        · rcases Nat.lt_or_ge m 3 with u3 | l3
          · obtain rfl : m = 2 := Nat.le_antisymm (Nat.le_of_lt_succ u3) l2
            exact xD_mem (f := xlD_2) (l := xl_2) (ok := fun v i => xl_2.any (fun q => decide (q = (i, v)))) (fun v i => xlD_any v i) xlD_ok2 hi hv
          · rcases Nat.lt_or_ge m 4 with u4 | l4
            · obtain rfl : m = 3 := Nat.le_antisymm (Nat.le_of_lt_succ u4) l3
              exact xD_mem (f := xlD_3) (l := xl_3) (ok := fun v i => xl_3.any (fun q => decide (q = (i, v)))) (fun v i => xlD_any v i) xlD_ok3 hi hv
            · obtain rfl : m = 4 := Nat.le_antisymm (Nat.le_of_lt_succ u5) l4
              exact xD_mem (f := xlD_4) (l := xl_4) (ok := fun v i => xl_4.any (fun q => decide (q = (i, v)))) (fun v i => xlD_any v i) xlD_ok4 hi hv
      · rcases Nat.lt_or_ge m 7 with u7 | l7
        · rcases Nat.lt_or_ge m 6 with u6 | l6
          · obtain rfl : m = 5 := Nat.le_antisymm (Nat.le_of_lt_succ u6) l5
            exact xD_mem (f := xlD_5) (l := xl_5) (ok := fun v i => xl_5.any (fun q => decide (q = (i, v)))) (fun v i => xlD_any v i) xlD_ok5 hi hv
          · obtain rfl : m = 6 := Nat.le_antisymm (Nat.le_of_lt_succ u7) l6
            exact xD_mem (f := xlD_6) (l := xl_6) (ok := fun v i => xl_6.any (fun q => decide (q = (i, v)))) (fun v i => xlD_any v i) xlD_ok6 hi hv
        · rcases Nat.lt_or_ge m 8 with u8 | l8
          · obtain rfl : m = 7 := Nat.le_antisymm (Nat.le_of_lt_succ u8) l7
            exact xD_mem (f := xlD_7) (l := xl_7) (ok := fun v i => xl_7.any (fun q => decide (q = (i, v)))) (fun v i => xlD_any v i) xlD_ok7 hi hv
          · rcases Nat.lt_or_ge m 9 with u9 | l9
            · obtain rfl : m = 8 := Nat.le_antisymm (Nat.le_of_lt_succ u9) l8
              exact xD_mem (f := xlD_8) (l := xl_8) (ok := fun v i => xl_8.any (fun q => decide (q = (i, v)))) (fun v i => xlD_any v i) xlD_ok8 hi hv
            · obtain rfl : m = 9 := Nat.le_antisymm (Nat.le_of_lt_succ u10) l9
              exact xD_mem (f := xlD_9) (l := xl_9) (ok := fun v i => xl_9.any (fun q => decide (q = (i, v)))) (fun v i => xlD_any v i) xlD_ok9 hi hv
    · rcases Nat.lt_or_ge m 15 with u15 | l15
      · rcases Nat.lt_or_ge m 12 with u12 | l12
        · rcases Nat.lt_or_ge m 11 with u11 | l11
          · obtain rfl : m = 10 := Nat.le_antisymm (Nat.le_of_lt_succ u11) l10
            exact xD_mem (f := xlD_10) (l := xl_10) (ok := fun v i => xl_10.any (fun q => decide (q = (i, v)))) (fun v i => xlD_any v i) xlD_ok10 hi hv
          · obtain rfl : m = 11 := Nat.le_antisymm (Nat.le_of_lt_succ u12) l11
            exact xD_mem (f := xlD_11) (l := xl_11) (ok := fun v i => xl_11.any (fun q => decide (q = (i, v)))) (fun v i => xlD_any v i) xlD_ok11 hi hv
        · rcases Nat.lt_or_ge m 13 with u13 | l13
          · obtain rfl : m = 12 := Nat.le_antisymm (Nat.le_of_lt_succ u13) l12
            exact xD_mem (f := xlD_12) (l := xl_12) (ok := fun v i => xl_12.any (fun q => decide (q = (i, v)))) (fun v i => xlD_any v i) xlD_ok12 hi hv
          · rcases Nat.lt_or_ge m 14 with u14 | l14
            · obtain rfl : m = 13 := Nat.le_antisymm (Nat.le_of_lt_succ u14) l13
              exact xD_mem (f := xlD_13) (l := xl_13) (ok := fun v i => xl_13.any (fun q => decide (q = (i, v)))) (fun v i => xlD_any v i) xlD_ok13 hi hv
            · obtain rfl : m = 14 := Nat.le_antisymm (Nat.le_of_lt_succ u15) l14
              exact xD_mem (f := xlD_14) (l := xl_14) (ok := fun v i => xl_14.any (fun q => decide (q = (i, v)))) (fun v i => xlD_any v i) xlD_ok14 hi hv
      · rcases Nat.lt_or_ge m 18 with u18 | l18
        · rcases Nat.lt_or_ge m 16 with u16 | l16
          · obtain rfl : m = 15 := Nat.le_antisymm (Nat.le_of_lt_succ u16) l15
            exact xD_mem (f := xlD_15) (l := xl_15) (ok := fun v i => xl_15.any (fun q => decide (q = (i, v)))) (fun v i => xlD_any v i) xlD_ok15 hi hv
          · rcases Nat.lt_or_ge m 17 with u17 | l17
            · obtain rfl : m = 16 := Nat.le_antisymm (Nat.le_of_lt_succ u17) l16
              exact xD_mem (f := xlD_16) (l := xl_16) (ok := fun v i => xl_16.any (fun q => decide (q = (i, v)))) (fun v i => xlD_any v i) xlD_ok16 hi hv
            · obtain rfl : m = 17 := Nat.le_antisymm (Nat.le_of_lt_succ u18) l17
              exact xD_mem (f := xlD_17) (l := xl_17) (ok := fun v i => xl_17.any (fun q => decide (q = (i, v)))) (fun v i => xlD_any v i) xlD_ok17 hi hv
        · rcases Nat.lt_or_ge m 19 with u19 | l19
          · obtain rfl : m = 18 := Nat.le_antisymm (Nat.le_of_lt_succ u19) l18
            exact xD_mem (f := xlD_18) (l := xl_18) (ok := fun v i => xl_18.any (fun q => decide (q = (i, v)))) (fun v i => xlD_any v i) xlD_ok18 hi hv
          · rcases Nat.lt_or_ge m 20 with u20 | l20
            · obtain rfl : m = 19 := Nat.le_antisymm (Nat.le_of_lt_succ u20) l19
              exact xD_mem (f := xlD_19) (l := xl_19) (ok := fun v i => xl_19.any (fun q => decide (q = (i, v)))) (fun v i => xlD_any v i) xlD_ok19 hi hv
            · obtain rfl : m = 20 := Nat.le_antisymm (Nat.le_of_lt_succ h) l20
              exact xD_mem (f := xlD_20) (l := xl_20) (ok := fun v i => xl_20.any (fun q => decide (q = (i, v)))) (fun v i => xlD_any v i) xlD_ok20 hi hv
