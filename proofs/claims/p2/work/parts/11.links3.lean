def xm_1 : List (Nat × Nat) := [(211, 202), (121, 8), (91, 6), (417, 4), (166, 169), (193, 53), (139, 47), (40, 25), (74, 34), (179, 67), (108, 43), (153, 40), (55, 34), (218, 86), (224, 4), (225, 4), (135, 4), (93, 4), (167, 7), (171, 4), (172, 5), (173, 4), (174, 3), (430, 4), (431, 4), (433, 4), (427, 6), (432, 4), (437, 4), (436, 3), (422, 3), (424, 3), (438, 3), (136, 53), (137, 3), (428, 8), (169, 4), (168, 4), (429, 5), (435, 4), (434, 3), (439, 3), (170, 10), (138, 5), (122, 3), (124, 4), (129, 5), (130, 4), (426, 5), (131, 13), (132, 4), (105, 3), (133, 5), (123, 3), (94, 4), (261, 4), (262, 5), (260, 3), (125, 3), (101, 4), (96, 4), (126, 4), (127, 4), (227, 6), (259, 5), (175, 3), (177, 5), (176, 4), (178, 4), (420, 3), (247, 3), (188, 4), (189, 5), (416, 3), (97, 3), (419, 5), (190, 4), (191, 4), (192, 4), (251, 3), (112, 4), (113, 5), (114, 4), (106, 3), (107, 5), (98, 3), (99, 5), (115, 6), (117, 4), (118, 4), (264, 4), (414, 3), (116, 7), (119, 4), (120, 4), (253, 5), (154, 4), (155, 6), (156, 3), (157, 3), (158, 4), (159, 5), (265, 3), (415, 3), (160, 7), (161, 4), (162, 4), (255, 3), (56, 4), (58, 8), (59, 4), (60, 4), (61, 4), (62, 4), (57, 7), (1, 9), (212, 5), (2, 90), (213, 3), (3, 6), (214, 3), (4, 6), (215, 3), (263, 4), (100, 5), (5, 5), (216, 3), (128, 5), (6, 4), (217, 3), (134, 4), (92, 4), (7, 4), (219, 3), (8, 5), (220, 3), (9, 5), (221, 3), (10, 4), (222, 3), (103, 5), (104, 4), (11, 4), (223, 3), (12, 4), (226, 3), (13, 4), (228, 3), (14, 4), (229, 3), (194, 4), (198, 5), (199, 7), (197, 4), (266, 4), (418, 6), (15, 3), (230, 3), (195, 4), (196, 6), (16, 3), (231, 3), (200, 4), (102, 6), (201, 5), (17, 5), (232, 3), (95, 4), (205, 5), (207, 5), (208, 4), (209, 5), (210, 4), (18, 3), (233, 3), (206, 4), (19, 6), (234, 3), (140, 4), (141, 7), (20, 4), (235, 3), (142, 4), (21, 5), (236, 3), (143, 4), (22, 4), (237, 3), (144, 4), (145, 5), (146, 4), (23, 3), (238, 3), (147, 4), (148, 5), (149, 5), (150, 5), (24, 3), (239, 3), (41, 4), (42, 7), (25, 5), (240, 3), (43, 4), (44, 5), (46, 7), (49, 4), (51, 4), (47, 5), (52, 4), (48, 4), (50, 4), (53, 4), (45, 4), (54, 4), (26, 4), (241, 3), (75, 4), (76, 5), (77, 7), (78, 5), (27, 5), (242, 3), (28, 4), (243, 3), (79, 5), (80, 7), (84, 4), (81, 6), (86, 5), (87, 4), (82, 5), (83, 4), (85, 4), (88, 4), (29, 3), (244, 3), (89, 4), (90, 4), (30, 3), (245, 3), (180, 4), (181, 5), (182, 4), (183, 6), (184, 5), (185, 4), (31, 3), (246, 3), (186, 4), (187, 4), (32, 4), (248, 3), (109, 4), (110, 7), (33, 6), (249, 3), (202, 4), (204, 5), (203, 4), (34, 4), (250, 3), (111, 4), (35, 4), (252, 3), (151, 4), (152, 6), (36, 5), (254, 3), (163, 4), (164, 6), (165, 4), (37, 5), (256, 3), (63, 4), (64, 7), (65, 4), (69, 5), (425, 3), (423, 3), (66, 6), (67, 3), (68, 3), (421, 3), (70, 3), (71, 4), (72, 6), (73, 4), (38, 6), (257, 3), (39, 4), (258, 3), (267, 6), (391, 5), (268, 371), (281, 4), (269, 5), (270, 4), (274, 4), (275, 4), (276, 4), (282, 3), (277, 5), (279, 3), (280, 6), (283, 3), (278, 5), (284, 3), (285, 4), (286, 4), (271, 6), (287, 3), (289, 4), (288, 6), (290, 3), (291, 7), (272, 5), (292, 3), (293, 4), (294, 6), (295, 4), (302, 4), (303, 5), (299, 4), (297, 3), (300, 4), (298, 6), (296, 3), (304, 4), (301, 4), (305, 4), (308, 3), (306, 5), (307, 4), (309, 3), (315, 4), (314, 5), (310, 4), (311, 3), (312, 4), (313, 4), (316, 4), (317, 4), (325, 5), (320, 5), (319, 4), (318, 4), (321, 4), (322, 4), (326, 3), (324, 5), (323, 4), (328, 3), (330, 4), (273, 5), (329, 4), (327, 3), (331, 3), (332, 4), (334, 4), (333, 5), (338, 3), (337, 5), (335, 4), (336, 3), (347, 3), (343, 5), (341, 4), (339, 4), (342, 4), (345, 4), (340, 4), (344, 4), (346, 3), (354, 3), (353, 5), (352, 4), (348, 4), (350, 5), (349, 4), (351, 4), (355, 3), (357, 4), (358, 6), (356, 4), (362, 3), (360, 5), (359, 4), (361, 4), (363, 3), (364, 5), (365, 3), (366, 5), (368, 4), (367, 7), (369, 4), (371, 8), (370, 5), (378, 3), (374, 5), (376, 4), (373, 4), (372, 4), (375, 4), (377, 4), (379, 3), (380, 4), (386, 4), (381, 5), (382, 4), (384, 4), (383, 4), (387, 4), (388, 4), (385, 4), (389, 3), (390, 5), (404, 3), (403, 5), (392, 4), (401, 4), (393, 4), (400, 4), (395, 4), (397, 4), (394, 3), (396, 4), (402, 4), (399, 4), (398, 3), (409, 3), (407, 7), (405, 4), (408, 4), (406, 3), (411, 4), (410, 4), (412, 6), (413, 4)]
def xm_2 : List (Nat × Nat) := [(172, 0), (173, 1), (136, 1), (138, 1), (129, 1), (130, 1), (131, 1), (132, 1), (133, 1), (259, 1), (177, 1), (176, 1), (178, 1), (189, 1), (190, 1), (191, 1), (113, 1), (114, 1), (107, 1), (115, 1), (117, 1), (118, 1), (116, 1), (119, 1), (120, 1), (158, 1), (159, 1), (160, 1), (161, 1), (162, 1), (58, 1), (59, 1), (60, 1), (61, 1), (62, 1), (57, 1), (198, 2), (199, 1), (196, 1), (201, 1), (207, 1), (208, 1), (209, 1), (210, 1), (145, 1), (148, 1), (149, 1), (150, 1), (42, 1), (44, 1), (46, 1), (49, 1), (51, 1), (47, 1), (52, 1), (50, 1), (53, 1), (45, 1), (54, 1), (76, 1), (77, 1), (78, 1), (80, 1), (84, 1), (81, 1), (86, 1), (87, 1), (82, 1), (83, 1), (85, 1), (88, 1), (181, 1), (182, 1), (183, 1), (184, 1), (185, 1), (110, 1), (204, 1), (164, 1), (165, 1), (64, 1), (65, 1), (66, 1), (72, 1), (391, 1), (270, 1), (274, 1), (275, 1), (276, 1), (277, 1), (280, 1), (278, 1), (271, 1), (288, 1), (272, 1), (303, 1), (299, 1), (300, 1), (298, 1), (304, 1), (301, 1), (305, 1), (306, 1), (307, 1), (314, 1), (310, 1), (312, 1), (313, 1), (320, 1), (319, 1), (318, 1), (321, 1), (322, 1), (324, 1), (323, 1), (273, 1), (329, 1), (333, 1), (337, 1), (335, 1), (343, 1), (341, 1), (339, 1), (342, 1), (345, 1), (340, 1), (344, 1), (353, 1), (352, 1), (348, 1), (350, 1), (349, 1), (351, 1), (358, 1), (356, 1), (360, 1), (359, 1), (361, 1), (364, 1), (366, 1), (370, 1), (374, 1), (376, 1), (373, 1), (372, 1), (375, 1), (377, 1), (381, 1), (382, 1), (384, 1), (383, 1), (387, 1), (388, 1), (385, 1), (390, 1), (403, 1), (392, 1), (401, 1), (393, 1), (400, 1), (395, 1), (397, 1), (396, 1), (402, 1), (399, 1), (407, 1), (408, 1), (411, 1), (410, 1), (218, 650), (224, 4), (225, 4), (135, 4), (93, 4), (167, 7), (171, 4), (430, 16), (431, 4), (433, 4), (427, 6), (432, 4), (428, 80), (169, 4), (168, 4), (429, 5), (170, 20), (122, 8), (124, 4), (105, 34), (123, 8), (94, 4), (125, 15), (101, 4), (96, 4), (126, 4), (127, 4), (227, 6), (175, 8), (247, 19), (188, 4), (97, 11), (251, 20), (112, 4), (106, 12), (98, 8), (99, 5), (253, 41), (154, 4), (255, 45), (56, 4), (212, 45), (213, 93), (214, 9), (215, 9), (100, 9), (216, 8), (128, 5), (217, 7), (134, 4), (92, 4), (219, 7), (220, 8), (221, 8), (222, 7), (103, 5), (104, 4), (223, 7), (226, 7), (228, 7), (229, 7), (194, 4), (230, 32), (195, 4), (231, 12), (200, 4), (102, 6), (232, 13), (95, 4), (205, 5), (233, 24), (206, 4), (234, 9), (140, 4), (141, 7), (235, 7), (142, 4), (236, 8), (143, 4), (237, 7), (144, 4), (238, 15), (147, 4), (239, 21), (41, 4), (240, 15), (43, 4), (241, 56), (75, 4), (242, 25), (243, 7), (79, 5), (244, 49), (89, 4), (245, 10), (180, 4), (246, 30), (186, 4), (248, 11), (109, 4), (249, 16), (202, 4), (203, 9), (250, 7), (111, 4), (252, 7), (151, 4), (152, 6), (254, 8), (163, 4), (256, 18), (63, 4), (70, 40), (257, 23), (258, 7), (268, 382), (281, 4), (282, 24), (283, 17), (284, 8), (285, 4), (286, 4), (287, 9), (289, 4), (290, 9), (291, 7), (292, 8), (293, 4), (294, 6), (295, 4), (302, 4), (308, 40), (309, 12), (315, 4), (316, 24), (317, 4), (325, 5), (326, 24), (328, 12), (330, 4), (331, 15), (332, 4), (334, 4), (338, 8), (347, 15), (354, 35), (355, 29), (357, 4), (362, 13), (363, 16), (365, 8), (368, 9), (369, 11), (371, 8), (378, 8), (379, 28), (380, 4), (386, 4), (389, 32), (404, 8), (409, 50), (412, 32), (413, 4)]
def xm_3 : List (Nat × Nat) := [(13, 170), (11, 1), (5, 1), (3, 1), (17, 1), (8, 1), (10, 1), (6, 1), (0, 1), (2, 1), (9, 1), (4, 1), (7, 1), (1, 1), (12, 1), (16, 6), (18, 2), (19, 1), (20, 2), (14, 2), (15, 1)]
def xm_w1 (q : Nat × Nat) : Cond := if xsta q.1 = 1 then .static (xy q.1) else .instanceMethod (xy q.1)
set_option maxRecDepth 100000 in
theorem xm_ok1 : xps xm_w1 (fun q => goodWord (xm_w1 q)) (fun q => q.2) lw_tbl xm_1 = true := by decide +kernel
set_option maxRecDepth 100000 in
theorem xm_ok2 : xps (fun q => Cond.selects (xy q.1).cls (xy q.1) (xy q.1)) (fun q => goodWord (Cond.selects (xy q.1).cls (xy q.1) (xy q.1))) (fun q => q.2) lw_tbl xm_2 = true := by decide +kernel
set_option maxRecDepth 100000 in
theorem xm_ok3 : xps (fun q => Cond.initialized (xcls q.1)) (fun q => goodWord (Cond.initialized (xcls q.1))) (fun q => q.2) lw_tbl xm_3 = true := by decide +kernel
set_option maxRecDepth 100000 in
theorem xm_in1 : (List.range' 1 439).all (fun m => xm_1.any (fun q => Nat.beq q.1 m)) = true := by decide +kernel
set_option maxRecDepth 100000 in
theorem xm_in2 : (List.range' 1 439).all (fun m => Nat.beq (xsta m) 1 || xin m || xm_2.any (fun q => Nat.beq q.1 m)) = true := by decide +kernel
theorem xm_in3 : (List.range 21).all (fun c => xm_3.any (fun q => Nat.beq q.1 c)) = true := by decide +kernel
def xm_pl (m : Nat) : Bool := decide (xn m ≤ 45) && plainFor (xy m) && decide ((xy m).cls = xcls (xo m)) && decide ((xy m).cls ≠ "java/lang/invoke/MethodHandle") && decide ((xy m).cls ≠ "java/lang/invoke/VarHandle")
set_option maxRecDepth 100000 in
theorem xm_pl1 : ((List.range' 1 60).all xm_pl) = true := by decide +kernel
set_option maxRecDepth 100000 in
theorem xm_pl61 : ((List.range' 61 60).all xm_pl) = true := by decide +kernel
set_option maxRecDepth 100000 in
theorem xm_pl121 : ((List.range' 121 60).all xm_pl) = true := by decide +kernel
set_option maxRecDepth 100000 in
theorem xm_pl181 : ((List.range' 181 60).all xm_pl) = true := by decide +kernel
set_option maxRecDepth 100000 in
theorem xm_pl241 : ((List.range' 241 60).all xm_pl) = true := by decide +kernel
set_option maxRecDepth 100000 in
theorem xm_pl301 : ((List.range' 301 60).all xm_pl) = true := by decide +kernel
set_option maxRecDepth 100000 in
theorem xm_pl361 : ((List.range' 361 60).all xm_pl) = true := by decide +kernel
set_option maxRecDepth 100000 in
theorem xm_pl421 : ((List.range' 421 19).all xm_pl) = true := by decide +kernel
def xt_0 : List (Nat × Nat) := [(0, 0), (0, 0), (0, 0), (0, 0), (3, 1), (3, 1), (3, 1), (0, 0), (3, 1)]
def xt_1 : List (Nat × Nat) := [(3, 1), (0, 0), (0, 0), (3, 1), (0, 0), (3, 1), (3, 1), (3, 1), (3, 1), (0, 0), (0, 0), (0, 0), (0, 0)]
def xt_2 : List (Nat × Nat) := [(0, 0), (0, 0), (0, 0), (1, 0), (0, 0), (3, 1), (3, 1), (3, 1), (0, 0), (3, 1), (3, 1), (3, 1), (3, 1), (3, 1), (3, 1), (3, 1), (0, 0), (0, 0), (1, 0)]
def xt_3 : List (Nat × Nat) := [(0, 0), (0, 0), (0, 0), (0, 0), (0, 0), (3, 1), (3, 1), (3, 1), (3, 1), (3, 1), (3, 1), (3, 1), (3, 1), (3, 1), (3, 1), (3, 1), (3, 1), (3, 1)]
def xt_4 : List (Nat × Nat) := [(0, 0), (0, 0), (3, 0), (3, 0), (0, 0), (0, 0), (3, 1), (3, 1), (3, 1), (3, 1), (3, 1)]
def xt_5 : List (Nat × Nat) := [(3, 1), (3, 1), (3, 0), (3, 1)]
def xt_6 : List (Nat × Nat) := [(0, 0), (0, 0), (3, 1), (0, 0), (3, 1), (3, 1)]
def xt_7 : List (Nat × Nat) := [(1, 0), (1, 0), (3, 1), (3, 1), (3, 1), (3, 1), (3, 1), (3, 1), (3, 1)]
def xt_8 : List (Nat × Nat) := [(3, 1), (0, 0), (0, 0), (0, 0), (0, 0), (0, 0), (0, 0), (0, 0), (3, 1), (0, 0)]
def xt_9 : List (Nat × Nat) := [(0, 0), (3, 1), (3, 1), (3, 1), (3, 1), (3, 1), (3, 1), (3, 1), (3, 1), (0, 0), (0, 0), (3, 1)]
def xt_10 : List (Nat × Nat) := [(0, 0), (0, 0), (0, 0), (3, 1), (3, 1), (3, 1), (3, 1), (3, 1), (0, 0), (0, 0), (0, 0), (0, 0), (3, 1)]
def xt_11 : List (Nat × Nat) := [(3, 1), (3, 1), (0, 0), (3, 1), (3, 1), (3, 1), (3, 1), (3, 1), (3, 1), (3, 1), (3, 1), (3, 1)]
def xt_12 : List (Nat × Nat) := [(0, 0), (3, 1), (3, 1), (3, 1), (3, 1), (3, 1), (3, 1), (3, 1), (3, 1), (0, 0), (3, 1), (3, 1), (3, 1), (3, 1), (3, 1), (3, 1), (3, 1), (0, 0), (0, 0), (0, 0), (0, 0), (3, 1), (0, 0), (0, 0), (0, 0), (3, 1), (0, 0), (0, 0), (0, 0), (0, 0), (0, 0), (1, 0), (0, 0), (3, 1), (3, 1), (3, 1), (3, 1), (3, 1), (3, 1), (3, 1), (0, 0), (3, 1), (3, 1), (3, 1), (3, 1), (3, 1), (3, 1), (3, 1), (3, 1), (3, 1), (3, 1), (3, 1), (3, 1), (0, 0), (3, 1), (3, 1), (3, 1), (3, 1), (3, 1), (3, 1), (3, 1), (3, 1), (3, 1), (3, 1), (3, 1), (3, 1), (3, 1), (3, 1), (3, 1), (3, 1), (3, 1), (3, 1), (3, 1), (3, 1), (3, 1), (3, 1), (3, 1), (3, 1), (3, 1), (3, 1), (0, 0), (0, 0), (3, 1), (3, 1), (2, 0), (1, 0), (1, 0), (3, 1), (3, 1), (3, 1), (3, 1), (3, 1), (3, 1), (3, 1), (3, 1), (3, 1), (0, 0), (2, 0), (2, 0), (2, 0), (1, 0), (1, 0), (3, 1), (3, 1), (3, 1), (3, 1), (3, 1), (3, 1), (3, 1), (0, 0), (3, 1), (0, 0), (0, 0), (0, 0), (3, 1), (3, 1), (0, 0), (0, 0), (0, 0), (3, 1), (3, 1), (1, 0)]
/-- a class's fields: 0 int, 1 long, 2 boolean, 3 a reference; 1 final -/
def xt (m : Nat) : List (Nat × Nat) := cond (Nat.blt m 6) (cond (Nat.blt m 3) (cond (Nat.blt m 1) (xt_0) (cond (Nat.blt m 2) (xt_1) (xt_2))) (cond (Nat.blt m 4) (xt_3) (cond (Nat.blt m 5) (xt_4) (xt_5)))) (cond (Nat.blt m 9) (cond (Nat.blt m 7) (xt_6) (cond (Nat.blt m 8) (xt_7) (xt_8))) (cond (Nat.blt m 11) (cond (Nat.blt m 10) (xt_9) (xt_10)) (cond (Nat.blt m 12) (xt_11) (xt_12))))
def xt_ck (T : u_T) : Nat → List (Nat × Nat) → Bool
  | _, [] => true
  | k, q :: l => decide ((T k).2.2.2 = decide (q.2 = 1)) && (match q.1 with
    | 0 => decide (am_t T k = .int)
    | 1 => decide (am_t T k = .long)
    | 2 => decide (am_t T k = .boolean)
    | _ => match am_t T k with
      | .object _ => true
      | .array _ => true
      | _ => false) && xt_ck T (k + 1) l
set_option maxRecDepth 100000 in
theorem xt_ok0 : xt_ck TX0 0 xt_0 = true ∧ xt_0.length = 9 := by decide +kernel
set_option maxRecDepth 100000 in
theorem xt_ok1 : xt_ck TX1 0 xt_1 = true ∧ xt_1.length = 13 := by decide +kernel
set_option maxRecDepth 100000 in
theorem xt_ok2 : xt_ck TX2 0 xt_2 = true ∧ xt_2.length = 19 := by decide +kernel
set_option maxRecDepth 100000 in
theorem xt_ok3 : xt_ck TX3 0 xt_3 = true ∧ xt_3.length = 18 := by decide +kernel
set_option maxRecDepth 100000 in
theorem xt_ok4 : xt_ck TX4 0 xt_4 = true ∧ xt_4.length = 11 := by decide +kernel
set_option maxRecDepth 100000 in
theorem xt_ok5 : xt_ck TX5 0 xt_5 = true ∧ xt_5.length = 4 := by decide +kernel
set_option maxRecDepth 100000 in
theorem xt_ok6 : xt_ck TX6 0 xt_6 = true ∧ xt_6.length = 6 := by decide +kernel
set_option maxRecDepth 100000 in
theorem xt_ok7 : xt_ck TX7 0 xt_7 = true ∧ xt_7.length = 9 := by decide +kernel
set_option maxRecDepth 100000 in
theorem xt_ok8 : xt_ck TX8 0 xt_8 = true ∧ xt_8.length = 10 := by decide +kernel
set_option maxRecDepth 100000 in
theorem xt_ok9 : xt_ck TX9 0 xt_9 = true ∧ xt_9.length = 12 := by decide +kernel
set_option maxRecDepth 100000 in
theorem xt_ok10 : xt_ck TX10 0 xt_10 = true ∧ xt_10.length = 13 := by decide +kernel
set_option maxRecDepth 100000 in
theorem xt_ok11 : xt_ck TX11 0 xt_11 = true ∧ xt_11.length = 12 := by decide +kernel
set_option maxRecDepth 100000 in
theorem xt_ok12 : xt_ck TX12 0 xt_12 = true ∧ xt_12.length = 122 := by decide +kernel
def xq : List (Nat × Nat × Nat) := [(13, 0, 1314), (15, 1, 1315)]
set_option maxRecDepth 100000 in
theorem xq_ok : xq.all (fun q => decide (lw_tbl[q.2.2]? = some (.classLink RL q.1 (if q.2.1 = 0 then am_IA else am_IS)))) = true := by decide +kernel
set_option maxHeartbeats 4000000 in
set_option maxRecDepth 100000 in
theorem xi_all {m : Nat} (h : m < 440) (pc : Nat) : xi_ok (xc m) (xi m pc) = true := by
  rcases Nat.lt_or_ge m 220 with z | z
  · rcases Nat.lt_or_ge m 110 with z | z
    · rcases Nat.lt_or_ge m 55 with z | z
      · rcases Nat.lt_or_ge m 27 with z | z
        · rcases Nat.lt_or_ge m 13 with z | z
          · rcases Nat.lt_or_ge m 6 with z | z
            · rcases Nat.lt_or_ge m 3 with z | z
              · rcases Nat.lt_or_ge m 1 with z | z
                · obtain rfl : m = 0 := by omega
                  exact xi_ok0 pc
                · rcases Nat.lt_or_ge m 2 with z | z
                  · obtain rfl : m = 1 := by omega
                    exact xi_ok1 pc
                  · obtain rfl : m = 2 := by omega
                    exact xi_ok2 pc
              · rcases Nat.lt_or_ge m 4 with z | z
                · obtain rfl : m = 3 := by omega
                  exact xi_ok3 pc
                · rcases Nat.lt_or_ge m 5 with z | z
                  · obtain rfl : m = 4 := by omega
                    exact xi_ok4 pc
                  · obtain rfl : m = 5 := by omega
                    exact xi_ok5 pc
            · rcases Nat.lt_or_ge m 9 with z | z
              · rcases Nat.lt_or_ge m 7 with z | z
                · obtain rfl : m = 6 := by omega
                  exact xi_ok6 pc
                · rcases Nat.lt_or_ge m 8 with z | z
                  · obtain rfl : m = 7 := by omega
                    exact xi_ok7 pc
                  · obtain rfl : m = 8 := by omega
                    exact xi_ok8 pc
              · rcases Nat.lt_or_ge m 11 with z | z
                · rcases Nat.lt_or_ge m 10 with z | z
                  · obtain rfl : m = 9 := by omega
                    exact xi_ok9 pc
                  · obtain rfl : m = 10 := by omega
                    exact xi_ok10 pc
                · rcases Nat.lt_or_ge m 12 with z | z
                  · obtain rfl : m = 11 := by omega
                    exact xi_ok11 pc
                  · obtain rfl : m = 12 := by omega
                    exact xi_ok12 pc
          · rcases Nat.lt_or_ge m 20 with z | z
            · rcases Nat.lt_or_ge m 16 with z | z
              · rcases Nat.lt_or_ge m 14 with z | z
                · obtain rfl : m = 13 := by omega
                  exact xi_ok13 pc
                · rcases Nat.lt_or_ge m 15 with z | z
                  · obtain rfl : m = 14 := by omega
                    exact xi_ok14 pc
                  · obtain rfl : m = 15 := by omega
                    exact xi_ok15 pc
              · rcases Nat.lt_or_ge m 18 with z | z
                · rcases Nat.lt_or_ge m 17 with z | z
                  · obtain rfl : m = 16 := by omega
                    exact xi_ok16 pc
                  · obtain rfl : m = 17 := by omega
                    exact xi_ok17 pc
                · rcases Nat.lt_or_ge m 19 with z | z
                  · obtain rfl : m = 18 := by omega
                    exact xi_ok18 pc
                  · obtain rfl : m = 19 := by omega
                    exact xi_ok19 pc
            · rcases Nat.lt_or_ge m 23 with z | z
              · rcases Nat.lt_or_ge m 21 with z | z
                · obtain rfl : m = 20 := by omega
                  exact xi_ok20 pc
                · rcases Nat.lt_or_ge m 22 with z | z
                  · obtain rfl : m = 21 := by omega
                    exact xi_ok21 pc
                  · obtain rfl : m = 22 := by omega
                    exact xi_ok22 pc
              · rcases Nat.lt_or_ge m 25 with z | z
                · rcases Nat.lt_or_ge m 24 with z | z
                  · obtain rfl : m = 23 := by omega
                    exact xi_ok23 pc
                  · obtain rfl : m = 24 := by omega
                    exact xi_ok24 pc
                · rcases Nat.lt_or_ge m 26 with z | z
                  · obtain rfl : m = 25 := by omega
                    exact xi_ok25 pc
                  · obtain rfl : m = 26 := by omega
                    exact xi_ok26 pc
        · rcases Nat.lt_or_ge m 41 with z | z
          · rcases Nat.lt_or_ge m 34 with z | z
            · rcases Nat.lt_or_ge m 30 with z | z
              · rcases Nat.lt_or_ge m 28 with z | z
                · obtain rfl : m = 27 := by omega
                  exact xi_ok27 pc
                · rcases Nat.lt_or_ge m 29 with z | z
                  · obtain rfl : m = 28 := by omega
                    exact xi_ok28 pc
                  · obtain rfl : m = 29 := by omega
                    exact xi_ok29 pc
              · rcases Nat.lt_or_ge m 32 with z | z
                · rcases Nat.lt_or_ge m 31 with z | z
                  · obtain rfl : m = 30 := by omega
                    exact xi_ok30 pc
                  · obtain rfl : m = 31 := by omega
                    exact xi_ok31 pc
                · rcases Nat.lt_or_ge m 33 with z | z
                  · obtain rfl : m = 32 := by omega
                    exact xi_ok32 pc
                  · obtain rfl : m = 33 := by omega
                    exact xi_ok33 pc
            · rcases Nat.lt_or_ge m 37 with z | z
              · rcases Nat.lt_or_ge m 35 with z | z
                · obtain rfl : m = 34 := by omega
                  exact xi_ok34 pc
                · rcases Nat.lt_or_ge m 36 with z | z
                  · obtain rfl : m = 35 := by omega
                    exact xi_ok35 pc
                  · obtain rfl : m = 36 := by omega
                    exact xi_ok36 pc
              · rcases Nat.lt_or_ge m 39 with z | z
                · rcases Nat.lt_or_ge m 38 with z | z
                  · obtain rfl : m = 37 := by omega
                    exact xi_ok37 pc
                  · obtain rfl : m = 38 := by omega
                    exact xi_ok38 pc
                · rcases Nat.lt_or_ge m 40 with z | z
                  · obtain rfl : m = 39 := by omega
                    exact xi_ok39 pc
                  · obtain rfl : m = 40 := by omega
                    exact xi_ok40 pc
          · rcases Nat.lt_or_ge m 48 with z | z
            · rcases Nat.lt_or_ge m 44 with z | z
              · rcases Nat.lt_or_ge m 42 with z | z
                · obtain rfl : m = 41 := by omega
                  exact xi_ok41 pc
                · rcases Nat.lt_or_ge m 43 with z | z
                  · obtain rfl : m = 42 := by omega
                    exact xi_ok42 pc
                  · obtain rfl : m = 43 := by omega
                    exact xi_ok43 pc
              · rcases Nat.lt_or_ge m 46 with z | z
                · rcases Nat.lt_or_ge m 45 with z | z
                  · obtain rfl : m = 44 := by omega
                    exact xi_ok44 pc
                  · obtain rfl : m = 45 := by omega
                    exact xi_ok45 pc
                · rcases Nat.lt_or_ge m 47 with z | z
                  · obtain rfl : m = 46 := by omega
                    exact xi_ok46 pc
                  · obtain rfl : m = 47 := by omega
                    exact xi_ok47 pc
            · rcases Nat.lt_or_ge m 51 with z | z
              · rcases Nat.lt_or_ge m 49 with z | z
                · obtain rfl : m = 48 := by omega
                  exact xi_ok48 pc
                · rcases Nat.lt_or_ge m 50 with z | z
                  · obtain rfl : m = 49 := by omega
                    exact xi_ok49 pc
                  · obtain rfl : m = 50 := by omega
                    exact xi_ok50 pc
              · rcases Nat.lt_or_ge m 53 with z | z
                · rcases Nat.lt_or_ge m 52 with z | z
                  · obtain rfl : m = 51 := by omega
                    exact xi_ok51 pc
                  · obtain rfl : m = 52 := by omega
                    exact xi_ok52 pc
                · rcases Nat.lt_or_ge m 54 with z | z
                  · obtain rfl : m = 53 := by omega
                    exact xi_ok53 pc
                  · obtain rfl : m = 54 := by omega
                    exact xi_ok54 pc
      · rcases Nat.lt_or_ge m 82 with z | z
        · rcases Nat.lt_or_ge m 68 with z | z
          · rcases Nat.lt_or_ge m 61 with z | z
            · rcases Nat.lt_or_ge m 58 with z | z
              · rcases Nat.lt_or_ge m 56 with z | z
                · obtain rfl : m = 55 := by omega
                  exact xi_ok55 pc
                · rcases Nat.lt_or_ge m 57 with z | z
                  · obtain rfl : m = 56 := by omega
                    exact xi_ok56 pc
                  · obtain rfl : m = 57 := by omega
                    exact xi_ok57 pc
              · rcases Nat.lt_or_ge m 59 with z | z
                · obtain rfl : m = 58 := by omega
                  exact xi_ok58 pc
                · rcases Nat.lt_or_ge m 60 with z | z
                  · obtain rfl : m = 59 := by omega
                    exact xi_ok59 pc
                  · obtain rfl : m = 60 := by omega
                    exact xi_ok60 pc
            · rcases Nat.lt_or_ge m 64 with z | z
              · rcases Nat.lt_or_ge m 62 with z | z
                · obtain rfl : m = 61 := by omega
                  exact xi_ok61 pc
                · rcases Nat.lt_or_ge m 63 with z | z
                  · obtain rfl : m = 62 := by omega
                    exact xi_ok62 pc
                  · obtain rfl : m = 63 := by omega
                    exact xi_ok63 pc
              · rcases Nat.lt_or_ge m 66 with z | z
                · rcases Nat.lt_or_ge m 65 with z | z
                  · obtain rfl : m = 64 := by omega
                    exact xi_ok64 pc
                  · obtain rfl : m = 65 := by omega
                    exact xi_ok65 pc
                · rcases Nat.lt_or_ge m 67 with z | z
                  · obtain rfl : m = 66 := by omega
                    exact xi_ok66 pc
                  · obtain rfl : m = 67 := by omega
                    exact xi_ok67 pc
          · rcases Nat.lt_or_ge m 75 with z | z
            · rcases Nat.lt_or_ge m 71 with z | z
              · rcases Nat.lt_or_ge m 69 with z | z
                · obtain rfl : m = 68 := by omega
                  exact xi_ok68 pc
                · rcases Nat.lt_or_ge m 70 with z | z
                  · obtain rfl : m = 69 := by omega
                    exact xi_ok69 pc
                  · obtain rfl : m = 70 := by omega
                    exact xi_ok70 pc
              · rcases Nat.lt_or_ge m 73 with z | z
                · rcases Nat.lt_or_ge m 72 with z | z
                  · obtain rfl : m = 71 := by omega
                    exact xi_ok71 pc
                  · obtain rfl : m = 72 := by omega
                    exact xi_ok72 pc
                · rcases Nat.lt_or_ge m 74 with z | z
                  · obtain rfl : m = 73 := by omega
                    exact xi_ok73 pc
                  · obtain rfl : m = 74 := by omega
                    exact xi_ok74 pc
            · rcases Nat.lt_or_ge m 78 with z | z
              · rcases Nat.lt_or_ge m 76 with z | z
                · obtain rfl : m = 75 := by omega
                  exact xi_ok75 pc
                · rcases Nat.lt_or_ge m 77 with z | z
                  · obtain rfl : m = 76 := by omega
                    exact xi_ok76 pc
                  · obtain rfl : m = 77 := by omega
                    exact xi_ok77 pc
              · rcases Nat.lt_or_ge m 80 with z | z
                · rcases Nat.lt_or_ge m 79 with z | z
                  · obtain rfl : m = 78 := by omega
                    exact xi_ok78 pc
                  · obtain rfl : m = 79 := by omega
                    exact xi_ok79 pc
                · rcases Nat.lt_or_ge m 81 with z | z
                  · obtain rfl : m = 80 := by omega
                    exact xi_ok80 pc
                  · obtain rfl : m = 81 := by omega
                    exact xi_ok81 pc
        · rcases Nat.lt_or_ge m 96 with z | z
          · rcases Nat.lt_or_ge m 89 with z | z
            · rcases Nat.lt_or_ge m 85 with z | z
              · rcases Nat.lt_or_ge m 83 with z | z
                · obtain rfl : m = 82 := by omega
                  exact xi_ok82 pc
                · rcases Nat.lt_or_ge m 84 with z | z
                  · obtain rfl : m = 83 := by omega
                    exact xi_ok83 pc
                  · obtain rfl : m = 84 := by omega
                    exact xi_ok84 pc
              · rcases Nat.lt_or_ge m 87 with z | z
                · rcases Nat.lt_or_ge m 86 with z | z
                  · obtain rfl : m = 85 := by omega
                    exact xi_ok85 pc
                  · obtain rfl : m = 86 := by omega
                    exact xi_ok86 pc
                · rcases Nat.lt_or_ge m 88 with z | z
                  · obtain rfl : m = 87 := by omega
                    exact xi_ok87 pc
                  · obtain rfl : m = 88 := by omega
                    exact xi_ok88 pc
            · rcases Nat.lt_or_ge m 92 with z | z
              · rcases Nat.lt_or_ge m 90 with z | z
                · obtain rfl : m = 89 := by omega
                  exact xi_ok89 pc
                · rcases Nat.lt_or_ge m 91 with z | z
                  · obtain rfl : m = 90 := by omega
                    exact xi_ok90 pc
                  · obtain rfl : m = 91 := by omega
                    exact xi_ok91 pc
              · rcases Nat.lt_or_ge m 94 with z | z
                · rcases Nat.lt_or_ge m 93 with z | z
                  · obtain rfl : m = 92 := by omega
                    exact xi_ok92 pc
                  · obtain rfl : m = 93 := by omega
                    exact xi_ok93 pc
                · rcases Nat.lt_or_ge m 95 with z | z
                  · obtain rfl : m = 94 := by omega
                    exact xi_ok94 pc
                  · obtain rfl : m = 95 := by omega
                    exact xi_ok95 pc
          · rcases Nat.lt_or_ge m 103 with z | z
            · rcases Nat.lt_or_ge m 99 with z | z
              · rcases Nat.lt_or_ge m 97 with z | z
                · obtain rfl : m = 96 := by omega
                  exact xi_ok96 pc
                · rcases Nat.lt_or_ge m 98 with z | z
                  · obtain rfl : m = 97 := by omega
                    exact xi_ok97 pc
                  · obtain rfl : m = 98 := by omega
                    exact xi_ok98 pc
              · rcases Nat.lt_or_ge m 101 with z | z
                · rcases Nat.lt_or_ge m 100 with z | z
                  · obtain rfl : m = 99 := by omega
                    exact xi_ok99 pc
                  · obtain rfl : m = 100 := by omega
                    exact xi_ok100 pc
                · rcases Nat.lt_or_ge m 102 with z | z
                  · obtain rfl : m = 101 := by omega
                    exact xi_ok101 pc
                  · obtain rfl : m = 102 := by omega
                    exact xi_ok102 pc
            · rcases Nat.lt_or_ge m 106 with z | z
              · rcases Nat.lt_or_ge m 104 with z | z
                · obtain rfl : m = 103 := by omega
                  exact xi_ok103 pc
                · rcases Nat.lt_or_ge m 105 with z | z
                  · obtain rfl : m = 104 := by omega
                    exact xi_ok104 pc
                  · obtain rfl : m = 105 := by omega
                    exact xi_ok105 pc
              · rcases Nat.lt_or_ge m 108 with z | z
                · rcases Nat.lt_or_ge m 107 with z | z
                  · obtain rfl : m = 106 := by omega
                    exact xi_ok106 pc
                  · obtain rfl : m = 107 := by omega
                    exact xi_ok107 pc
                · rcases Nat.lt_or_ge m 109 with z | z
                  · obtain rfl : m = 108 := by omega
                    exact xi_ok108 pc
                  · obtain rfl : m = 109 := by omega
                    exact xi_ok109 pc
    · rcases Nat.lt_or_ge m 165 with z | z
      · rcases Nat.lt_or_ge m 137 with z | z
        · rcases Nat.lt_or_ge m 123 with z | z
          · rcases Nat.lt_or_ge m 116 with z | z
            · rcases Nat.lt_or_ge m 113 with z | z
              · rcases Nat.lt_or_ge m 111 with z | z
                · obtain rfl : m = 110 := by omega
                  exact xi_ok110 pc
                · rcases Nat.lt_or_ge m 112 with z | z
                  · obtain rfl : m = 111 := by omega
                    exact xi_ok111 pc
                  · obtain rfl : m = 112 := by omega
                    exact xi_ok112 pc
              · rcases Nat.lt_or_ge m 114 with z | z
                · obtain rfl : m = 113 := by omega
                  exact xi_ok113 pc
                · rcases Nat.lt_or_ge m 115 with z | z
                  · obtain rfl : m = 114 := by omega
                    exact xi_ok114 pc
                  · obtain rfl : m = 115 := by omega
                    exact xi_ok115 pc
            · rcases Nat.lt_or_ge m 119 with z | z
              · rcases Nat.lt_or_ge m 117 with z | z
                · obtain rfl : m = 116 := by omega
                  exact xi_ok116 pc
                · rcases Nat.lt_or_ge m 118 with z | z
                  · obtain rfl : m = 117 := by omega
                    exact xi_ok117 pc
                  · obtain rfl : m = 118 := by omega
                    exact xi_ok118 pc
              · rcases Nat.lt_or_ge m 121 with z | z
                · rcases Nat.lt_or_ge m 120 with z | z
                  · obtain rfl : m = 119 := by omega
                    exact xi_ok119 pc
                  · obtain rfl : m = 120 := by omega
                    exact xi_ok120 pc
                · rcases Nat.lt_or_ge m 122 with z | z
                  · obtain rfl : m = 121 := by omega
                    exact xi_ok121 pc
                  · obtain rfl : m = 122 := by omega
                    exact xi_ok122 pc
          · rcases Nat.lt_or_ge m 130 with z | z
            · rcases Nat.lt_or_ge m 126 with z | z
              · rcases Nat.lt_or_ge m 124 with z | z
                · obtain rfl : m = 123 := by omega
                  exact xi_ok123 pc
                · rcases Nat.lt_or_ge m 125 with z | z
                  · obtain rfl : m = 124 := by omega
                    exact xi_ok124 pc
                  · obtain rfl : m = 125 := by omega
                    exact xi_ok125 pc
              · rcases Nat.lt_or_ge m 128 with z | z
                · rcases Nat.lt_or_ge m 127 with z | z
                  · obtain rfl : m = 126 := by omega
                    exact xi_ok126 pc
                  · obtain rfl : m = 127 := by omega
                    exact xi_ok127 pc
                · rcases Nat.lt_or_ge m 129 with z | z
                  · obtain rfl : m = 128 := by omega
                    exact xi_ok128 pc
                  · obtain rfl : m = 129 := by omega
                    exact xi_ok129 pc
            · rcases Nat.lt_or_ge m 133 with z | z
              · rcases Nat.lt_or_ge m 131 with z | z
                · obtain rfl : m = 130 := by omega
                  exact xi_ok130 pc
                · rcases Nat.lt_or_ge m 132 with z | z
                  · obtain rfl : m = 131 := by omega
                    exact xi_ok131 pc
                  · obtain rfl : m = 132 := by omega
                    exact xi_ok132 pc
              · rcases Nat.lt_or_ge m 135 with z | z
                · rcases Nat.lt_or_ge m 134 with z | z
                  · obtain rfl : m = 133 := by omega
                    exact xi_ok133 pc
                  · obtain rfl : m = 134 := by omega
                    exact xi_ok134 pc
                · rcases Nat.lt_or_ge m 136 with z | z
                  · obtain rfl : m = 135 := by omega
                    exact xi_ok135 pc
                  · obtain rfl : m = 136 := by omega
                    exact xi_ok136 pc
        · rcases Nat.lt_or_ge m 151 with z | z
          · rcases Nat.lt_or_ge m 144 with z | z
            · rcases Nat.lt_or_ge m 140 with z | z
              · rcases Nat.lt_or_ge m 138 with z | z
                · obtain rfl : m = 137 := by omega
                  exact xi_ok137 pc
                · rcases Nat.lt_or_ge m 139 with z | z
                  · obtain rfl : m = 138 := by omega
                    exact xi_ok138 pc
                  · obtain rfl : m = 139 := by omega
                    exact xi_ok139 pc
              · rcases Nat.lt_or_ge m 142 with z | z
                · rcases Nat.lt_or_ge m 141 with z | z
                  · obtain rfl : m = 140 := by omega
                    exact xi_ok140 pc
                  · obtain rfl : m = 141 := by omega
                    exact xi_ok141 pc
                · rcases Nat.lt_or_ge m 143 with z | z
                  · obtain rfl : m = 142 := by omega
                    exact xi_ok142 pc
                  · obtain rfl : m = 143 := by omega
                    exact xi_ok143 pc
            · rcases Nat.lt_or_ge m 147 with z | z
              · rcases Nat.lt_or_ge m 145 with z | z
                · obtain rfl : m = 144 := by omega
                  exact xi_ok144 pc
                · rcases Nat.lt_or_ge m 146 with z | z
                  · obtain rfl : m = 145 := by omega
                    exact xi_ok145 pc
                  · obtain rfl : m = 146 := by omega
                    exact xi_ok146 pc
              · rcases Nat.lt_or_ge m 149 with z | z
                · rcases Nat.lt_or_ge m 148 with z | z
                  · obtain rfl : m = 147 := by omega
                    exact xi_ok147 pc
                  · obtain rfl : m = 148 := by omega
                    exact xi_ok148 pc
                · rcases Nat.lt_or_ge m 150 with z | z
                  · obtain rfl : m = 149 := by omega
                    exact xi_ok149 pc
                  · obtain rfl : m = 150 := by omega
                    exact xi_ok150 pc
          · rcases Nat.lt_or_ge m 158 with z | z
            · rcases Nat.lt_or_ge m 154 with z | z
              · rcases Nat.lt_or_ge m 152 with z | z
                · obtain rfl : m = 151 := by omega
                  exact xi_ok151 pc
                · rcases Nat.lt_or_ge m 153 with z | z
                  · obtain rfl : m = 152 := by omega
                    exact xi_ok152 pc
                  · obtain rfl : m = 153 := by omega
                    exact xi_ok153 pc
              · rcases Nat.lt_or_ge m 156 with z | z
                · rcases Nat.lt_or_ge m 155 with z | z
                  · obtain rfl : m = 154 := by omega
                    exact xi_ok154 pc
                  · obtain rfl : m = 155 := by omega
                    exact xi_ok155 pc
                · rcases Nat.lt_or_ge m 157 with z | z
                  · obtain rfl : m = 156 := by omega
                    exact xi_ok156 pc
                  · obtain rfl : m = 157 := by omega
                    exact xi_ok157 pc
            · rcases Nat.lt_or_ge m 161 with z | z
              · rcases Nat.lt_or_ge m 159 with z | z
                · obtain rfl : m = 158 := by omega
                  exact xi_ok158 pc
                · rcases Nat.lt_or_ge m 160 with z | z
                  · obtain rfl : m = 159 := by omega
                    exact xi_ok159 pc
                  · obtain rfl : m = 160 := by omega
                    exact xi_ok160 pc
              · rcases Nat.lt_or_ge m 163 with z | z
                · rcases Nat.lt_or_ge m 162 with z | z
                  · obtain rfl : m = 161 := by omega
                    exact xi_ok161 pc
                  · obtain rfl : m = 162 := by omega
                    exact xi_ok162 pc
                · rcases Nat.lt_or_ge m 164 with z | z
                  · obtain rfl : m = 163 := by omega
                    exact xi_ok163 pc
                  · obtain rfl : m = 164 := by omega
                    exact xi_ok164 pc
      · rcases Nat.lt_or_ge m 192 with z | z
        · rcases Nat.lt_or_ge m 178 with z | z
          · rcases Nat.lt_or_ge m 171 with z | z
            · rcases Nat.lt_or_ge m 168 with z | z
              · rcases Nat.lt_or_ge m 166 with z | z
                · obtain rfl : m = 165 := by omega
                  exact xi_ok165 pc
                · rcases Nat.lt_or_ge m 167 with z | z
                  · obtain rfl : m = 166 := by omega
                    exact xi_ok166 pc
                  · obtain rfl : m = 167 := by omega
                    exact xi_ok167 pc
              · rcases Nat.lt_or_ge m 169 with z | z
                · obtain rfl : m = 168 := by omega
                  exact xi_ok168 pc
                · rcases Nat.lt_or_ge m 170 with z | z
                  · obtain rfl : m = 169 := by omega
                    exact xi_ok169 pc
                  · obtain rfl : m = 170 := by omega
                    exact xi_ok170 pc
            · rcases Nat.lt_or_ge m 174 with z | z
              · rcases Nat.lt_or_ge m 172 with z | z
                · obtain rfl : m = 171 := by omega
                  exact xi_ok171 pc
                · rcases Nat.lt_or_ge m 173 with z | z
                  · obtain rfl : m = 172 := by omega
                    exact xi_ok172 pc
                  · obtain rfl : m = 173 := by omega
                    exact xi_ok173 pc
              · rcases Nat.lt_or_ge m 176 with z | z
                · rcases Nat.lt_or_ge m 175 with z | z
                  · obtain rfl : m = 174 := by omega
                    exact xi_ok174 pc
                  · obtain rfl : m = 175 := by omega
                    exact xi_ok175 pc
                · rcases Nat.lt_or_ge m 177 with z | z
                  · obtain rfl : m = 176 := by omega
                    exact xi_ok176 pc
                  · obtain rfl : m = 177 := by omega
                    exact xi_ok177 pc
          · rcases Nat.lt_or_ge m 185 with z | z
            · rcases Nat.lt_or_ge m 181 with z | z
              · rcases Nat.lt_or_ge m 179 with z | z
                · obtain rfl : m = 178 := by omega
                  exact xi_ok178 pc
                · rcases Nat.lt_or_ge m 180 with z | z
                  · obtain rfl : m = 179 := by omega
                    exact xi_ok179 pc
                  · obtain rfl : m = 180 := by omega
                    exact xi_ok180 pc
              · rcases Nat.lt_or_ge m 183 with z | z
                · rcases Nat.lt_or_ge m 182 with z | z
                  · obtain rfl : m = 181 := by omega
                    exact xi_ok181 pc
                  · obtain rfl : m = 182 := by omega
                    exact xi_ok182 pc
                · rcases Nat.lt_or_ge m 184 with z | z
                  · obtain rfl : m = 183 := by omega
                    exact xi_ok183 pc
                  · obtain rfl : m = 184 := by omega
                    exact xi_ok184 pc
            · rcases Nat.lt_or_ge m 188 with z | z
              · rcases Nat.lt_or_ge m 186 with z | z
                · obtain rfl : m = 185 := by omega
                  exact xi_ok185 pc
                · rcases Nat.lt_or_ge m 187 with z | z
                  · obtain rfl : m = 186 := by omega
                    exact xi_ok186 pc
                  · obtain rfl : m = 187 := by omega
                    exact xi_ok187 pc
              · rcases Nat.lt_or_ge m 190 with z | z
                · rcases Nat.lt_or_ge m 189 with z | z
                  · obtain rfl : m = 188 := by omega
                    exact xi_ok188 pc
                  · obtain rfl : m = 189 := by omega
                    exact xi_ok189 pc
                · rcases Nat.lt_or_ge m 191 with z | z
                  · obtain rfl : m = 190 := by omega
                    exact xi_ok190 pc
                  · obtain rfl : m = 191 := by omega
                    exact xi_ok191 pc
        · rcases Nat.lt_or_ge m 206 with z | z
          · rcases Nat.lt_or_ge m 199 with z | z
            · rcases Nat.lt_or_ge m 195 with z | z
              · rcases Nat.lt_or_ge m 193 with z | z
                · obtain rfl : m = 192 := by omega
                  exact xi_ok192 pc
                · rcases Nat.lt_or_ge m 194 with z | z
                  · obtain rfl : m = 193 := by omega
                    exact xi_ok193 pc
                  · obtain rfl : m = 194 := by omega
                    exact xi_ok194 pc
              · rcases Nat.lt_or_ge m 197 with z | z
                · rcases Nat.lt_or_ge m 196 with z | z
                  · obtain rfl : m = 195 := by omega
                    exact xi_ok195 pc
                  · obtain rfl : m = 196 := by omega
                    exact xi_ok196 pc
                · rcases Nat.lt_or_ge m 198 with z | z
                  · obtain rfl : m = 197 := by omega
                    exact xi_ok197 pc
                  · obtain rfl : m = 198 := by omega
                    exact xi_ok198 pc
            · rcases Nat.lt_or_ge m 202 with z | z
              · rcases Nat.lt_or_ge m 200 with z | z
                · obtain rfl : m = 199 := by omega
                  exact xi_ok199 pc
                · rcases Nat.lt_or_ge m 201 with z | z
                  · obtain rfl : m = 200 := by omega
                    exact xi_ok200 pc
                  · obtain rfl : m = 201 := by omega
                    exact xi_ok201 pc
              · rcases Nat.lt_or_ge m 204 with z | z
                · rcases Nat.lt_or_ge m 203 with z | z
                  · obtain rfl : m = 202 := by omega
                    exact xi_ok202 pc
                  · obtain rfl : m = 203 := by omega
                    exact xi_ok203 pc
                · rcases Nat.lt_or_ge m 205 with z | z
                  · obtain rfl : m = 204 := by omega
                    exact xi_ok204 pc
                  · obtain rfl : m = 205 := by omega
                    exact xi_ok205 pc
          · rcases Nat.lt_or_ge m 213 with z | z
            · rcases Nat.lt_or_ge m 209 with z | z
              · rcases Nat.lt_or_ge m 207 with z | z
                · obtain rfl : m = 206 := by omega
                  exact xi_ok206 pc
                · rcases Nat.lt_or_ge m 208 with z | z
                  · obtain rfl : m = 207 := by omega
                    exact xi_ok207 pc
                  · obtain rfl : m = 208 := by omega
                    exact xi_ok208 pc
              · rcases Nat.lt_or_ge m 211 with z | z
                · rcases Nat.lt_or_ge m 210 with z | z
                  · obtain rfl : m = 209 := by omega
                    exact xi_ok209 pc
                  · obtain rfl : m = 210 := by omega
                    exact xi_ok210 pc
                · rcases Nat.lt_or_ge m 212 with z | z
                  · obtain rfl : m = 211 := by omega
                    exact xi_ok211 pc
                  · obtain rfl : m = 212 := by omega
                    exact xi_ok212 pc
            · rcases Nat.lt_or_ge m 216 with z | z
              · rcases Nat.lt_or_ge m 214 with z | z
                · obtain rfl : m = 213 := by omega
                  exact xi_ok213 pc
                · rcases Nat.lt_or_ge m 215 with z | z
                  · obtain rfl : m = 214 := by omega
                    exact xi_ok214 pc
                  · obtain rfl : m = 215 := by omega
                    exact xi_ok215 pc
              · rcases Nat.lt_or_ge m 218 with z | z
                · rcases Nat.lt_or_ge m 217 with z | z
                  · obtain rfl : m = 216 := by omega
                    exact xi_ok216 pc
                  · obtain rfl : m = 217 := by omega
                    exact xi_ok217 pc
                · rcases Nat.lt_or_ge m 219 with z | z
                  · obtain rfl : m = 218 := by omega
                    exact xi_ok218 pc
                  · obtain rfl : m = 219 := by omega
                    exact xi_ok219 pc
  · rcases Nat.lt_or_ge m 330 with z | z
    · rcases Nat.lt_or_ge m 275 with z | z
      · rcases Nat.lt_or_ge m 247 with z | z
        · rcases Nat.lt_or_ge m 233 with z | z
          · rcases Nat.lt_or_ge m 226 with z | z
            · rcases Nat.lt_or_ge m 223 with z | z
              · rcases Nat.lt_or_ge m 221 with z | z
                · obtain rfl : m = 220 := by omega
                  exact xi_ok220 pc
                · rcases Nat.lt_or_ge m 222 with z | z
                  · obtain rfl : m = 221 := by omega
                    exact xi_ok221 pc
                  · obtain rfl : m = 222 := by omega
                    exact xi_ok222 pc
              · rcases Nat.lt_or_ge m 224 with z | z
                · obtain rfl : m = 223 := by omega
                  exact xi_ok223 pc
                · rcases Nat.lt_or_ge m 225 with z | z
                  · obtain rfl : m = 224 := by omega
                    exact xi_ok224 pc
                  · obtain rfl : m = 225 := by omega
                    exact xi_ok225 pc
            · rcases Nat.lt_or_ge m 229 with z | z
              · rcases Nat.lt_or_ge m 227 with z | z
                · obtain rfl : m = 226 := by omega
                  exact xi_ok226 pc
                · rcases Nat.lt_or_ge m 228 with z | z
                  · obtain rfl : m = 227 := by omega
                    exact xi_ok227 pc
                  · obtain rfl : m = 228 := by omega
                    exact xi_ok228 pc
              · rcases Nat.lt_or_ge m 231 with z | z
                · rcases Nat.lt_or_ge m 230 with z | z
                  · obtain rfl : m = 229 := by omega
                    exact xi_ok229 pc
                  · obtain rfl : m = 230 := by omega
                    exact xi_ok230 pc
                · rcases Nat.lt_or_ge m 232 with z | z
                  · obtain rfl : m = 231 := by omega
                    exact xi_ok231 pc
                  · obtain rfl : m = 232 := by omega
                    exact xi_ok232 pc
          · rcases Nat.lt_or_ge m 240 with z | z
            · rcases Nat.lt_or_ge m 236 with z | z
              · rcases Nat.lt_or_ge m 234 with z | z
                · obtain rfl : m = 233 := by omega
                  exact xi_ok233 pc
                · rcases Nat.lt_or_ge m 235 with z | z
                  · obtain rfl : m = 234 := by omega
                    exact xi_ok234 pc
                  · obtain rfl : m = 235 := by omega
                    exact xi_ok235 pc
              · rcases Nat.lt_or_ge m 238 with z | z
                · rcases Nat.lt_or_ge m 237 with z | z
                  · obtain rfl : m = 236 := by omega
                    exact xi_ok236 pc
                  · obtain rfl : m = 237 := by omega
                    exact xi_ok237 pc
                · rcases Nat.lt_or_ge m 239 with z | z
                  · obtain rfl : m = 238 := by omega
                    exact xi_ok238 pc
                  · obtain rfl : m = 239 := by omega
                    exact xi_ok239 pc
            · rcases Nat.lt_or_ge m 243 with z | z
              · rcases Nat.lt_or_ge m 241 with z | z
                · obtain rfl : m = 240 := by omega
                  exact xi_ok240 pc
                · rcases Nat.lt_or_ge m 242 with z | z
                  · obtain rfl : m = 241 := by omega
                    exact xi_ok241 pc
                  · obtain rfl : m = 242 := by omega
                    exact xi_ok242 pc
              · rcases Nat.lt_or_ge m 245 with z | z
                · rcases Nat.lt_or_ge m 244 with z | z
                  · obtain rfl : m = 243 := by omega
                    exact xi_ok243 pc
                  · obtain rfl : m = 244 := by omega
                    exact xi_ok244 pc
                · rcases Nat.lt_or_ge m 246 with z | z
                  · obtain rfl : m = 245 := by omega
                    exact xi_ok245 pc
                  · obtain rfl : m = 246 := by omega
                    exact xi_ok246 pc
        · rcases Nat.lt_or_ge m 261 with z | z
          · rcases Nat.lt_or_ge m 254 with z | z
            · rcases Nat.lt_or_ge m 250 with z | z
              · rcases Nat.lt_or_ge m 248 with z | z
                · obtain rfl : m = 247 := by omega
                  exact xi_ok247 pc
                · rcases Nat.lt_or_ge m 249 with z | z
                  · obtain rfl : m = 248 := by omega
                    exact xi_ok248 pc
                  · obtain rfl : m = 249 := by omega
                    exact xi_ok249 pc
              · rcases Nat.lt_or_ge m 252 with z | z
                · rcases Nat.lt_or_ge m 251 with z | z
                  · obtain rfl : m = 250 := by omega
                    exact xi_ok250 pc
                  · obtain rfl : m = 251 := by omega
                    exact xi_ok251 pc
                · rcases Nat.lt_or_ge m 253 with z | z
                  · obtain rfl : m = 252 := by omega
                    exact xi_ok252 pc
                  · obtain rfl : m = 253 := by omega
                    exact xi_ok253 pc
            · rcases Nat.lt_or_ge m 257 with z | z
              · rcases Nat.lt_or_ge m 255 with z | z
                · obtain rfl : m = 254 := by omega
                  exact xi_ok254 pc
                · rcases Nat.lt_or_ge m 256 with z | z
                  · obtain rfl : m = 255 := by omega
                    exact xi_ok255 pc
                  · obtain rfl : m = 256 := by omega
                    exact xi_ok256 pc
              · rcases Nat.lt_or_ge m 259 with z | z
                · rcases Nat.lt_or_ge m 258 with z | z
                  · obtain rfl : m = 257 := by omega
                    exact xi_ok257 pc
                  · obtain rfl : m = 258 := by omega
                    exact xi_ok258 pc
                · rcases Nat.lt_or_ge m 260 with z | z
                  · obtain rfl : m = 259 := by omega
                    exact xi_ok259 pc
                  · obtain rfl : m = 260 := by omega
                    exact xi_ok260 pc
          · rcases Nat.lt_or_ge m 268 with z | z
            · rcases Nat.lt_or_ge m 264 with z | z
              · rcases Nat.lt_or_ge m 262 with z | z
                · obtain rfl : m = 261 := by omega
                  exact xi_ok261 pc
                · rcases Nat.lt_or_ge m 263 with z | z
                  · obtain rfl : m = 262 := by omega
                    exact xi_ok262 pc
                  · obtain rfl : m = 263 := by omega
                    exact xi_ok263 pc
              · rcases Nat.lt_or_ge m 266 with z | z
                · rcases Nat.lt_or_ge m 265 with z | z
                  · obtain rfl : m = 264 := by omega
                    exact xi_ok264 pc
                  · obtain rfl : m = 265 := by omega
                    exact xi_ok265 pc
                · rcases Nat.lt_or_ge m 267 with z | z
                  · obtain rfl : m = 266 := by omega
                    exact xi_ok266 pc
                  · obtain rfl : m = 267 := by omega
                    exact xi_ok267 pc
            · rcases Nat.lt_or_ge m 271 with z | z
              · rcases Nat.lt_or_ge m 269 with z | z
                · obtain rfl : m = 268 := by omega
                  exact xi_ok268 pc
                · rcases Nat.lt_or_ge m 270 with z | z
                  · obtain rfl : m = 269 := by omega
                    exact xi_ok269 pc
                  · obtain rfl : m = 270 := by omega
                    exact xi_ok270 pc
              · rcases Nat.lt_or_ge m 273 with z | z
                · rcases Nat.lt_or_ge m 272 with z | z
                  · obtain rfl : m = 271 := by omega
                    exact xi_ok271 pc
                  · obtain rfl : m = 272 := by omega
                    exact xi_ok272 pc
                · rcases Nat.lt_or_ge m 274 with z | z
                  · obtain rfl : m = 273 := by omega
                    exact xi_ok273 pc
                  · obtain rfl : m = 274 := by omega
                    exact xi_ok274 pc
      · rcases Nat.lt_or_ge m 302 with z | z
        · rcases Nat.lt_or_ge m 288 with z | z
          · rcases Nat.lt_or_ge m 281 with z | z
            · rcases Nat.lt_or_ge m 278 with z | z
              · rcases Nat.lt_or_ge m 276 with z | z
                · obtain rfl : m = 275 := by omega
                  exact xi_ok275 pc
                · rcases Nat.lt_or_ge m 277 with z | z
                  · obtain rfl : m = 276 := by omega
                    exact xi_ok276 pc
                  · obtain rfl : m = 277 := by omega
                    exact xi_ok277 pc
              · rcases Nat.lt_or_ge m 279 with z | z
                · obtain rfl : m = 278 := by omega
                  exact xi_ok278 pc
                · rcases Nat.lt_or_ge m 280 with z | z
                  · obtain rfl : m = 279 := by omega
                    exact xi_ok279 pc
                  · obtain rfl : m = 280 := by omega
                    exact xi_ok280 pc
            · rcases Nat.lt_or_ge m 284 with z | z
              · rcases Nat.lt_or_ge m 282 with z | z
                · obtain rfl : m = 281 := by omega
                  exact xi_ok281 pc
                · rcases Nat.lt_or_ge m 283 with z | z
                  · obtain rfl : m = 282 := by omega
                    exact xi_ok282 pc
                  · obtain rfl : m = 283 := by omega
                    exact xi_ok283 pc
              · rcases Nat.lt_or_ge m 286 with z | z
                · rcases Nat.lt_or_ge m 285 with z | z
                  · obtain rfl : m = 284 := by omega
                    exact xi_ok284 pc
                  · obtain rfl : m = 285 := by omega
                    exact xi_ok285 pc
                · rcases Nat.lt_or_ge m 287 with z | z
                  · obtain rfl : m = 286 := by omega
                    exact xi_ok286 pc
                  · obtain rfl : m = 287 := by omega
                    exact xi_ok287 pc
          · rcases Nat.lt_or_ge m 295 with z | z
            · rcases Nat.lt_or_ge m 291 with z | z
              · rcases Nat.lt_or_ge m 289 with z | z
                · obtain rfl : m = 288 := by omega
                  exact xi_ok288 pc
                · rcases Nat.lt_or_ge m 290 with z | z
                  · obtain rfl : m = 289 := by omega
                    exact xi_ok289 pc
                  · obtain rfl : m = 290 := by omega
                    exact xi_ok290 pc
              · rcases Nat.lt_or_ge m 293 with z | z
                · rcases Nat.lt_or_ge m 292 with z | z
                  · obtain rfl : m = 291 := by omega
                    exact xi_ok291 pc
                  · obtain rfl : m = 292 := by omega
                    exact xi_ok292 pc
                · rcases Nat.lt_or_ge m 294 with z | z
                  · obtain rfl : m = 293 := by omega
                    exact xi_ok293 pc
                  · obtain rfl : m = 294 := by omega
                    exact xi_ok294 pc
            · rcases Nat.lt_or_ge m 298 with z | z
              · rcases Nat.lt_or_ge m 296 with z | z
                · obtain rfl : m = 295 := by omega
                  exact xi_ok295 pc
                · rcases Nat.lt_or_ge m 297 with z | z
                  · obtain rfl : m = 296 := by omega
                    exact xi_ok296 pc
                  · obtain rfl : m = 297 := by omega
                    exact xi_ok297 pc
              · rcases Nat.lt_or_ge m 300 with z | z
                · rcases Nat.lt_or_ge m 299 with z | z
                  · obtain rfl : m = 298 := by omega
                    exact xi_ok298 pc
                  · obtain rfl : m = 299 := by omega
                    exact xi_ok299 pc
                · rcases Nat.lt_or_ge m 301 with z | z
                  · obtain rfl : m = 300 := by omega
                    exact xi_ok300 pc
                  · obtain rfl : m = 301 := by omega
                    exact xi_ok301 pc
        · rcases Nat.lt_or_ge m 316 with z | z
          · rcases Nat.lt_or_ge m 309 with z | z
            · rcases Nat.lt_or_ge m 305 with z | z
              · rcases Nat.lt_or_ge m 303 with z | z
                · obtain rfl : m = 302 := by omega
                  exact xi_ok302 pc
                · rcases Nat.lt_or_ge m 304 with z | z
                  · obtain rfl : m = 303 := by omega
                    exact xi_ok303 pc
                  · obtain rfl : m = 304 := by omega
                    exact xi_ok304 pc
              · rcases Nat.lt_or_ge m 307 with z | z
                · rcases Nat.lt_or_ge m 306 with z | z
                  · obtain rfl : m = 305 := by omega
                    exact xi_ok305 pc
                  · obtain rfl : m = 306 := by omega
                    exact xi_ok306 pc
                · rcases Nat.lt_or_ge m 308 with z | z
                  · obtain rfl : m = 307 := by omega
                    exact xi_ok307 pc
                  · obtain rfl : m = 308 := by omega
                    exact xi_ok308 pc
            · rcases Nat.lt_or_ge m 312 with z | z
              · rcases Nat.lt_or_ge m 310 with z | z
                · obtain rfl : m = 309 := by omega
                  exact xi_ok309 pc
                · rcases Nat.lt_or_ge m 311 with z | z
                  · obtain rfl : m = 310 := by omega
                    exact xi_ok310 pc
                  · obtain rfl : m = 311 := by omega
                    exact xi_ok311 pc
              · rcases Nat.lt_or_ge m 314 with z | z
                · rcases Nat.lt_or_ge m 313 with z | z
                  · obtain rfl : m = 312 := by omega
                    exact xi_ok312 pc
                  · obtain rfl : m = 313 := by omega
                    exact xi_ok313 pc
                · rcases Nat.lt_or_ge m 315 with z | z
                  · obtain rfl : m = 314 := by omega
                    exact xi_ok314 pc
                  · obtain rfl : m = 315 := by omega
                    exact xi_ok315 pc
          · rcases Nat.lt_or_ge m 323 with z | z
            · rcases Nat.lt_or_ge m 319 with z | z
              · rcases Nat.lt_or_ge m 317 with z | z
                · obtain rfl : m = 316 := by omega
                  exact xi_ok316 pc
                · rcases Nat.lt_or_ge m 318 with z | z
                  · obtain rfl : m = 317 := by omega
                    exact xi_ok317 pc
                  · obtain rfl : m = 318 := by omega
                    exact xi_ok318 pc
              · rcases Nat.lt_or_ge m 321 with z | z
                · rcases Nat.lt_or_ge m 320 with z | z
                  · obtain rfl : m = 319 := by omega
                    exact xi_ok319 pc
                  · obtain rfl : m = 320 := by omega
                    exact xi_ok320 pc
                · rcases Nat.lt_or_ge m 322 with z | z
                  · obtain rfl : m = 321 := by omega
                    exact xi_ok321 pc
                  · obtain rfl : m = 322 := by omega
                    exact xi_ok322 pc
            · rcases Nat.lt_or_ge m 326 with z | z
              · rcases Nat.lt_or_ge m 324 with z | z
                · obtain rfl : m = 323 := by omega
                  exact xi_ok323 pc
                · rcases Nat.lt_or_ge m 325 with z | z
                  · obtain rfl : m = 324 := by omega
                    exact xi_ok324 pc
                  · obtain rfl : m = 325 := by omega
                    exact xi_ok325 pc
              · rcases Nat.lt_or_ge m 328 with z | z
                · rcases Nat.lt_or_ge m 327 with z | z
                  · obtain rfl : m = 326 := by omega
                    exact xi_ok326 pc
                  · obtain rfl : m = 327 := by omega
                    exact xi_ok327 pc
                · rcases Nat.lt_or_ge m 329 with z | z
                  · obtain rfl : m = 328 := by omega
                    exact xi_ok328 pc
                  · obtain rfl : m = 329 := by omega
                    exact xi_ok329 pc
    · rcases Nat.lt_or_ge m 385 with z | z
      · rcases Nat.lt_or_ge m 357 with z | z
        · rcases Nat.lt_or_ge m 343 with z | z
          · rcases Nat.lt_or_ge m 336 with z | z
            · rcases Nat.lt_or_ge m 333 with z | z
              · rcases Nat.lt_or_ge m 331 with z | z
                · obtain rfl : m = 330 := by omega
                  exact xi_ok330 pc
                · rcases Nat.lt_or_ge m 332 with z | z
                  · obtain rfl : m = 331 := by omega
                    exact xi_ok331 pc
                  · obtain rfl : m = 332 := by omega
                    exact xi_ok332 pc
              · rcases Nat.lt_or_ge m 334 with z | z
                · obtain rfl : m = 333 := by omega
                  exact xi_ok333 pc
                · rcases Nat.lt_or_ge m 335 with z | z
                  · obtain rfl : m = 334 := by omega
                    exact xi_ok334 pc
                  · obtain rfl : m = 335 := by omega
                    exact xi_ok335 pc
            · rcases Nat.lt_or_ge m 339 with z | z
              · rcases Nat.lt_or_ge m 337 with z | z
                · obtain rfl : m = 336 := by omega
                  exact xi_ok336 pc
                · rcases Nat.lt_or_ge m 338 with z | z
                  · obtain rfl : m = 337 := by omega
                    exact xi_ok337 pc
                  · obtain rfl : m = 338 := by omega
                    exact xi_ok338 pc
              · rcases Nat.lt_or_ge m 341 with z | z
                · rcases Nat.lt_or_ge m 340 with z | z
                  · obtain rfl : m = 339 := by omega
                    exact xi_ok339 pc
                  · obtain rfl : m = 340 := by omega
                    exact xi_ok340 pc
                · rcases Nat.lt_or_ge m 342 with z | z
                  · obtain rfl : m = 341 := by omega
                    exact xi_ok341 pc
                  · obtain rfl : m = 342 := by omega
                    exact xi_ok342 pc
          · rcases Nat.lt_or_ge m 350 with z | z
            · rcases Nat.lt_or_ge m 346 with z | z
              · rcases Nat.lt_or_ge m 344 with z | z
                · obtain rfl : m = 343 := by omega
                  exact xi_ok343 pc
                · rcases Nat.lt_or_ge m 345 with z | z
                  · obtain rfl : m = 344 := by omega
                    exact xi_ok344 pc
                  · obtain rfl : m = 345 := by omega
                    exact xi_ok345 pc
              · rcases Nat.lt_or_ge m 348 with z | z
                · rcases Nat.lt_or_ge m 347 with z | z
                  · obtain rfl : m = 346 := by omega
                    exact xi_ok346 pc
                  · obtain rfl : m = 347 := by omega
                    exact xi_ok347 pc
                · rcases Nat.lt_or_ge m 349 with z | z
                  · obtain rfl : m = 348 := by omega
                    exact xi_ok348 pc
                  · obtain rfl : m = 349 := by omega
                    exact xi_ok349 pc
            · rcases Nat.lt_or_ge m 353 with z | z
              · rcases Nat.lt_or_ge m 351 with z | z
                · obtain rfl : m = 350 := by omega
                  exact xi_ok350 pc
                · rcases Nat.lt_or_ge m 352 with z | z
                  · obtain rfl : m = 351 := by omega
                    exact xi_ok351 pc
                  · obtain rfl : m = 352 := by omega
                    exact xi_ok352 pc
              · rcases Nat.lt_or_ge m 355 with z | z
                · rcases Nat.lt_or_ge m 354 with z | z
                  · obtain rfl : m = 353 := by omega
                    exact xi_ok353 pc
                  · obtain rfl : m = 354 := by omega
                    exact xi_ok354 pc
                · rcases Nat.lt_or_ge m 356 with z | z
                  · obtain rfl : m = 355 := by omega
                    exact xi_ok355 pc
                  · obtain rfl : m = 356 := by omega
                    exact xi_ok356 pc
        · rcases Nat.lt_or_ge m 371 with z | z
          · rcases Nat.lt_or_ge m 364 with z | z
            · rcases Nat.lt_or_ge m 360 with z | z
              · rcases Nat.lt_or_ge m 358 with z | z
                · obtain rfl : m = 357 := by omega
                  exact xi_ok357 pc
                · rcases Nat.lt_or_ge m 359 with z | z
                  · obtain rfl : m = 358 := by omega
                    exact xi_ok358 pc
                  · obtain rfl : m = 359 := by omega
                    exact xi_ok359 pc
              · rcases Nat.lt_or_ge m 362 with z | z
                · rcases Nat.lt_or_ge m 361 with z | z
                  · obtain rfl : m = 360 := by omega
                    exact xi_ok360 pc
                  · obtain rfl : m = 361 := by omega
                    exact xi_ok361 pc
                · rcases Nat.lt_or_ge m 363 with z | z
                  · obtain rfl : m = 362 := by omega
                    exact xi_ok362 pc
                  · obtain rfl : m = 363 := by omega
                    exact xi_ok363 pc
            · rcases Nat.lt_or_ge m 367 with z | z
              · rcases Nat.lt_or_ge m 365 with z | z
                · obtain rfl : m = 364 := by omega
                  exact xi_ok364 pc
                · rcases Nat.lt_or_ge m 366 with z | z
                  · obtain rfl : m = 365 := by omega
                    exact xi_ok365 pc
                  · obtain rfl : m = 366 := by omega
                    exact xi_ok366 pc
              · rcases Nat.lt_or_ge m 369 with z | z
                · rcases Nat.lt_or_ge m 368 with z | z
                  · obtain rfl : m = 367 := by omega
                    exact xi_ok367 pc
                  · obtain rfl : m = 368 := by omega
                    exact xi_ok368 pc
                · rcases Nat.lt_or_ge m 370 with z | z
                  · obtain rfl : m = 369 := by omega
                    exact xi_ok369 pc
                  · obtain rfl : m = 370 := by omega
                    exact xi_ok370 pc
          · rcases Nat.lt_or_ge m 378 with z | z
            · rcases Nat.lt_or_ge m 374 with z | z
              · rcases Nat.lt_or_ge m 372 with z | z
                · obtain rfl : m = 371 := by omega
                  exact xi_ok371 pc
                · rcases Nat.lt_or_ge m 373 with z | z
                  · obtain rfl : m = 372 := by omega
                    exact xi_ok372 pc
                  · obtain rfl : m = 373 := by omega
                    exact xi_ok373 pc
              · rcases Nat.lt_or_ge m 376 with z | z
                · rcases Nat.lt_or_ge m 375 with z | z
                  · obtain rfl : m = 374 := by omega
                    exact xi_ok374 pc
                  · obtain rfl : m = 375 := by omega
                    exact xi_ok375 pc
                · rcases Nat.lt_or_ge m 377 with z | z
                  · obtain rfl : m = 376 := by omega
                    exact xi_ok376 pc
                  · obtain rfl : m = 377 := by omega
                    exact xi_ok377 pc
            · rcases Nat.lt_or_ge m 381 with z | z
              · rcases Nat.lt_or_ge m 379 with z | z
                · obtain rfl : m = 378 := by omega
                  exact xi_ok378 pc
                · rcases Nat.lt_or_ge m 380 with z | z
                  · obtain rfl : m = 379 := by omega
                    exact xi_ok379 pc
                  · obtain rfl : m = 380 := by omega
                    exact xi_ok380 pc
              · rcases Nat.lt_or_ge m 383 with z | z
                · rcases Nat.lt_or_ge m 382 with z | z
                  · obtain rfl : m = 381 := by omega
                    exact xi_ok381 pc
                  · obtain rfl : m = 382 := by omega
                    exact xi_ok382 pc
                · rcases Nat.lt_or_ge m 384 with z | z
                  · obtain rfl : m = 383 := by omega
                    exact xi_ok383 pc
                  · obtain rfl : m = 384 := by omega
                    exact xi_ok384 pc
      · rcases Nat.lt_or_ge m 412 with z | z
        · rcases Nat.lt_or_ge m 398 with z | z
          · rcases Nat.lt_or_ge m 391 with z | z
            · rcases Nat.lt_or_ge m 388 with z | z
              · rcases Nat.lt_or_ge m 386 with z | z
                · obtain rfl : m = 385 := by omega
                  exact xi_ok385 pc
                · rcases Nat.lt_or_ge m 387 with z | z
                  · obtain rfl : m = 386 := by omega
                    exact xi_ok386 pc
                  · obtain rfl : m = 387 := by omega
                    exact xi_ok387 pc
              · rcases Nat.lt_or_ge m 389 with z | z
                · obtain rfl : m = 388 := by omega
                  exact xi_ok388 pc
                · rcases Nat.lt_or_ge m 390 with z | z
                  · obtain rfl : m = 389 := by omega
                    exact xi_ok389 pc
                  · obtain rfl : m = 390 := by omega
                    exact xi_ok390 pc
            · rcases Nat.lt_or_ge m 394 with z | z
              · rcases Nat.lt_or_ge m 392 with z | z
                · obtain rfl : m = 391 := by omega
                  exact xi_ok391 pc
                · rcases Nat.lt_or_ge m 393 with z | z
                  · obtain rfl : m = 392 := by omega
                    exact xi_ok392 pc
                  · obtain rfl : m = 393 := by omega
                    exact xi_ok393 pc
              · rcases Nat.lt_or_ge m 396 with z | z
                · rcases Nat.lt_or_ge m 395 with z | z
                  · obtain rfl : m = 394 := by omega
                    exact xi_ok394 pc
                  · obtain rfl : m = 395 := by omega
                    exact xi_ok395 pc
                · rcases Nat.lt_or_ge m 397 with z | z
                  · obtain rfl : m = 396 := by omega
                    exact xi_ok396 pc
                  · obtain rfl : m = 397 := by omega
                    exact xi_ok397 pc
          · rcases Nat.lt_or_ge m 405 with z | z
            · rcases Nat.lt_or_ge m 401 with z | z
              · rcases Nat.lt_or_ge m 399 with z | z
                · obtain rfl : m = 398 := by omega
                  exact xi_ok398 pc
                · rcases Nat.lt_or_ge m 400 with z | z
                  · obtain rfl : m = 399 := by omega
                    exact xi_ok399 pc
                  · obtain rfl : m = 400 := by omega
                    exact xi_ok400 pc
              · rcases Nat.lt_or_ge m 403 with z | z
                · rcases Nat.lt_or_ge m 402 with z | z
                  · obtain rfl : m = 401 := by omega
                    exact xi_ok401 pc
                  · obtain rfl : m = 402 := by omega
                    exact xi_ok402 pc
                · rcases Nat.lt_or_ge m 404 with z | z
                  · obtain rfl : m = 403 := by omega
                    exact xi_ok403 pc
                  · obtain rfl : m = 404 := by omega
                    exact xi_ok404 pc
            · rcases Nat.lt_or_ge m 408 with z | z
              · rcases Nat.lt_or_ge m 406 with z | z
                · obtain rfl : m = 405 := by omega
                  exact xi_ok405 pc
                · rcases Nat.lt_or_ge m 407 with z | z
                  · obtain rfl : m = 406 := by omega
                    exact xi_ok406 pc
                  · obtain rfl : m = 407 := by omega
                    exact xi_ok407 pc
              · rcases Nat.lt_or_ge m 410 with z | z
                · rcases Nat.lt_or_ge m 409 with z | z
                  · obtain rfl : m = 408 := by omega
                    exact xi_ok408 pc
                  · obtain rfl : m = 409 := by omega
                    exact xi_ok409 pc
                · rcases Nat.lt_or_ge m 411 with z | z
                  · obtain rfl : m = 410 := by omega
                    exact xi_ok410 pc
                  · obtain rfl : m = 411 := by omega
                    exact xi_ok411 pc
        · rcases Nat.lt_or_ge m 426 with z | z
          · rcases Nat.lt_or_ge m 419 with z | z
            · rcases Nat.lt_or_ge m 415 with z | z
              · rcases Nat.lt_or_ge m 413 with z | z
                · obtain rfl : m = 412 := by omega
                  exact xi_ok412 pc
                · rcases Nat.lt_or_ge m 414 with z | z
                  · obtain rfl : m = 413 := by omega
                    exact xi_ok413 pc
                  · obtain rfl : m = 414 := by omega
                    exact xi_ok414 pc
              · rcases Nat.lt_or_ge m 417 with z | z
                · rcases Nat.lt_or_ge m 416 with z | z
                  · obtain rfl : m = 415 := by omega
                    exact xi_ok415 pc
                  · obtain rfl : m = 416 := by omega
                    exact xi_ok416 pc
                · rcases Nat.lt_or_ge m 418 with z | z
                  · obtain rfl : m = 417 := by omega
                    exact xi_ok417 pc
                  · obtain rfl : m = 418 := by omega
                    exact xi_ok418 pc
            · rcases Nat.lt_or_ge m 422 with z | z
              · rcases Nat.lt_or_ge m 420 with z | z
                · obtain rfl : m = 419 := by omega
                  exact xi_ok419 pc
                · rcases Nat.lt_or_ge m 421 with z | z
                  · obtain rfl : m = 420 := by omega
                    exact xi_ok420 pc
                  · obtain rfl : m = 421 := by omega
                    exact xi_ok421 pc
              · rcases Nat.lt_or_ge m 424 with z | z
                · rcases Nat.lt_or_ge m 423 with z | z
                  · obtain rfl : m = 422 := by omega
                    exact xi_ok422 pc
                  · obtain rfl : m = 423 := by omega
                    exact xi_ok423 pc
                · rcases Nat.lt_or_ge m 425 with z | z
                  · obtain rfl : m = 424 := by omega
                    exact xi_ok424 pc
                  · obtain rfl : m = 425 := by omega
                    exact xi_ok425 pc
          · rcases Nat.lt_or_ge m 433 with z | z
            · rcases Nat.lt_or_ge m 429 with z | z
              · rcases Nat.lt_or_ge m 427 with z | z
                · obtain rfl : m = 426 := by omega
                  exact xi_ok426 pc
                · rcases Nat.lt_or_ge m 428 with z | z
                  · obtain rfl : m = 427 := by omega
                    exact xi_ok427 pc
                  · obtain rfl : m = 428 := by omega
                    exact xi_ok428 pc
              · rcases Nat.lt_or_ge m 431 with z | z
                · rcases Nat.lt_or_ge m 430 with z | z
                  · obtain rfl : m = 429 := by omega
                    exact xi_ok429 pc
                  · obtain rfl : m = 430 := by omega
                    exact xi_ok430 pc
                · rcases Nat.lt_or_ge m 432 with z | z
                  · obtain rfl : m = 431 := by omega
                    exact xi_ok431 pc
                  · obtain rfl : m = 432 := by omega
                    exact xi_ok432 pc
            · rcases Nat.lt_or_ge m 436 with z | z
              · rcases Nat.lt_or_ge m 434 with z | z
                · obtain rfl : m = 433 := by omega
                  exact xi_ok433 pc
                · rcases Nat.lt_or_ge m 435 with z | z
                  · obtain rfl : m = 434 := by omega
                    exact xi_ok434 pc
                  · obtain rfl : m = 435 := by omega
                    exact xi_ok435 pc
              · rcases Nat.lt_or_ge m 438 with z | z
                · rcases Nat.lt_or_ge m 437 with z | z
                  · obtain rfl : m = 436 := by omega
                    exact xi_ok436 pc
                  · obtain rfl : m = 437 := by omega
                    exact xi_ok437 pc
                · rcases Nat.lt_or_ge m 439 with z | z
                  · obtain rfl : m = 438 := by omega
                    exact xi_ok438 pc
                  · obtain rfl : m = 439 := by omega
                    exact xi_ok439 pc
def xm_n : Nat := 440
set_option maxRecDepth 100000 in
theorem xo_all : (List.range 440).all (fun m => decide (xo m < 21)) = true := by decide +kernel
theorem xm_any {l : List (Nat × Nat)} {m : Nat} (h : l.any (fun q => Nat.beq q.1 m) = true) : ∃ g, (m, g) ∈ l := by
  obtain ⟨q, h1, h2⟩ := List.any_eq_true.mp h
  have e := Nat.eq_of_beq_eq_true h2
  exact ⟨q.2, by rw [← e]; exact h1⟩
set_option maxHeartbeats 4000000 in
set_option maxRecDepth 100000 in
theorem xmc_all {m : Nat} (h0 : 0 < m) (h : m < 440) : (if xk m = 0 then Cond.code (xy m) (xc m) (xn m) (xr m) else Cond.codeWith (xy m) (xc m) (xn m) (xr m) (xh m)) ∈ am_T := by
  rcases Nat.lt_or_ge m 220 with z | z
  · rcases Nat.lt_or_ge m 110 with z | z
    · rcases Nat.lt_or_ge m 55 with z | z
      · rcases Nat.lt_or_ge m 28 with z | z
        · rcases Nat.lt_or_ge m 14 with z | z
          · rcases Nat.lt_or_ge m 7 with z | z
            · rcases Nat.lt_or_ge m 4 with z | z
              · rcases Nat.lt_or_ge m 2 with z | z
                · obtain rfl : m = 1 := by omega
                  exact xmc1
                · rcases Nat.lt_or_ge m 3 with z | z
                  · obtain rfl : m = 2 := by omega
                    exact xmc2
                  · obtain rfl : m = 3 := by omega
                    exact xmc3
              · rcases Nat.lt_or_ge m 5 with z | z
                · obtain rfl : m = 4 := by omega
                  exact xmc4
                · rcases Nat.lt_or_ge m 6 with z | z
                  · obtain rfl : m = 5 := by omega
                    exact xmc5
                  · obtain rfl : m = 6 := by omega
                    exact xmc6
            · rcases Nat.lt_or_ge m 10 with z | z
              · rcases Nat.lt_or_ge m 8 with z | z
                · obtain rfl : m = 7 := by omega
                  exact xmc7
                · rcases Nat.lt_or_ge m 9 with z | z
                  · obtain rfl : m = 8 := by omega
                    exact xmc8
                  · obtain rfl : m = 9 := by omega
                    exact xmc9
              · rcases Nat.lt_or_ge m 12 with z | z
                · rcases Nat.lt_or_ge m 11 with z | z
                  · obtain rfl : m = 10 := by omega
                    exact xmc10
                  · obtain rfl : m = 11 := by omega
                    exact xmc11
                · rcases Nat.lt_or_ge m 13 with z | z
                  · obtain rfl : m = 12 := by omega
                    exact xmc12
                  · obtain rfl : m = 13 := by omega
                    exact xmc13
          · rcases Nat.lt_or_ge m 21 with z | z
            · rcases Nat.lt_or_ge m 17 with z | z
              · rcases Nat.lt_or_ge m 15 with z | z
                · obtain rfl : m = 14 := by omega
                  exact xmc14
                · rcases Nat.lt_or_ge m 16 with z | z
                  · obtain rfl : m = 15 := by omega
                    exact xmc15
                  · obtain rfl : m = 16 := by omega
                    exact xmc16
              · rcases Nat.lt_or_ge m 19 with z | z
                · rcases Nat.lt_or_ge m 18 with z | z
                  · obtain rfl : m = 17 := by omega
                    exact xmc17
                  · obtain rfl : m = 18 := by omega
                    exact xmc18
                · rcases Nat.lt_or_ge m 20 with z | z
                  · obtain rfl : m = 19 := by omega
                    exact xmc19
                  · obtain rfl : m = 20 := by omega
                    exact xmc20
            · rcases Nat.lt_or_ge m 24 with z | z
              · rcases Nat.lt_or_ge m 22 with z | z
                · obtain rfl : m = 21 := by omega
                  exact xmc21
                · rcases Nat.lt_or_ge m 23 with z | z
                  · obtain rfl : m = 22 := by omega
                    exact xmc22
                  · obtain rfl : m = 23 := by omega
                    exact xmc23
              · rcases Nat.lt_or_ge m 26 with z | z
                · rcases Nat.lt_or_ge m 25 with z | z
                  · obtain rfl : m = 24 := by omega
                    exact xmc24
                  · obtain rfl : m = 25 := by omega
                    exact xmc25
                · rcases Nat.lt_or_ge m 27 with z | z
                  · obtain rfl : m = 26 := by omega
                    exact xmc26
                  · obtain rfl : m = 27 := by omega
                    exact xmc27
        · rcases Nat.lt_or_ge m 41 with z | z
          · rcases Nat.lt_or_ge m 34 with z | z
            · rcases Nat.lt_or_ge m 31 with z | z
              · rcases Nat.lt_or_ge m 29 with z | z
                · obtain rfl : m = 28 := by omega
                  exact xmc28
                · rcases Nat.lt_or_ge m 30 with z | z
                  · obtain rfl : m = 29 := by omega
                    exact xmc29
                  · obtain rfl : m = 30 := by omega
                    exact xmc30
              · rcases Nat.lt_or_ge m 32 with z | z
                · obtain rfl : m = 31 := by omega
                  exact xmc31
                · rcases Nat.lt_or_ge m 33 with z | z
                  · obtain rfl : m = 32 := by omega
                    exact xmc32
                  · obtain rfl : m = 33 := by omega
                    exact xmc33
            · rcases Nat.lt_or_ge m 37 with z | z
              · rcases Nat.lt_or_ge m 35 with z | z
                · obtain rfl : m = 34 := by omega
                  exact xmc34
                · rcases Nat.lt_or_ge m 36 with z | z
                  · obtain rfl : m = 35 := by omega
                    exact xmc35
                  · obtain rfl : m = 36 := by omega
                    exact xmc36
              · rcases Nat.lt_or_ge m 39 with z | z
                · rcases Nat.lt_or_ge m 38 with z | z
                  · obtain rfl : m = 37 := by omega
                    exact xmc37
                  · obtain rfl : m = 38 := by omega
                    exact xmc38
                · rcases Nat.lt_or_ge m 40 with z | z
                  · obtain rfl : m = 39 := by omega
                    exact xmc39
                  · obtain rfl : m = 40 := by omega
                    exact xmc40
          · rcases Nat.lt_or_ge m 48 with z | z
            · rcases Nat.lt_or_ge m 44 with z | z
              · rcases Nat.lt_or_ge m 42 with z | z
                · obtain rfl : m = 41 := by omega
                  exact xmc41
                · rcases Nat.lt_or_ge m 43 with z | z
                  · obtain rfl : m = 42 := by omega
                    exact xmc42
                  · obtain rfl : m = 43 := by omega
                    exact xmc43
              · rcases Nat.lt_or_ge m 46 with z | z
                · rcases Nat.lt_or_ge m 45 with z | z
                  · obtain rfl : m = 44 := by omega
                    exact xmc44
                  · obtain rfl : m = 45 := by omega
                    exact xmc45
                · rcases Nat.lt_or_ge m 47 with z | z
                  · obtain rfl : m = 46 := by omega
                    exact xmc46
                  · obtain rfl : m = 47 := by omega
                    exact xmc47
            · rcases Nat.lt_or_ge m 51 with z | z
              · rcases Nat.lt_or_ge m 49 with z | z
                · obtain rfl : m = 48 := by omega
                  exact xmc48
                · rcases Nat.lt_or_ge m 50 with z | z
                  · obtain rfl : m = 49 := by omega
                    exact xmc49
                  · obtain rfl : m = 50 := by omega
                    exact xmc50
              · rcases Nat.lt_or_ge m 53 with z | z
                · rcases Nat.lt_or_ge m 52 with z | z
                  · obtain rfl : m = 51 := by omega
                    exact xmc51
                  · obtain rfl : m = 52 := by omega
                    exact xmc52
                · rcases Nat.lt_or_ge m 54 with z | z
                  · obtain rfl : m = 53 := by omega
                    exact xmc53
                  · obtain rfl : m = 54 := by omega
                    exact xmc54
      · rcases Nat.lt_or_ge m 82 with z | z
        · rcases Nat.lt_or_ge m 68 with z | z
          · rcases Nat.lt_or_ge m 61 with z | z
            · rcases Nat.lt_or_ge m 58 with z | z
              · rcases Nat.lt_or_ge m 56 with z | z
                · obtain rfl : m = 55 := by omega
                  exact xmc55
                · rcases Nat.lt_or_ge m 57 with z | z
                  · obtain rfl : m = 56 := by omega
                    exact xmc56
                  · obtain rfl : m = 57 := by omega
                    exact xmc57
              · rcases Nat.lt_or_ge m 59 with z | z
                · obtain rfl : m = 58 := by omega
                  exact xmc58
                · rcases Nat.lt_or_ge m 60 with z | z
                  · obtain rfl : m = 59 := by omega
                    exact xmc59
                  · obtain rfl : m = 60 := by omega
                    exact xmc60
            · rcases Nat.lt_or_ge m 64 with z | z
              · rcases Nat.lt_or_ge m 62 with z | z
                · obtain rfl : m = 61 := by omega
                  exact xmc61
                · rcases Nat.lt_or_ge m 63 with z | z
                  · obtain rfl : m = 62 := by omega
                    exact xmc62
                  · obtain rfl : m = 63 := by omega
                    exact xmc63
              · rcases Nat.lt_or_ge m 66 with z | z
                · rcases Nat.lt_or_ge m 65 with z | z
                  · obtain rfl : m = 64 := by omega
                    exact xmc64
                  · obtain rfl : m = 65 := by omega
                    exact xmc65
                · rcases Nat.lt_or_ge m 67 with z | z
                  · obtain rfl : m = 66 := by omega
                    exact xmc66
                  · obtain rfl : m = 67 := by omega
                    exact xmc67
          · rcases Nat.lt_or_ge m 75 with z | z
            · rcases Nat.lt_or_ge m 71 with z | z
              · rcases Nat.lt_or_ge m 69 with z | z
                · obtain rfl : m = 68 := by omega
                  exact xmc68
                · rcases Nat.lt_or_ge m 70 with z | z
                  · obtain rfl : m = 69 := by omega
                    exact xmc69
                  · obtain rfl : m = 70 := by omega
                    exact xmc70
              · rcases Nat.lt_or_ge m 73 with z | z
                · rcases Nat.lt_or_ge m 72 with z | z
                  · obtain rfl : m = 71 := by omega
                    exact xmc71
                  · obtain rfl : m = 72 := by omega
                    exact xmc72
                · rcases Nat.lt_or_ge m 74 with z | z
                  · obtain rfl : m = 73 := by omega
                    exact xmc73
                  · obtain rfl : m = 74 := by omega
                    exact xmc74
            · rcases Nat.lt_or_ge m 78 with z | z
              · rcases Nat.lt_or_ge m 76 with z | z
                · obtain rfl : m = 75 := by omega
                  exact xmc75
                · rcases Nat.lt_or_ge m 77 with z | z
                  · obtain rfl : m = 76 := by omega
                    exact xmc76
                  · obtain rfl : m = 77 := by omega
                    exact xmc77
              · rcases Nat.lt_or_ge m 80 with z | z
                · rcases Nat.lt_or_ge m 79 with z | z
                  · obtain rfl : m = 78 := by omega
                    exact xmc78
                  · obtain rfl : m = 79 := by omega
                    exact xmc79
                · rcases Nat.lt_or_ge m 81 with z | z
                  · obtain rfl : m = 80 := by omega
                    exact xmc80
                  · obtain rfl : m = 81 := by omega
                    exact xmc81
        · rcases Nat.lt_or_ge m 96 with z | z
          · rcases Nat.lt_or_ge m 89 with z | z
            · rcases Nat.lt_or_ge m 85 with z | z
              · rcases Nat.lt_or_ge m 83 with z | z
                · obtain rfl : m = 82 := by omega
                  exact xmc82
                · rcases Nat.lt_or_ge m 84 with z | z
                  · obtain rfl : m = 83 := by omega
                    exact xmc83
                  · obtain rfl : m = 84 := by omega
                    exact xmc84
              · rcases Nat.lt_or_ge m 87 with z | z
                · rcases Nat.lt_or_ge m 86 with z | z
                  · obtain rfl : m = 85 := by omega
                    exact xmc85
                  · obtain rfl : m = 86 := by omega
                    exact xmc86
                · rcases Nat.lt_or_ge m 88 with z | z
                  · obtain rfl : m = 87 := by omega
                    exact xmc87
                  · obtain rfl : m = 88 := by omega
                    exact xmc88
            · rcases Nat.lt_or_ge m 92 with z | z
              · rcases Nat.lt_or_ge m 90 with z | z
                · obtain rfl : m = 89 := by omega
                  exact xmc89
                · rcases Nat.lt_or_ge m 91 with z | z
                  · obtain rfl : m = 90 := by omega
                    exact xmc90
                  · obtain rfl : m = 91 := by omega
                    exact xmc91
              · rcases Nat.lt_or_ge m 94 with z | z
                · rcases Nat.lt_or_ge m 93 with z | z
                  · obtain rfl : m = 92 := by omega
                    exact xmc92
                  · obtain rfl : m = 93 := by omega
                    exact xmc93
                · rcases Nat.lt_or_ge m 95 with z | z
                  · obtain rfl : m = 94 := by omega
                    exact xmc94
                  · obtain rfl : m = 95 := by omega
                    exact xmc95
          · rcases Nat.lt_or_ge m 103 with z | z
            · rcases Nat.lt_or_ge m 99 with z | z
              · rcases Nat.lt_or_ge m 97 with z | z
                · obtain rfl : m = 96 := by omega
                  exact xmc96
                · rcases Nat.lt_or_ge m 98 with z | z
                  · obtain rfl : m = 97 := by omega
                    exact xmc97
                  · obtain rfl : m = 98 := by omega
                    exact xmc98
              · rcases Nat.lt_or_ge m 101 with z | z
                · rcases Nat.lt_or_ge m 100 with z | z
                  · obtain rfl : m = 99 := by omega
                    exact xmc99
                  · obtain rfl : m = 100 := by omega
                    exact xmc100
                · rcases Nat.lt_or_ge m 102 with z | z
                  · obtain rfl : m = 101 := by omega
                    exact xmc101
                  · obtain rfl : m = 102 := by omega
                    exact xmc102
            · rcases Nat.lt_or_ge m 106 with z | z
              · rcases Nat.lt_or_ge m 104 with z | z
                · obtain rfl : m = 103 := by omega
                  exact xmc103
                · rcases Nat.lt_or_ge m 105 with z | z
                  · obtain rfl : m = 104 := by omega
                    exact xmc104
                  · obtain rfl : m = 105 := by omega
                    exact xmc105
              · rcases Nat.lt_or_ge m 108 with z | z
                · rcases Nat.lt_or_ge m 107 with z | z
                  · obtain rfl : m = 106 := by omega
                    exact xmc106
                  · obtain rfl : m = 107 := by omega
                    exact xmc107
                · rcases Nat.lt_or_ge m 109 with z | z
                  · obtain rfl : m = 108 := by omega
                    exact xmc108
                  · obtain rfl : m = 109 := by omega
                    exact xmc109
    · rcases Nat.lt_or_ge m 165 with z | z
      · rcases Nat.lt_or_ge m 137 with z | z
        · rcases Nat.lt_or_ge m 123 with z | z
          · rcases Nat.lt_or_ge m 116 with z | z
            · rcases Nat.lt_or_ge m 113 with z | z
              · rcases Nat.lt_or_ge m 111 with z | z
                · obtain rfl : m = 110 := by omega
                  exact xmc110
                · rcases Nat.lt_or_ge m 112 with z | z
                  · obtain rfl : m = 111 := by omega
                    exact xmc111
                  · obtain rfl : m = 112 := by omega
                    exact xmc112
              · rcases Nat.lt_or_ge m 114 with z | z
                · obtain rfl : m = 113 := by omega
                  exact xmc113
                · rcases Nat.lt_or_ge m 115 with z | z
                  · obtain rfl : m = 114 := by omega
                    exact xmc114
                  · obtain rfl : m = 115 := by omega
                    exact xmc115
            · rcases Nat.lt_or_ge m 119 with z | z
              · rcases Nat.lt_or_ge m 117 with z | z
                · obtain rfl : m = 116 := by omega
                  exact xmc116
                · rcases Nat.lt_or_ge m 118 with z | z
                  · obtain rfl : m = 117 := by omega
                    exact xmc117
                  · obtain rfl : m = 118 := by omega
                    exact xmc118
              · rcases Nat.lt_or_ge m 121 with z | z
                · rcases Nat.lt_or_ge m 120 with z | z
                  · obtain rfl : m = 119 := by omega
                    exact xmc119
                  · obtain rfl : m = 120 := by omega
                    exact xmc120
                · rcases Nat.lt_or_ge m 122 with z | z
                  · obtain rfl : m = 121 := by omega
                    exact xmc121
                  · obtain rfl : m = 122 := by omega
                    exact xmc122
          · rcases Nat.lt_or_ge m 130 with z | z
            · rcases Nat.lt_or_ge m 126 with z | z
              · rcases Nat.lt_or_ge m 124 with z | z
                · obtain rfl : m = 123 := by omega
                  exact xmc123
                · rcases Nat.lt_or_ge m 125 with z | z
                  · obtain rfl : m = 124 := by omega
                    exact xmc124
                  · obtain rfl : m = 125 := by omega
                    exact xmc125
              · rcases Nat.lt_or_ge m 128 with z | z
                · rcases Nat.lt_or_ge m 127 with z | z
                  · obtain rfl : m = 126 := by omega
                    exact xmc126
                  · obtain rfl : m = 127 := by omega
                    exact xmc127
                · rcases Nat.lt_or_ge m 129 with z | z
                  · obtain rfl : m = 128 := by omega
                    exact xmc128
                  · obtain rfl : m = 129 := by omega
                    exact xmc129
            · rcases Nat.lt_or_ge m 133 with z | z
              · rcases Nat.lt_or_ge m 131 with z | z
                · obtain rfl : m = 130 := by omega
                  exact xmc130
                · rcases Nat.lt_or_ge m 132 with z | z
                  · obtain rfl : m = 131 := by omega
                    exact xmc131
                  · obtain rfl : m = 132 := by omega
                    exact xmc132
              · rcases Nat.lt_or_ge m 135 with z | z
                · rcases Nat.lt_or_ge m 134 with z | z
                  · obtain rfl : m = 133 := by omega
                    exact xmc133
                  · obtain rfl : m = 134 := by omega
                    exact xmc134
                · rcases Nat.lt_or_ge m 136 with z | z
                  · obtain rfl : m = 135 := by omega
                    exact xmc135
                  · obtain rfl : m = 136 := by omega
                    exact xmc136
        · rcases Nat.lt_or_ge m 151 with z | z
          · rcases Nat.lt_or_ge m 144 with z | z
            · rcases Nat.lt_or_ge m 140 with z | z
              · rcases Nat.lt_or_ge m 138 with z | z
                · obtain rfl : m = 137 := by omega
                  exact xmc137
                · rcases Nat.lt_or_ge m 139 with z | z
                  · obtain rfl : m = 138 := by omega
                    exact xmc138
                  · obtain rfl : m = 139 := by omega
                    exact xmc139
              · rcases Nat.lt_or_ge m 142 with z | z
                · rcases Nat.lt_or_ge m 141 with z | z
                  · obtain rfl : m = 140 := by omega
                    exact xmc140
                  · obtain rfl : m = 141 := by omega
                    exact xmc141
                · rcases Nat.lt_or_ge m 143 with z | z
                  · obtain rfl : m = 142 := by omega
                    exact xmc142
                  · obtain rfl : m = 143 := by omega
                    exact xmc143
            · rcases Nat.lt_or_ge m 147 with z | z
              · rcases Nat.lt_or_ge m 145 with z | z
                · obtain rfl : m = 144 := by omega
                  exact xmc144
                · rcases Nat.lt_or_ge m 146 with z | z
                  · obtain rfl : m = 145 := by omega
                    exact xmc145
                  · obtain rfl : m = 146 := by omega
                    exact xmc146
              · rcases Nat.lt_or_ge m 149 with z | z
                · rcases Nat.lt_or_ge m 148 with z | z
                  · obtain rfl : m = 147 := by omega
                    exact xmc147
                  · obtain rfl : m = 148 := by omega
                    exact xmc148
                · rcases Nat.lt_or_ge m 150 with z | z
                  · obtain rfl : m = 149 := by omega
                    exact xmc149
                  · obtain rfl : m = 150 := by omega
                    exact xmc150
          · rcases Nat.lt_or_ge m 158 with z | z
            · rcases Nat.lt_or_ge m 154 with z | z
              · rcases Nat.lt_or_ge m 152 with z | z
                · obtain rfl : m = 151 := by omega
                  exact xmc151
                · rcases Nat.lt_or_ge m 153 with z | z
                  · obtain rfl : m = 152 := by omega
                    exact xmc152
                  · obtain rfl : m = 153 := by omega
                    exact xmc153
              · rcases Nat.lt_or_ge m 156 with z | z
                · rcases Nat.lt_or_ge m 155 with z | z
                  · obtain rfl : m = 154 := by omega
                    exact xmc154
                  · obtain rfl : m = 155 := by omega
                    exact xmc155
                · rcases Nat.lt_or_ge m 157 with z | z
                  · obtain rfl : m = 156 := by omega
                    exact xmc156
                  · obtain rfl : m = 157 := by omega
                    exact xmc157
            · rcases Nat.lt_or_ge m 161 with z | z
              · rcases Nat.lt_or_ge m 159 with z | z
                · obtain rfl : m = 158 := by omega
                  exact xmc158
                · rcases Nat.lt_or_ge m 160 with z | z
                  · obtain rfl : m = 159 := by omega
                    exact xmc159
                  · obtain rfl : m = 160 := by omega
                    exact xmc160
              · rcases Nat.lt_or_ge m 163 with z | z
                · rcases Nat.lt_or_ge m 162 with z | z
                  · obtain rfl : m = 161 := by omega
                    exact xmc161
                  · obtain rfl : m = 162 := by omega
                    exact xmc162
                · rcases Nat.lt_or_ge m 164 with z | z
                  · obtain rfl : m = 163 := by omega
                    exact xmc163
                  · obtain rfl : m = 164 := by omega
                    exact xmc164
      · rcases Nat.lt_or_ge m 192 with z | z
        · rcases Nat.lt_or_ge m 178 with z | z
          · rcases Nat.lt_or_ge m 171 with z | z
            · rcases Nat.lt_or_ge m 168 with z | z
              · rcases Nat.lt_or_ge m 166 with z | z
                · obtain rfl : m = 165 := by omega
                  exact xmc165
                · rcases Nat.lt_or_ge m 167 with z | z
                  · obtain rfl : m = 166 := by omega
                    exact xmc166
                  · obtain rfl : m = 167 := by omega
                    exact xmc167
              · rcases Nat.lt_or_ge m 169 with z | z
                · obtain rfl : m = 168 := by omega
                  exact xmc168
                · rcases Nat.lt_or_ge m 170 with z | z
                  · obtain rfl : m = 169 := by omega
                    exact xmc169
                  · obtain rfl : m = 170 := by omega
                    exact xmc170
            · rcases Nat.lt_or_ge m 174 with z | z
              · rcases Nat.lt_or_ge m 172 with z | z
                · obtain rfl : m = 171 := by omega
                  exact xmc171
                · rcases Nat.lt_or_ge m 173 with z | z
                  · obtain rfl : m = 172 := by omega
                    exact xmc172
                  · obtain rfl : m = 173 := by omega
                    exact xmc173
              · rcases Nat.lt_or_ge m 176 with z | z
                · rcases Nat.lt_or_ge m 175 with z | z
                  · obtain rfl : m = 174 := by omega
                    exact xmc174
                  · obtain rfl : m = 175 := by omega
                    exact xmc175
                · rcases Nat.lt_or_ge m 177 with z | z
                  · obtain rfl : m = 176 := by omega
                    exact xmc176
                  · obtain rfl : m = 177 := by omega
                    exact xmc177
          · rcases Nat.lt_or_ge m 185 with z | z
            · rcases Nat.lt_or_ge m 181 with z | z
              · rcases Nat.lt_or_ge m 179 with z | z
                · obtain rfl : m = 178 := by omega
                  exact xmc178
                · rcases Nat.lt_or_ge m 180 with z | z
                  · obtain rfl : m = 179 := by omega
                    exact xmc179
                  · obtain rfl : m = 180 := by omega
                    exact xmc180
              · rcases Nat.lt_or_ge m 183 with z | z
                · rcases Nat.lt_or_ge m 182 with z | z
                  · obtain rfl : m = 181 := by omega
                    exact xmc181
                  · obtain rfl : m = 182 := by omega
                    exact xmc182
                · rcases Nat.lt_or_ge m 184 with z | z
                  · obtain rfl : m = 183 := by omega
                    exact xmc183
                  · obtain rfl : m = 184 := by omega
                    exact xmc184
            · rcases Nat.lt_or_ge m 188 with z | z
              · rcases Nat.lt_or_ge m 186 with z | z
                · obtain rfl : m = 185 := by omega
                  exact xmc185
                · rcases Nat.lt_or_ge m 187 with z | z
                  · obtain rfl : m = 186 := by omega
                    exact xmc186
                  · obtain rfl : m = 187 := by omega
                    exact xmc187
              · rcases Nat.lt_or_ge m 190 with z | z
                · rcases Nat.lt_or_ge m 189 with z | z
                  · obtain rfl : m = 188 := by omega
                    exact xmc188
                  · obtain rfl : m = 189 := by omega
                    exact xmc189
                · rcases Nat.lt_or_ge m 191 with z | z
                  · obtain rfl : m = 190 := by omega
                    exact xmc190
                  · obtain rfl : m = 191 := by omega
                    exact xmc191
        · rcases Nat.lt_or_ge m 206 with z | z
          · rcases Nat.lt_or_ge m 199 with z | z
            · rcases Nat.lt_or_ge m 195 with z | z
              · rcases Nat.lt_or_ge m 193 with z | z
                · obtain rfl : m = 192 := by omega
                  exact xmc192
                · rcases Nat.lt_or_ge m 194 with z | z
                  · obtain rfl : m = 193 := by omega
                    exact xmc193
                  · obtain rfl : m = 194 := by omega
                    exact xmc194
              · rcases Nat.lt_or_ge m 197 with z | z
                · rcases Nat.lt_or_ge m 196 with z | z
                  · obtain rfl : m = 195 := by omega
                    exact xmc195
                  · obtain rfl : m = 196 := by omega
                    exact xmc196
                · rcases Nat.lt_or_ge m 198 with z | z
                  · obtain rfl : m = 197 := by omega
                    exact xmc197
                  · obtain rfl : m = 198 := by omega
                    exact xmc198
            · rcases Nat.lt_or_ge m 202 with z | z
              · rcases Nat.lt_or_ge m 200 with z | z
                · obtain rfl : m = 199 := by omega
                  exact xmc199
                · rcases Nat.lt_or_ge m 201 with z | z
                  · obtain rfl : m = 200 := by omega
                    exact xmc200
                  · obtain rfl : m = 201 := by omega
                    exact xmc201
              · rcases Nat.lt_or_ge m 204 with z | z
                · rcases Nat.lt_or_ge m 203 with z | z
                  · obtain rfl : m = 202 := by omega
                    exact xmc202
                  · obtain rfl : m = 203 := by omega
                    exact xmc203
                · rcases Nat.lt_or_ge m 205 with z | z
                  · obtain rfl : m = 204 := by omega
                    exact xmc204
                  · obtain rfl : m = 205 := by omega
                    exact xmc205
          · rcases Nat.lt_or_ge m 213 with z | z
            · rcases Nat.lt_or_ge m 209 with z | z
              · rcases Nat.lt_or_ge m 207 with z | z
                · obtain rfl : m = 206 := by omega
                  exact xmc206
                · rcases Nat.lt_or_ge m 208 with z | z
                  · obtain rfl : m = 207 := by omega
                    exact xmc207
                  · obtain rfl : m = 208 := by omega
                    exact xmc208
              · rcases Nat.lt_or_ge m 211 with z | z
                · rcases Nat.lt_or_ge m 210 with z | z
                  · obtain rfl : m = 209 := by omega
                    exact xmc209
                  · obtain rfl : m = 210 := by omega
                    exact xmc210
                · rcases Nat.lt_or_ge m 212 with z | z
                  · obtain rfl : m = 211 := by omega
                    exact xmc211
                  · obtain rfl : m = 212 := by omega
                    exact xmc212
            · rcases Nat.lt_or_ge m 216 with z | z
              · rcases Nat.lt_or_ge m 214 with z | z
                · obtain rfl : m = 213 := by omega
                  exact xmc213
                · rcases Nat.lt_or_ge m 215 with z | z
                  · obtain rfl : m = 214 := by omega
                    exact xmc214
                  · obtain rfl : m = 215 := by omega
                    exact xmc215
              · rcases Nat.lt_or_ge m 218 with z | z
                · rcases Nat.lt_or_ge m 217 with z | z
                  · obtain rfl : m = 216 := by omega
                    exact xmc216
                  · obtain rfl : m = 217 := by omega
                    exact xmc217
                · rcases Nat.lt_or_ge m 219 with z | z
                  · obtain rfl : m = 218 := by omega
                    exact xmc218
                  · obtain rfl : m = 219 := by omega
                    exact xmc219
  · rcases Nat.lt_or_ge m 330 with z | z
    · rcases Nat.lt_or_ge m 275 with z | z
      · rcases Nat.lt_or_ge m 247 with z | z
        · rcases Nat.lt_or_ge m 233 with z | z
          · rcases Nat.lt_or_ge m 226 with z | z
            · rcases Nat.lt_or_ge m 223 with z | z
              · rcases Nat.lt_or_ge m 221 with z | z
                · obtain rfl : m = 220 := by omega
                  exact xmc220
                · rcases Nat.lt_or_ge m 222 with z | z
                  · obtain rfl : m = 221 := by omega
                    exact xmc221
                  · obtain rfl : m = 222 := by omega
                    exact xmc222
              · rcases Nat.lt_or_ge m 224 with z | z
                · obtain rfl : m = 223 := by omega
                  exact xmc223
                · rcases Nat.lt_or_ge m 225 with z | z
                  · obtain rfl : m = 224 := by omega
                    exact xmc224
                  · obtain rfl : m = 225 := by omega
                    exact xmc225
            · rcases Nat.lt_or_ge m 229 with z | z
              · rcases Nat.lt_or_ge m 227 with z | z
                · obtain rfl : m = 226 := by omega
                  exact xmc226
                · rcases Nat.lt_or_ge m 228 with z | z
                  · obtain rfl : m = 227 := by omega
                    exact xmc227
                  · obtain rfl : m = 228 := by omega
                    exact xmc228
              · rcases Nat.lt_or_ge m 231 with z | z
                · rcases Nat.lt_or_ge m 230 with z | z
                  · obtain rfl : m = 229 := by omega
                    exact xmc229
                  · obtain rfl : m = 230 := by omega
                    exact xmc230
                · rcases Nat.lt_or_ge m 232 with z | z
                  · obtain rfl : m = 231 := by omega
                    exact xmc231
                  · obtain rfl : m = 232 := by omega
                    exact xmc232
          · rcases Nat.lt_or_ge m 240 with z | z
            · rcases Nat.lt_or_ge m 236 with z | z
              · rcases Nat.lt_or_ge m 234 with z | z
                · obtain rfl : m = 233 := by omega
                  exact xmc233
                · rcases Nat.lt_or_ge m 235 with z | z
                  · obtain rfl : m = 234 := by omega
                    exact xmc234
                  · obtain rfl : m = 235 := by omega
                    exact xmc235
              · rcases Nat.lt_or_ge m 238 with z | z
                · rcases Nat.lt_or_ge m 237 with z | z
                  · obtain rfl : m = 236 := by omega
                    exact xmc236
                  · obtain rfl : m = 237 := by omega
                    exact xmc237
                · rcases Nat.lt_or_ge m 239 with z | z
                  · obtain rfl : m = 238 := by omega
                    exact xmc238
                  · obtain rfl : m = 239 := by omega
                    exact xmc239
            · rcases Nat.lt_or_ge m 243 with z | z
              · rcases Nat.lt_or_ge m 241 with z | z
                · obtain rfl : m = 240 := by omega
                  exact xmc240
                · rcases Nat.lt_or_ge m 242 with z | z
                  · obtain rfl : m = 241 := by omega
                    exact xmc241
                  · obtain rfl : m = 242 := by omega
                    exact xmc242
              · rcases Nat.lt_or_ge m 245 with z | z
                · rcases Nat.lt_or_ge m 244 with z | z
                  · obtain rfl : m = 243 := by omega
                    exact xmc243
                  · obtain rfl : m = 244 := by omega
                    exact xmc244
                · rcases Nat.lt_or_ge m 246 with z | z
                  · obtain rfl : m = 245 := by omega
                    exact xmc245
                  · obtain rfl : m = 246 := by omega
                    exact xmc246
        · rcases Nat.lt_or_ge m 261 with z | z
          · rcases Nat.lt_or_ge m 254 with z | z
            · rcases Nat.lt_or_ge m 250 with z | z
              · rcases Nat.lt_or_ge m 248 with z | z
                · obtain rfl : m = 247 := by omega
                  exact xmc247
                · rcases Nat.lt_or_ge m 249 with z | z
                  · obtain rfl : m = 248 := by omega
                    exact xmc248
                  · obtain rfl : m = 249 := by omega
                    exact xmc249
              · rcases Nat.lt_or_ge m 252 with z | z
                · rcases Nat.lt_or_ge m 251 with z | z
                  · obtain rfl : m = 250 := by omega
                    exact xmc250
                  · obtain rfl : m = 251 := by omega
                    exact xmc251
                · rcases Nat.lt_or_ge m 253 with z | z
                  · obtain rfl : m = 252 := by omega
                    exact xmc252
                  · obtain rfl : m = 253 := by omega
                    exact xmc253
            · rcases Nat.lt_or_ge m 257 with z | z
              · rcases Nat.lt_or_ge m 255 with z | z
                · obtain rfl : m = 254 := by omega
                  exact xmc254
                · rcases Nat.lt_or_ge m 256 with z | z
                  · obtain rfl : m = 255 := by omega
                    exact xmc255
                  · obtain rfl : m = 256 := by omega
                    exact xmc256
              · rcases Nat.lt_or_ge m 259 with z | z
                · rcases Nat.lt_or_ge m 258 with z | z
                  · obtain rfl : m = 257 := by omega
                    exact xmc257
                  · obtain rfl : m = 258 := by omega
                    exact xmc258
                · rcases Nat.lt_or_ge m 260 with z | z
                  · obtain rfl : m = 259 := by omega
                    exact xmc259
                  · obtain rfl : m = 260 := by omega
                    exact xmc260
          · rcases Nat.lt_or_ge m 268 with z | z
            · rcases Nat.lt_or_ge m 264 with z | z
              · rcases Nat.lt_or_ge m 262 with z | z
                · obtain rfl : m = 261 := by omega
                  exact xmc261
                · rcases Nat.lt_or_ge m 263 with z | z
                  · obtain rfl : m = 262 := by omega
                    exact xmc262
                  · obtain rfl : m = 263 := by omega
                    exact xmc263
              · rcases Nat.lt_or_ge m 266 with z | z
                · rcases Nat.lt_or_ge m 265 with z | z
                  · obtain rfl : m = 264 := by omega
                    exact xmc264
                  · obtain rfl : m = 265 := by omega
                    exact xmc265
                · rcases Nat.lt_or_ge m 267 with z | z
                  · obtain rfl : m = 266 := by omega
                    exact xmc266
                  · obtain rfl : m = 267 := by omega
                    exact xmc267
            · rcases Nat.lt_or_ge m 271 with z | z
              · rcases Nat.lt_or_ge m 269 with z | z
                · obtain rfl : m = 268 := by omega
                  exact xmc268
                · rcases Nat.lt_or_ge m 270 with z | z
                  · obtain rfl : m = 269 := by omega
                    exact xmc269
                  · obtain rfl : m = 270 := by omega
                    exact xmc270
              · rcases Nat.lt_or_ge m 273 with z | z
                · rcases Nat.lt_or_ge m 272 with z | z
                  · obtain rfl : m = 271 := by omega
                    exact xmc271
                  · obtain rfl : m = 272 := by omega
                    exact xmc272
                · rcases Nat.lt_or_ge m 274 with z | z
                  · obtain rfl : m = 273 := by omega
                    exact xmc273
                  · obtain rfl : m = 274 := by omega
                    exact xmc274
      · rcases Nat.lt_or_ge m 302 with z | z
        · rcases Nat.lt_or_ge m 288 with z | z
          · rcases Nat.lt_or_ge m 281 with z | z
            · rcases Nat.lt_or_ge m 278 with z | z
              · rcases Nat.lt_or_ge m 276 with z | z
                · obtain rfl : m = 275 := by omega
                  exact xmc275
                · rcases Nat.lt_or_ge m 277 with z | z
                  · obtain rfl : m = 276 := by omega
                    exact xmc276
                  · obtain rfl : m = 277 := by omega
                    exact xmc277
              · rcases Nat.lt_or_ge m 279 with z | z
                · obtain rfl : m = 278 := by omega
                  exact xmc278
                · rcases Nat.lt_or_ge m 280 with z | z
                  · obtain rfl : m = 279 := by omega
                    exact xmc279
                  · obtain rfl : m = 280 := by omega
                    exact xmc280
            · rcases Nat.lt_or_ge m 284 with z | z
              · rcases Nat.lt_or_ge m 282 with z | z
                · obtain rfl : m = 281 := by omega
                  exact xmc281
                · rcases Nat.lt_or_ge m 283 with z | z
                  · obtain rfl : m = 282 := by omega
                    exact xmc282
                  · obtain rfl : m = 283 := by omega
                    exact xmc283
              · rcases Nat.lt_or_ge m 286 with z | z
                · rcases Nat.lt_or_ge m 285 with z | z
                  · obtain rfl : m = 284 := by omega
                    exact xmc284
                  · obtain rfl : m = 285 := by omega
                    exact xmc285
                · rcases Nat.lt_or_ge m 287 with z | z
                  · obtain rfl : m = 286 := by omega
                    exact xmc286
                  · obtain rfl : m = 287 := by omega
                    exact xmc287
          · rcases Nat.lt_or_ge m 295 with z | z
            · rcases Nat.lt_or_ge m 291 with z | z
              · rcases Nat.lt_or_ge m 289 with z | z
                · obtain rfl : m = 288 := by omega
                  exact xmc288
                · rcases Nat.lt_or_ge m 290 with z | z
                  · obtain rfl : m = 289 := by omega
                    exact xmc289
                  · obtain rfl : m = 290 := by omega
                    exact xmc290
              · rcases Nat.lt_or_ge m 293 with z | z
                · rcases Nat.lt_or_ge m 292 with z | z
                  · obtain rfl : m = 291 := by omega
                    exact xmc291
                  · obtain rfl : m = 292 := by omega
                    exact xmc292
                · rcases Nat.lt_or_ge m 294 with z | z
                  · obtain rfl : m = 293 := by omega
                    exact xmc293
                  · obtain rfl : m = 294 := by omega
                    exact xmc294
            · rcases Nat.lt_or_ge m 298 with z | z
              · rcases Nat.lt_or_ge m 296 with z | z
                · obtain rfl : m = 295 := by omega
                  exact xmc295
                · rcases Nat.lt_or_ge m 297 with z | z
                  · obtain rfl : m = 296 := by omega
                    exact xmc296
                  · obtain rfl : m = 297 := by omega
                    exact xmc297
              · rcases Nat.lt_or_ge m 300 with z | z
                · rcases Nat.lt_or_ge m 299 with z | z
                  · obtain rfl : m = 298 := by omega
                    exact xmc298
                  · obtain rfl : m = 299 := by omega
                    exact xmc299
                · rcases Nat.lt_or_ge m 301 with z | z
                  · obtain rfl : m = 300 := by omega
                    exact xmc300
                  · obtain rfl : m = 301 := by omega
                    exact xmc301
        · rcases Nat.lt_or_ge m 316 with z | z
          · rcases Nat.lt_or_ge m 309 with z | z
            · rcases Nat.lt_or_ge m 305 with z | z
              · rcases Nat.lt_or_ge m 303 with z | z
                · obtain rfl : m = 302 := by omega
                  exact xmc302
                · rcases Nat.lt_or_ge m 304 with z | z
                  · obtain rfl : m = 303 := by omega
                    exact xmc303
                  · obtain rfl : m = 304 := by omega
                    exact xmc304
              · rcases Nat.lt_or_ge m 307 with z | z
                · rcases Nat.lt_or_ge m 306 with z | z
                  · obtain rfl : m = 305 := by omega
                    exact xmc305
                  · obtain rfl : m = 306 := by omega
                    exact xmc306
                · rcases Nat.lt_or_ge m 308 with z | z
                  · obtain rfl : m = 307 := by omega
                    exact xmc307
                  · obtain rfl : m = 308 := by omega
                    exact xmc308
            · rcases Nat.lt_or_ge m 312 with z | z
              · rcases Nat.lt_or_ge m 310 with z | z
                · obtain rfl : m = 309 := by omega
                  exact xmc309
                · rcases Nat.lt_or_ge m 311 with z | z
                  · obtain rfl : m = 310 := by omega
                    exact xmc310
                  · obtain rfl : m = 311 := by omega
                    exact xmc311
              · rcases Nat.lt_or_ge m 314 with z | z
                · rcases Nat.lt_or_ge m 313 with z | z
                  · obtain rfl : m = 312 := by omega
                    exact xmc312
                  · obtain rfl : m = 313 := by omega
                    exact xmc313
                · rcases Nat.lt_or_ge m 315 with z | z
                  · obtain rfl : m = 314 := by omega
                    exact xmc314
                  · obtain rfl : m = 315 := by omega
                    exact xmc315
          · rcases Nat.lt_or_ge m 323 with z | z
            · rcases Nat.lt_or_ge m 319 with z | z
              · rcases Nat.lt_or_ge m 317 with z | z
                · obtain rfl : m = 316 := by omega
                  exact xmc316
                · rcases Nat.lt_or_ge m 318 with z | z
                  · obtain rfl : m = 317 := by omega
                    exact xmc317
                  · obtain rfl : m = 318 := by omega
                    exact xmc318
              · rcases Nat.lt_or_ge m 321 with z | z
                · rcases Nat.lt_or_ge m 320 with z | z
                  · obtain rfl : m = 319 := by omega
                    exact xmc319
                  · obtain rfl : m = 320 := by omega
                    exact xmc320
                · rcases Nat.lt_or_ge m 322 with z | z
                  · obtain rfl : m = 321 := by omega
                    exact xmc321
                  · obtain rfl : m = 322 := by omega
                    exact xmc322
            · rcases Nat.lt_or_ge m 326 with z | z
              · rcases Nat.lt_or_ge m 324 with z | z
                · obtain rfl : m = 323 := by omega
                  exact xmc323
                · rcases Nat.lt_or_ge m 325 with z | z
                  · obtain rfl : m = 324 := by omega
                    exact xmc324
                  · obtain rfl : m = 325 := by omega
                    exact xmc325
              · rcases Nat.lt_or_ge m 328 with z | z
                · rcases Nat.lt_or_ge m 327 with z | z
                  · obtain rfl : m = 326 := by omega
                    exact xmc326
                  · obtain rfl : m = 327 := by omega
                    exact xmc327
                · rcases Nat.lt_or_ge m 329 with z | z
                  · obtain rfl : m = 328 := by omega
                    exact xmc328
                  · obtain rfl : m = 329 := by omega
                    exact xmc329
    · rcases Nat.lt_or_ge m 385 with z | z
      · rcases Nat.lt_or_ge m 357 with z | z
        · rcases Nat.lt_or_ge m 343 with z | z
          · rcases Nat.lt_or_ge m 336 with z | z
            · rcases Nat.lt_or_ge m 333 with z | z
              · rcases Nat.lt_or_ge m 331 with z | z
                · obtain rfl : m = 330 := by omega
                  exact xmc330
                · rcases Nat.lt_or_ge m 332 with z | z
                  · obtain rfl : m = 331 := by omega
                    exact xmc331
                  · obtain rfl : m = 332 := by omega
                    exact xmc332
              · rcases Nat.lt_or_ge m 334 with z | z
                · obtain rfl : m = 333 := by omega
                  exact xmc333
                · rcases Nat.lt_or_ge m 335 with z | z
                  · obtain rfl : m = 334 := by omega
                    exact xmc334
                  · obtain rfl : m = 335 := by omega
                    exact xmc335
            · rcases Nat.lt_or_ge m 339 with z | z
              · rcases Nat.lt_or_ge m 337 with z | z
                · obtain rfl : m = 336 := by omega
                  exact xmc336
                · rcases Nat.lt_or_ge m 338 with z | z
                  · obtain rfl : m = 337 := by omega
                    exact xmc337
                  · obtain rfl : m = 338 := by omega
                    exact xmc338
              · rcases Nat.lt_or_ge m 341 with z | z
                · rcases Nat.lt_or_ge m 340 with z | z
                  · obtain rfl : m = 339 := by omega
                    exact xmc339
                  · obtain rfl : m = 340 := by omega
                    exact xmc340
                · rcases Nat.lt_or_ge m 342 with z | z
                  · obtain rfl : m = 341 := by omega
                    exact xmc341
                  · obtain rfl : m = 342 := by omega
                    exact xmc342
          · rcases Nat.lt_or_ge m 350 with z | z
            · rcases Nat.lt_or_ge m 346 with z | z
              · rcases Nat.lt_or_ge m 344 with z | z
                · obtain rfl : m = 343 := by omega
                  exact xmc343
                · rcases Nat.lt_or_ge m 345 with z | z
                  · obtain rfl : m = 344 := by omega
                    exact xmc344
                  · obtain rfl : m = 345 := by omega
                    exact xmc345
              · rcases Nat.lt_or_ge m 348 with z | z
                · rcases Nat.lt_or_ge m 347 with z | z
                  · obtain rfl : m = 346 := by omega
                    exact xmc346
                  · obtain rfl : m = 347 := by omega
                    exact xmc347
                · rcases Nat.lt_or_ge m 349 with z | z
                  · obtain rfl : m = 348 := by omega
                    exact xmc348
                  · obtain rfl : m = 349 := by omega
                    exact xmc349
            · rcases Nat.lt_or_ge m 353 with z | z
              · rcases Nat.lt_or_ge m 351 with z | z
                · obtain rfl : m = 350 := by omega
                  exact xmc350
                · rcases Nat.lt_or_ge m 352 with z | z
                  · obtain rfl : m = 351 := by omega
                    exact xmc351
                  · obtain rfl : m = 352 := by omega
                    exact xmc352
              · rcases Nat.lt_or_ge m 355 with z | z
                · rcases Nat.lt_or_ge m 354 with z | z
                  · obtain rfl : m = 353 := by omega
                    exact xmc353
                  · obtain rfl : m = 354 := by omega
                    exact xmc354
                · rcases Nat.lt_or_ge m 356 with z | z
                  · obtain rfl : m = 355 := by omega
                    exact xmc355
                  · obtain rfl : m = 356 := by omega
                    exact xmc356
        · rcases Nat.lt_or_ge m 371 with z | z
          · rcases Nat.lt_or_ge m 364 with z | z
            · rcases Nat.lt_or_ge m 360 with z | z
              · rcases Nat.lt_or_ge m 358 with z | z
                · obtain rfl : m = 357 := by omega
                  exact xmc357
                · rcases Nat.lt_or_ge m 359 with z | z
                  · obtain rfl : m = 358 := by omega
                    exact xmc358
                  · obtain rfl : m = 359 := by omega
                    exact xmc359
              · rcases Nat.lt_or_ge m 362 with z | z
                · rcases Nat.lt_or_ge m 361 with z | z
                  · obtain rfl : m = 360 := by omega
                    exact xmc360
                  · obtain rfl : m = 361 := by omega
                    exact xmc361
                · rcases Nat.lt_or_ge m 363 with z | z
                  · obtain rfl : m = 362 := by omega
                    exact xmc362
                  · obtain rfl : m = 363 := by omega
                    exact xmc363
            · rcases Nat.lt_or_ge m 367 with z | z
              · rcases Nat.lt_or_ge m 365 with z | z
                · obtain rfl : m = 364 := by omega
                  exact xmc364
                · rcases Nat.lt_or_ge m 366 with z | z
                  · obtain rfl : m = 365 := by omega
                    exact xmc365
                  · obtain rfl : m = 366 := by omega
                    exact xmc366
              · rcases Nat.lt_or_ge m 369 with z | z
                · rcases Nat.lt_or_ge m 368 with z | z
                  · obtain rfl : m = 367 := by omega
                    exact xmc367
                  · obtain rfl : m = 368 := by omega
                    exact xmc368
                · rcases Nat.lt_or_ge m 370 with z | z
                  · obtain rfl : m = 369 := by omega
                    exact xmc369
                  · obtain rfl : m = 370 := by omega
                    exact xmc370
          · rcases Nat.lt_or_ge m 378 with z | z
            · rcases Nat.lt_or_ge m 374 with z | z
              · rcases Nat.lt_or_ge m 372 with z | z
                · obtain rfl : m = 371 := by omega
                  exact xmc371
                · rcases Nat.lt_or_ge m 373 with z | z
                  · obtain rfl : m = 372 := by omega
                    exact xmc372
                  · obtain rfl : m = 373 := by omega
                    exact xmc373
              · rcases Nat.lt_or_ge m 376 with z | z
                · rcases Nat.lt_or_ge m 375 with z | z
                  · obtain rfl : m = 374 := by omega
                    exact xmc374
                  · obtain rfl : m = 375 := by omega
                    exact xmc375
                · rcases Nat.lt_or_ge m 377 with z | z
                  · obtain rfl : m = 376 := by omega
                    exact xmc376
                  · obtain rfl : m = 377 := by omega
                    exact xmc377
            · rcases Nat.lt_or_ge m 381 with z | z
              · rcases Nat.lt_or_ge m 379 with z | z
                · obtain rfl : m = 378 := by omega
                  exact xmc378
                · rcases Nat.lt_or_ge m 380 with z | z
                  · obtain rfl : m = 379 := by omega
                    exact xmc379
                  · obtain rfl : m = 380 := by omega
                    exact xmc380
              · rcases Nat.lt_or_ge m 383 with z | z
                · rcases Nat.lt_or_ge m 382 with z | z
                  · obtain rfl : m = 381 := by omega
                    exact xmc381
                  · obtain rfl : m = 382 := by omega
                    exact xmc382
                · rcases Nat.lt_or_ge m 384 with z | z
                  · obtain rfl : m = 383 := by omega
                    exact xmc383
                  · obtain rfl : m = 384 := by omega
                    exact xmc384
      · rcases Nat.lt_or_ge m 412 with z | z
        · rcases Nat.lt_or_ge m 398 with z | z
          · rcases Nat.lt_or_ge m 391 with z | z
            · rcases Nat.lt_or_ge m 388 with z | z
              · rcases Nat.lt_or_ge m 386 with z | z
                · obtain rfl : m = 385 := by omega
                  exact xmc385
                · rcases Nat.lt_or_ge m 387 with z | z
                  · obtain rfl : m = 386 := by omega
                    exact xmc386
                  · obtain rfl : m = 387 := by omega
                    exact xmc387
              · rcases Nat.lt_or_ge m 389 with z | z
                · obtain rfl : m = 388 := by omega
                  exact xmc388
                · rcases Nat.lt_or_ge m 390 with z | z
                  · obtain rfl : m = 389 := by omega
                    exact xmc389
                  · obtain rfl : m = 390 := by omega
                    exact xmc390
            · rcases Nat.lt_or_ge m 394 with z | z
              · rcases Nat.lt_or_ge m 392 with z | z
                · obtain rfl : m = 391 := by omega
                  exact xmc391
                · rcases Nat.lt_or_ge m 393 with z | z
                  · obtain rfl : m = 392 := by omega
                    exact xmc392
                  · obtain rfl : m = 393 := by omega
                    exact xmc393
              · rcases Nat.lt_or_ge m 396 with z | z
                · rcases Nat.lt_or_ge m 395 with z | z
                  · obtain rfl : m = 394 := by omega
                    exact xmc394
                  · obtain rfl : m = 395 := by omega
                    exact xmc395
                · rcases Nat.lt_or_ge m 397 with z | z
                  · obtain rfl : m = 396 := by omega
                    exact xmc396
                  · obtain rfl : m = 397 := by omega
                    exact xmc397
          · rcases Nat.lt_or_ge m 405 with z | z
            · rcases Nat.lt_or_ge m 401 with z | z
              · rcases Nat.lt_or_ge m 399 with z | z
                · obtain rfl : m = 398 := by omega
                  exact xmc398
                · rcases Nat.lt_or_ge m 400 with z | z
                  · obtain rfl : m = 399 := by omega
                    exact xmc399
                  · obtain rfl : m = 400 := by omega
                    exact xmc400
              · rcases Nat.lt_or_ge m 403 with z | z
                · rcases Nat.lt_or_ge m 402 with z | z
                  · obtain rfl : m = 401 := by omega
                    exact xmc401
                  · obtain rfl : m = 402 := by omega
                    exact xmc402
                · rcases Nat.lt_or_ge m 404 with z | z
                  · obtain rfl : m = 403 := by omega
                    exact xmc403
                  · obtain rfl : m = 404 := by omega
                    exact xmc404
            · rcases Nat.lt_or_ge m 408 with z | z
              · rcases Nat.lt_or_ge m 406 with z | z
                · obtain rfl : m = 405 := by omega
                  exact xmc405
                · rcases Nat.lt_or_ge m 407 with z | z
                  · obtain rfl : m = 406 := by omega
                    exact xmc406
                  · obtain rfl : m = 407 := by omega
                    exact xmc407
              · rcases Nat.lt_or_ge m 410 with z | z
                · rcases Nat.lt_or_ge m 409 with z | z
                  · obtain rfl : m = 408 := by omega
                    exact xmc408
                  · obtain rfl : m = 409 := by omega
                    exact xmc409
                · rcases Nat.lt_or_ge m 411 with z | z
                  · obtain rfl : m = 410 := by omega
                    exact xmc410
                  · obtain rfl : m = 411 := by omega
                    exact xmc411
        · rcases Nat.lt_or_ge m 426 with z | z
          · rcases Nat.lt_or_ge m 419 with z | z
            · rcases Nat.lt_or_ge m 415 with z | z
              · rcases Nat.lt_or_ge m 413 with z | z
                · obtain rfl : m = 412 := by omega
                  exact xmc412
                · rcases Nat.lt_or_ge m 414 with z | z
                  · obtain rfl : m = 413 := by omega
                    exact xmc413
                  · obtain rfl : m = 414 := by omega
                    exact xmc414
              · rcases Nat.lt_or_ge m 417 with z | z
                · rcases Nat.lt_or_ge m 416 with z | z
                  · obtain rfl : m = 415 := by omega
                    exact xmc415
                  · obtain rfl : m = 416 := by omega
                    exact xmc416
                · rcases Nat.lt_or_ge m 418 with z | z
                  · obtain rfl : m = 417 := by omega
                    exact xmc417
                  · obtain rfl : m = 418 := by omega
                    exact xmc418
            · rcases Nat.lt_or_ge m 422 with z | z
              · rcases Nat.lt_or_ge m 420 with z | z
                · obtain rfl : m = 419 := by omega
                  exact xmc419
                · rcases Nat.lt_or_ge m 421 with z | z
                  · obtain rfl : m = 420 := by omega
                    exact xmc420
                  · obtain rfl : m = 421 := by omega
                    exact xmc421
              · rcases Nat.lt_or_ge m 424 with z | z
                · rcases Nat.lt_or_ge m 423 with z | z
                  · obtain rfl : m = 422 := by omega
                    exact xmc422
                  · obtain rfl : m = 423 := by omega
                    exact xmc423
                · rcases Nat.lt_or_ge m 425 with z | z
                  · obtain rfl : m = 424 := by omega
                    exact xmc424
                  · obtain rfl : m = 425 := by omega
                    exact xmc425
          · rcases Nat.lt_or_ge m 433 with z | z
            · rcases Nat.lt_or_ge m 429 with z | z
              · rcases Nat.lt_or_ge m 427 with z | z
                · obtain rfl : m = 426 := by omega
                  exact xmc426
                · rcases Nat.lt_or_ge m 428 with z | z
                  · obtain rfl : m = 427 := by omega
                    exact xmc427
                  · obtain rfl : m = 428 := by omega
                    exact xmc428
              · rcases Nat.lt_or_ge m 431 with z | z
                · rcases Nat.lt_or_ge m 430 with z | z
                  · obtain rfl : m = 429 := by omega
                    exact xmc429
                  · obtain rfl : m = 430 := by omega
                    exact xmc430
                · rcases Nat.lt_or_ge m 432 with z | z
                  · obtain rfl : m = 431 := by omega
                    exact xmc431
                  · obtain rfl : m = 432 := by omega
                    exact xmc432
            · rcases Nat.lt_or_ge m 436 with z | z
              · rcases Nat.lt_or_ge m 434 with z | z
                · obtain rfl : m = 433 := by omega
                  exact xmc433
                · rcases Nat.lt_or_ge m 435 with z | z
                  · obtain rfl : m = 434 := by omega
                    exact xmc434
                  · obtain rfl : m = 435 := by omega
                    exact xmc435
              · rcases Nat.lt_or_ge m 438 with z | z
                · rcases Nat.lt_or_ge m 437 with z | z
                  · obtain rfl : m = 436 := by omega
                    exact xmc436
                  · obtain rfl : m = 437 := by omega
                    exact xmc437
                · rcases Nat.lt_or_ge m 439 with z | z
                  · obtain rfl : m = 438 := by omega
                    exact xmc438
                  · obtain rfl : m = 439 := by omega
                    exact xmc439
theorem xmp_all {m : Nat} (h0 : 0 < m) (h : m < 440) : xm_pl m = true := by
  rcases (by omega : (1 ≤ m ∧ m < 61) ∨ (61 ≤ m ∧ m < 121) ∨ (121 ≤ m ∧ m < 181) ∨ (181 ≤ m ∧ m < 241) ∨ (241 ≤ m ∧ m < 301) ∨ (301 ≤ m ∧ m < 361) ∨ (361 ≤ m ∧ m < 421) ∨ (421 ≤ m ∧ m < 440)) with z | z | z | z | z | z | z | z
  · exact List.all_eq_true.mp xm_pl1 m (List.mem_range'_1.mpr (by omega))
  · exact List.all_eq_true.mp xm_pl61 m (List.mem_range'_1.mpr (by omega))
  · exact List.all_eq_true.mp xm_pl121 m (List.mem_range'_1.mpr (by omega))
  · exact List.all_eq_true.mp xm_pl181 m (List.mem_range'_1.mpr (by omega))
  · exact List.all_eq_true.mp xm_pl241 m (List.mem_range'_1.mpr (by omega))
  · exact List.all_eq_true.mp xm_pl301 m (List.mem_range'_1.mpr (by omega))
  · exact List.all_eq_true.mp xm_pl361 m (List.mem_range'_1.mpr (by omega))
  · exact List.all_eq_true.mp xm_pl421 m (List.mem_range'_1.mpr (by omega))
theorem xin_all {m : Nat} (h : m < 440) : xin m = decide ((xy m).name = "<init>") := by
  rcases (by omega : (0 ≤ m ∧ m < 60) ∨ (60 ≤ m ∧ m < 120) ∨ (120 ≤ m ∧ m < 180) ∨ (180 ≤ m ∧ m < 240) ∨ (240 ≤ m ∧ m < 300) ∨ (300 ≤ m ∧ m < 360) ∨ (360 ≤ m ∧ m < 420) ∨ (420 ≤ m ∧ m < 440)) with z | z | z | z | z | z | z | z
  · exact of_decide_eq_true (List.all_eq_true.mp xin_ok0 m (List.mem_range'_1.mpr (by omega)))
  · exact of_decide_eq_true (List.all_eq_true.mp xin_ok60 m (List.mem_range'_1.mpr (by omega)))
  · exact of_decide_eq_true (List.all_eq_true.mp xin_ok120 m (List.mem_range'_1.mpr (by omega)))
  · exact of_decide_eq_true (List.all_eq_true.mp xin_ok180 m (List.mem_range'_1.mpr (by omega)))
  · exact of_decide_eq_true (List.all_eq_true.mp xin_ok240 m (List.mem_range'_1.mpr (by omega)))
  · exact of_decide_eq_true (List.all_eq_true.mp xin_ok300 m (List.mem_range'_1.mpr (by omega)))
  · exact of_decide_eq_true (List.all_eq_true.mp xin_ok360 m (List.mem_range'_1.mpr (by omega)))
  · exact of_decide_eq_true (List.all_eq_true.mp xin_ok420 m (List.mem_range'_1.mpr (by omega)))
theorem xf_all {m : Nat} (h : m < 21) : xps (xf_wd m) (xf_ck m) (fun q => q.2.2.2) lw_tbl (xf m) = true := by
  rcases Nat.lt_or_ge m 10 with z | z
  · rcases Nat.lt_or_ge m 5 with z | z
    · rcases Nat.lt_or_ge m 2 with z | z
      · rcases Nat.lt_or_ge m 1 with z | z
        · obtain rfl : m = 0 := by omega
          exact xf_ok0
        · obtain rfl : m = 1 := by omega
          exact xf_ok1
      · rcases Nat.lt_or_ge m 3 with z | z
        · obtain rfl : m = 2 := by omega
          exact xf_ok2
        · rcases Nat.lt_or_ge m 4 with z | z
          · obtain rfl : m = 3 := by omega
            exact xf_ok3
          · obtain rfl : m = 4 := by omega
            exact xf_ok4
    · rcases Nat.lt_or_ge m 7 with z | z
      · rcases Nat.lt_or_ge m 6 with z | z
        · obtain rfl : m = 5 := by omega
          exact xf_ok5
        · obtain rfl : m = 6 := by omega
          exact xf_ok6
      · rcases Nat.lt_or_ge m 8 with z | z
        · obtain rfl : m = 7 := by omega
          exact xf_ok7
        · rcases Nat.lt_or_ge m 9 with z | z
          · obtain rfl : m = 8 := by omega
            exact xf_ok8
          · obtain rfl : m = 9 := by omega
            exact xf_ok9
  · rcases Nat.lt_or_ge m 15 with z | z
    · rcases Nat.lt_or_ge m 12 with z | z
      · rcases Nat.lt_or_ge m 11 with z | z
        · obtain rfl : m = 10 := by omega
          exact xf_ok10
        · obtain rfl : m = 11 := by omega
          exact xf_ok11
      · rcases Nat.lt_or_ge m 13 with z | z
        · obtain rfl : m = 12 := by omega
          exact xf_ok12
        · rcases Nat.lt_or_ge m 14 with z | z
          · obtain rfl : m = 13 := by omega
            exact xf_ok13
          · obtain rfl : m = 14 := by omega
            exact xf_ok14
    · rcases Nat.lt_or_ge m 18 with z | z
      · rcases Nat.lt_or_ge m 16 with z | z
        · obtain rfl : m = 15 := by omega
          exact xf_ok15
        · rcases Nat.lt_or_ge m 17 with z | z
          · obtain rfl : m = 16 := by omega
            exact xf_ok16
          · obtain rfl : m = 17 := by omega
            exact xf_ok17
      · rcases Nat.lt_or_ge m 19 with z | z
        · obtain rfl : m = 18 := by omega
          exact xf_ok18
        · rcases Nat.lt_or_ge m 20 with z | z
          · obtain rfl : m = 19 := by omega
            exact xf_ok19
          · obtain rfl : m = 20 := by omega
            exact xf_ok20
theorem xl_all {m : Nat} (h : m < 21) : xps (xl_wd m) (xl_ck m) (fun q => q.2.2.2.1) lw_tbl (xl m) = true := by
  rcases Nat.lt_or_ge m 10 with z | z
  · rcases Nat.lt_or_ge m 5 with z | z
    · rcases Nat.lt_or_ge m 2 with z | z
      · rcases Nat.lt_or_ge m 1 with z | z
        · obtain rfl : m = 0 := by omega
          exact xl_ok0
        · obtain rfl : m = 1 := by omega
          exact xl_ok1
      · rcases Nat.lt_or_ge m 3 with z | z
        · obtain rfl : m = 2 := by omega
          exact xl_ok2
        · rcases Nat.lt_or_ge m 4 with z | z
          · obtain rfl : m = 3 := by omega
            exact xl_ok3
          · obtain rfl : m = 4 := by omega
            exact xl_ok4
    · rcases Nat.lt_or_ge m 7 with z | z
      · rcases Nat.lt_or_ge m 6 with z | z
        · obtain rfl : m = 5 := by omega
          exact xl_ok5
        · obtain rfl : m = 6 := by omega
          exact xl_ok6
      · rcases Nat.lt_or_ge m 8 with z | z
        · obtain rfl : m = 7 := by omega
          exact xl_ok7
        · rcases Nat.lt_or_ge m 9 with z | z
          · obtain rfl : m = 8 := by omega
            exact xl_ok8
          · obtain rfl : m = 9 := by omega
            exact xl_ok9
  · rcases Nat.lt_or_ge m 15 with z | z
    · rcases Nat.lt_or_ge m 12 with z | z
      · rcases Nat.lt_or_ge m 11 with z | z
        · obtain rfl : m = 10 := by omega
          exact xl_ok10
        · obtain rfl : m = 11 := by omega
          exact xl_ok11
      · rcases Nat.lt_or_ge m 13 with z | z
        · obtain rfl : m = 12 := by omega
          exact xl_ok12
        · rcases Nat.lt_or_ge m 14 with z | z
          · obtain rfl : m = 13 := by omega
            exact xl_ok13
          · obtain rfl : m = 14 := by omega
            exact xl_ok14
    · rcases Nat.lt_or_ge m 18 with z | z
      · rcases Nat.lt_or_ge m 16 with z | z
        · obtain rfl : m = 15 := by omega
          exact xl_ok15
        · rcases Nat.lt_or_ge m 17 with z | z
          · obtain rfl : m = 16 := by omega
            exact xl_ok16
          · obtain rfl : m = 17 := by omega
            exact xl_ok17
      · rcases Nat.lt_or_ge m 19 with z | z
        · obtain rfl : m = 18 := by omega
          exact xl_ok18
        · rcases Nat.lt_or_ge m 20 with z | z
          · obtain rfl : m = 19 := by omega
            exact xl_ok19
          · obtain rfl : m = 20 := by omega
            exact xl_ok20
theorem xw_all {m : Nat} (h : m < 21) : xps (xw_wd m) (xw_ck m) (fun q => q.2.2) lw_tbl (xw m) = true := by
  rcases Nat.lt_or_ge m 10 with z | z
  · rcases Nat.lt_or_ge m 5 with z | z
    · rcases Nat.lt_or_ge m 2 with z | z
      · rcases Nat.lt_or_ge m 1 with z | z
        · obtain rfl : m = 0 := by omega
          exact xw_ok0
        · obtain rfl : m = 1 := by omega
          exact xw_ok1
      · rcases Nat.lt_or_ge m 3 with z | z
        · obtain rfl : m = 2 := by omega
          exact xw_ok2
        · rcases Nat.lt_or_ge m 4 with z | z
          · obtain rfl : m = 3 := by omega
            exact xw_ok3
          · obtain rfl : m = 4 := by omega
            exact xw_ok4
    · rcases Nat.lt_or_ge m 7 with z | z
      · rcases Nat.lt_or_ge m 6 with z | z
        · obtain rfl : m = 5 := by omega
          exact xw_ok5
        · obtain rfl : m = 6 := by omega
          exact xw_ok6
      · rcases Nat.lt_or_ge m 8 with z | z
        · obtain rfl : m = 7 := by omega
          exact xw_ok7
        · rcases Nat.lt_or_ge m 9 with z | z
          · obtain rfl : m = 8 := by omega
            exact xw_ok8
          · obtain rfl : m = 9 := by omega
            exact xw_ok9
  · rcases Nat.lt_or_ge m 15 with z | z
    · rcases Nat.lt_or_ge m 12 with z | z
      · rcases Nat.lt_or_ge m 11 with z | z
        · obtain rfl : m = 10 := by omega
          exact xw_ok10
        · obtain rfl : m = 11 := by omega
          exact xw_ok11
      · rcases Nat.lt_or_ge m 13 with z | z
        · obtain rfl : m = 12 := by omega
          exact xw_ok12
        · rcases Nat.lt_or_ge m 14 with z | z
          · obtain rfl : m = 13 := by omega
            exact xw_ok13
          · obtain rfl : m = 14 := by omega
            exact xw_ok14
    · rcases Nat.lt_or_ge m 18 with z | z
      · rcases Nat.lt_or_ge m 16 with z | z
        · obtain rfl : m = 15 := by omega
          exact xw_ok15
        · rcases Nat.lt_or_ge m 17 with z | z
          · obtain rfl : m = 16 := by omega
            exact xw_ok16
          · obtain rfl : m = 17 := by omega
            exact xw_ok17
      · rcases Nat.lt_or_ge m 19 with z | z
        · obtain rfl : m = 18 := by omega
          exact xw_ok18
        · rcases Nat.lt_or_ge m 20 with z | z
          · obtain rfl : m = 19 := by omega
            exact xw_ok19
          · obtain rfl : m = 20 := by omega
            exact xw_ok20
theorem xa_all {m : Nat} (h : m < 21) : xps (xa_wd m) (xa_ck m) (fun q => q.2.2) lw_tbl (xa m) = true := by
  rcases Nat.lt_or_ge m 10 with z | z
  · rcases Nat.lt_or_ge m 5 with z | z
    · rcases Nat.lt_or_ge m 2 with z | z
      · rcases Nat.lt_or_ge m 1 with z | z
        · obtain rfl : m = 0 := by omega
          exact xa_ok0
        · obtain rfl : m = 1 := by omega
          exact xa_ok1
      · rcases Nat.lt_or_ge m 3 with z | z
        · obtain rfl : m = 2 := by omega
          exact xa_ok2
        · rcases Nat.lt_or_ge m 4 with z | z
          · obtain rfl : m = 3 := by omega
            exact xa_ok3
          · obtain rfl : m = 4 := by omega
            exact xa_ok4
    · rcases Nat.lt_or_ge m 7 with z | z
      · rcases Nat.lt_or_ge m 6 with z | z
        · obtain rfl : m = 5 := by omega
          exact xa_ok5
        · obtain rfl : m = 6 := by omega
          exact xa_ok6
      · rcases Nat.lt_or_ge m 8 with z | z
        · obtain rfl : m = 7 := by omega
          exact xa_ok7
        · rcases Nat.lt_or_ge m 9 with z | z
          · obtain rfl : m = 8 := by omega
            exact xa_ok8
          · obtain rfl : m = 9 := by omega
            exact xa_ok9
  · rcases Nat.lt_or_ge m 15 with z | z
    · rcases Nat.lt_or_ge m 12 with z | z
      · rcases Nat.lt_or_ge m 11 with z | z
        · obtain rfl : m = 10 := by omega
          exact xa_ok10
        · obtain rfl : m = 11 := by omega
          exact xa_ok11
      · rcases Nat.lt_or_ge m 13 with z | z
        · obtain rfl : m = 12 := by omega
          exact xa_ok12
        · rcases Nat.lt_or_ge m 14 with z | z
          · obtain rfl : m = 13 := by omega
            exact xa_ok13
          · obtain rfl : m = 14 := by omega
            exact xa_ok14
    · rcases Nat.lt_or_ge m 18 with z | z
      · rcases Nat.lt_or_ge m 16 with z | z
        · obtain rfl : m = 15 := by omega
          exact xa_ok15
        · rcases Nat.lt_or_ge m 17 with z | z
          · obtain rfl : m = 16 := by omega
            exact xa_ok16
          · obtain rfl : m = 17 := by omega
            exact xa_ok17
      · rcases Nat.lt_or_ge m 19 with z | z
        · obtain rfl : m = 18 := by omega
          exact xa_ok18
        · rcases Nat.lt_or_ge m 20 with z | z
          · obtain rfl : m = 19 := by omega
            exact xa_ok19
          · obtain rfl : m = 20 := by omega
            exact xa_ok20
theorem xb_all {m : Nat} (h : m < 21) : xps (xb_wd m) (xb_ck m) (fun q => q.2.2) lw_tbl (xb m) = true := by
  rcases Nat.lt_or_ge m 10 with z | z
  · rcases Nat.lt_or_ge m 5 with z | z
    · rcases Nat.lt_or_ge m 2 with z | z
      · rcases Nat.lt_or_ge m 1 with z | z
        · obtain rfl : m = 0 := by omega
          exact xb_ok0
        · obtain rfl : m = 1 := by omega
          exact xb_ok1
      · rcases Nat.lt_or_ge m 3 with z | z
        · obtain rfl : m = 2 := by omega
          exact xb_ok2
        · rcases Nat.lt_or_ge m 4 with z | z
          · obtain rfl : m = 3 := by omega
            exact xb_ok3
          · obtain rfl : m = 4 := by omega
            exact xb_ok4
    · rcases Nat.lt_or_ge m 7 with z | z
      · rcases Nat.lt_or_ge m 6 with z | z
        · obtain rfl : m = 5 := by omega
          exact xb_ok5
        · obtain rfl : m = 6 := by omega
          exact xb_ok6
      · rcases Nat.lt_or_ge m 8 with z | z
        · obtain rfl : m = 7 := by omega
          exact xb_ok7
        · rcases Nat.lt_or_ge m 9 with z | z
          · obtain rfl : m = 8 := by omega
            exact xb_ok8
          · obtain rfl : m = 9 := by omega
            exact xb_ok9
  · rcases Nat.lt_or_ge m 15 with z | z
    · rcases Nat.lt_or_ge m 12 with z | z
      · rcases Nat.lt_or_ge m 11 with z | z
        · obtain rfl : m = 10 := by omega
          exact xb_ok10
        · obtain rfl : m = 11 := by omega
          exact xb_ok11
      · rcases Nat.lt_or_ge m 13 with z | z
        · obtain rfl : m = 12 := by omega
          exact xb_ok12
        · rcases Nat.lt_or_ge m 14 with z | z
          · obtain rfl : m = 13 := by omega
            exact xb_ok13
          · obtain rfl : m = 14 := by omega
            exact xb_ok14
    · rcases Nat.lt_or_ge m 18 with z | z
      · rcases Nat.lt_or_ge m 16 with z | z
        · obtain rfl : m = 15 := by omega
          exact xb_ok15
        · rcases Nat.lt_or_ge m 17 with z | z
          · obtain rfl : m = 16 := by omega
            exact xb_ok16
          · obtain rfl : m = 17 := by omega
            exact xb_ok17
      · rcases Nat.lt_or_ge m 19 with z | z
        · obtain rfl : m = 18 := by omega
          exact xb_ok18
        · rcases Nat.lt_or_ge m 20 with z | z
          · obtain rfl : m = 19 := by omega
            exact xb_ok19
          · obtain rfl : m = 20 := by omega
            exact xb_ok20
theorem xl_n0 : xl_0.all (fun q => decide (q.2.1 < 440 ∨ 1000 ≤ q.2.1)) = true := by decide +kernel
theorem xl_n1 : xl_1.all (fun q => decide (q.2.1 < 440 ∨ 1000 ≤ q.2.1)) = true := by decide +kernel
theorem xl_n2 : xl_2.all (fun q => decide (q.2.1 < 440 ∨ 1000 ≤ q.2.1)) = true := by decide +kernel
theorem xl_n3 : xl_3.all (fun q => decide (q.2.1 < 440 ∨ 1000 ≤ q.2.1)) = true := by decide +kernel
theorem xl_n4 : xl_4.all (fun q => decide (q.2.1 < 440 ∨ 1000 ≤ q.2.1)) = true := by decide +kernel
theorem xl_n5 : xl_5.all (fun q => decide (q.2.1 < 440 ∨ 1000 ≤ q.2.1)) = true := by decide +kernel
theorem xl_n6 : xl_6.all (fun q => decide (q.2.1 < 440 ∨ 1000 ≤ q.2.1)) = true := by decide +kernel
theorem xl_n7 : xl_7.all (fun q => decide (q.2.1 < 440 ∨ 1000 ≤ q.2.1)) = true := by decide +kernel
theorem xl_n8 : xl_8.all (fun q => decide (q.2.1 < 440 ∨ 1000 ≤ q.2.1)) = true := by decide +kernel
theorem xl_n9 : xl_9.all (fun q => decide (q.2.1 < 440 ∨ 1000 ≤ q.2.1)) = true := by decide +kernel
theorem xl_n10 : xl_10.all (fun q => decide (q.2.1 < 440 ∨ 1000 ≤ q.2.1)) = true := by decide +kernel
theorem xl_n11 : xl_11.all (fun q => decide (q.2.1 < 440 ∨ 1000 ≤ q.2.1)) = true := by decide +kernel
theorem xl_n12 : xl_12.all (fun q => decide (q.2.1 < 440 ∨ 1000 ≤ q.2.1)) = true := by decide +kernel
theorem xl_n13 : xl_13.all (fun q => decide (q.2.1 < 440 ∨ 1000 ≤ q.2.1)) = true := by decide +kernel
theorem xl_n14 : xl_14.all (fun q => decide (q.2.1 < 440 ∨ 1000 ≤ q.2.1)) = true := by decide +kernel
theorem xl_n15 : xl_15.all (fun q => decide (q.2.1 < 440 ∨ 1000 ≤ q.2.1)) = true := by decide +kernel
theorem xl_n16 : xl_16.all (fun q => decide (q.2.1 < 440 ∨ 1000 ≤ q.2.1)) = true := by decide +kernel
theorem xl_n17 : xl_17.all (fun q => decide (q.2.1 < 440 ∨ 1000 ≤ q.2.1)) = true := by decide +kernel
theorem xl_n18 : xl_18.all (fun q => decide (q.2.1 < 440 ∨ 1000 ≤ q.2.1)) = true := by decide +kernel
theorem xl_n19 : xl_19.all (fun q => decide (q.2.1 < 440 ∨ 1000 ≤ q.2.1)) = true := by decide +kernel
theorem xl_n20 : xl_20.all (fun q => decide (q.2.1 < 440 ∨ 1000 ≤ q.2.1)) = true := by decide +kernel
theorem xl_nall {m : Nat} (h : m < 21) : (xl m).all (fun q => decide (q.2.1 < 440 ∨ 1000 ≤ q.2.1)) = true := by
  rcases Nat.lt_or_ge m 10 with z | z
  · rcases Nat.lt_or_ge m 5 with z | z
    · rcases Nat.lt_or_ge m 2 with z | z
      · rcases Nat.lt_or_ge m 1 with z | z
        · obtain rfl : m = 0 := by omega
          exact xl_n0
        · obtain rfl : m = 1 := by omega
          exact xl_n1
      · rcases Nat.lt_or_ge m 3 with z | z
        · obtain rfl : m = 2 := by omega
          exact xl_n2
        · rcases Nat.lt_or_ge m 4 with z | z
          · obtain rfl : m = 3 := by omega
            exact xl_n3
          · obtain rfl : m = 4 := by omega
            exact xl_n4
    · rcases Nat.lt_or_ge m 7 with z | z
      · rcases Nat.lt_or_ge m 6 with z | z
        · obtain rfl : m = 5 := by omega
          exact xl_n5
        · obtain rfl : m = 6 := by omega
          exact xl_n6
      · rcases Nat.lt_or_ge m 8 with z | z
        · obtain rfl : m = 7 := by omega
          exact xl_n7
        · rcases Nat.lt_or_ge m 9 with z | z
          · obtain rfl : m = 8 := by omega
            exact xl_n8
          · obtain rfl : m = 9 := by omega
            exact xl_n9
  · rcases Nat.lt_or_ge m 15 with z | z
    · rcases Nat.lt_or_ge m 12 with z | z
      · rcases Nat.lt_or_ge m 11 with z | z
        · obtain rfl : m = 10 := by omega
          exact xl_n10
        · obtain rfl : m = 11 := by omega
          exact xl_n11
      · rcases Nat.lt_or_ge m 13 with z | z
        · obtain rfl : m = 12 := by omega
          exact xl_n12
        · rcases Nat.lt_or_ge m 14 with z | z
          · obtain rfl : m = 13 := by omega
            exact xl_n13
          · obtain rfl : m = 14 := by omega
            exact xl_n14
    · rcases Nat.lt_or_ge m 18 with z | z
      · rcases Nat.lt_or_ge m 16 with z | z
        · obtain rfl : m = 15 := by omega
          exact xl_n15
        · rcases Nat.lt_or_ge m 17 with z | z
          · obtain rfl : m = 16 := by omega
            exact xl_n16
          · obtain rfl : m = 17 := by omega
            exact xl_n17
      · rcases Nat.lt_or_ge m 19 with z | z
        · obtain rfl : m = 18 := by omega
          exact xl_n18
        · rcases Nat.lt_or_ge m 20 with z | z
          · obtain rfl : m = 19 := by omega
            exact xl_n19
          · obtain rfl : m = 20 := by omega
            exact xl_n20
theorem xD_mem {α : Type} {f : Nat → Option α} {l : List (Nat × α)} {ok : α → Nat → Bool} (hok : ∀ v i, ok v i = true → (i, v) ∈ l) (h : ((List.range 1100).all (fun i => match f i with | some v => ok v i | none => true)) = true) {i : Nat} {v : α} (hi : i < 1100) (hv : f i = some v) : (i, v) ∈ l := by
  have h1 := List.all_eq_true.mp h i (List.mem_range.mpr hi)
  simp only [hv] at h1
  exact hok v i h1
theorem xfD_any {l : List (Nat × Nat × Nat × Nat)} (v : Nat × Nat × Nat) (i : Nat) (h : l.any (fun q => decide (q = (i, v))) = true) : (i, v) ∈ l := by
  obtain ⟨q, h1, h2⟩ := List.any_eq_true.mp h
  rw [← of_decide_eq_true h2]; exact h1
set_option maxRecDepth 100000 in
set_option maxHeartbeats 4000000 in
theorem xfD_mem {m i : Nat} {v : Nat × Nat × Nat} (h : m < 21) (hv : xfD m i = some v) : (i, v) ∈ xf m := by
  unfold xfD at hv
  cases hi : Nat.blt i 1100 with
  | false => rw [hi] at hv; cases hv
  | true =>
    rw [hi] at hv
    have hi : i < 1100 := Nat.le_of_ble_eq_true hi
    rcases Nat.lt_or_ge m 10 with z | z
    · rcases Nat.lt_or_ge m 5 with z | z
      · rcases Nat.lt_or_ge m 2 with z | z
        · rcases Nat.lt_or_ge m 1 with z | z
          · obtain rfl : m = 0 := by omega
            exact xD_mem (f := xfD_0) (l := xf_0) (ok := fun v i => xf_0.any (fun q => decide (q = (i, v)))) (fun v i => xfD_any v i) xfD_ok0 hi hv
          · obtain rfl : m = 1 := by omega
            exact xD_mem (f := xfD_1) (l := xf_1) (ok := fun v i => xf_1.any (fun q => decide (q = (i, v)))) (fun v i => xfD_any v i) xfD_ok1 hi hv
        · rcases Nat.lt_or_ge m 3 with z | z
          · obtain rfl : m = 2 := by omega
            exact xD_mem (f := xfD_2) (l := xf_2) (ok := fun v i => xf_2.any (fun q => decide (q = (i, v)))) (fun v i => xfD_any v i) xfD_ok2 hi hv
          · rcases Nat.lt_or_ge m 4 with z | z
            · obtain rfl : m = 3 := by omega
              exact xD_mem (f := xfD_3) (l := xf_3) (ok := fun v i => xf_3.any (fun q => decide (q = (i, v)))) (fun v i => xfD_any v i) xfD_ok3 hi hv
            · obtain rfl : m = 4 := by omega
              exact xD_mem (f := xfD_4) (l := xf_4) (ok := fun v i => xf_4.any (fun q => decide (q = (i, v)))) (fun v i => xfD_any v i) xfD_ok4 hi hv
      · rcases Nat.lt_or_ge m 7 with z | z
        · rcases Nat.lt_or_ge m 6 with z | z
          · obtain rfl : m = 5 := by omega
            exact xD_mem (f := xfD_5) (l := xf_5) (ok := fun v i => xf_5.any (fun q => decide (q = (i, v)))) (fun v i => xfD_any v i) xfD_ok5 hi hv
          · obtain rfl : m = 6 := by omega
            exact xD_mem (f := xfD_6) (l := xf_6) (ok := fun v i => xf_6.any (fun q => decide (q = (i, v)))) (fun v i => xfD_any v i) xfD_ok6 hi hv
        · rcases Nat.lt_or_ge m 8 with z | z
          · obtain rfl : m = 7 := by omega
            exact xD_mem (f := xfD_7) (l := xf_7) (ok := fun v i => xf_7.any (fun q => decide (q = (i, v)))) (fun v i => xfD_any v i) xfD_ok7 hi hv
          · rcases Nat.lt_or_ge m 9 with z | z
            · obtain rfl : m = 8 := by omega
              exact xD_mem (f := xfD_8) (l := xf_8) (ok := fun v i => xf_8.any (fun q => decide (q = (i, v)))) (fun v i => xfD_any v i) xfD_ok8 hi hv
            · obtain rfl : m = 9 := by omega
              exact xD_mem (f := xfD_9) (l := xf_9) (ok := fun v i => xf_9.any (fun q => decide (q = (i, v)))) (fun v i => xfD_any v i) xfD_ok9 hi hv
    · rcases Nat.lt_or_ge m 15 with z | z
      · rcases Nat.lt_or_ge m 12 with z | z
        · rcases Nat.lt_or_ge m 11 with z | z
          · obtain rfl : m = 10 := by omega
            exact xD_mem (f := xfD_10) (l := xf_10) (ok := fun v i => xf_10.any (fun q => decide (q = (i, v)))) (fun v i => xfD_any v i) xfD_ok10 hi hv
          · obtain rfl : m = 11 := by omega
            exact xD_mem (f := xfD_11) (l := xf_11) (ok := fun v i => xf_11.any (fun q => decide (q = (i, v)))) (fun v i => xfD_any v i) xfD_ok11 hi hv
        · rcases Nat.lt_or_ge m 13 with z | z
          · obtain rfl : m = 12 := by omega
            exact xD_mem (f := xfD_12) (l := xf_12) (ok := fun v i => xf_12.any (fun q => decide (q = (i, v)))) (fun v i => xfD_any v i) xfD_ok12 hi hv
          · rcases Nat.lt_or_ge m 14 with z | z
            · obtain rfl : m = 13 := by omega
              exact xD_mem (f := xfD_13) (l := xf_13) (ok := fun v i => xf_13.any (fun q => decide (q = (i, v)))) (fun v i => xfD_any v i) xfD_ok13 hi hv
            · obtain rfl : m = 14 := by omega
              exact xD_mem (f := xfD_14) (l := xf_14) (ok := fun v i => xf_14.any (fun q => decide (q = (i, v)))) (fun v i => xfD_any v i) xfD_ok14 hi hv
      · rcases Nat.lt_or_ge m 18 with z | z
        · rcases Nat.lt_or_ge m 16 with z | z
          · obtain rfl : m = 15 := by omega
            exact xD_mem (f := xfD_15) (l := xf_15) (ok := fun v i => xf_15.any (fun q => decide (q = (i, v)))) (fun v i => xfD_any v i) xfD_ok15 hi hv
          · rcases Nat.lt_or_ge m 17 with z | z
            · obtain rfl : m = 16 := by omega
              exact xD_mem (f := xfD_16) (l := xf_16) (ok := fun v i => xf_16.any (fun q => decide (q = (i, v)))) (fun v i => xfD_any v i) xfD_ok16 hi hv
            · obtain rfl : m = 17 := by omega
              exact xD_mem (f := xfD_17) (l := xf_17) (ok := fun v i => xf_17.any (fun q => decide (q = (i, v)))) (fun v i => xfD_any v i) xfD_ok17 hi hv
        · rcases Nat.lt_or_ge m 19 with z | z
          · obtain rfl : m = 18 := by omega
            exact xD_mem (f := xfD_18) (l := xf_18) (ok := fun v i => xf_18.any (fun q => decide (q = (i, v)))) (fun v i => xfD_any v i) xfD_ok18 hi hv
          · rcases Nat.lt_or_ge m 20 with z | z
            · obtain rfl : m = 19 := by omega
              exact xD_mem (f := xfD_19) (l := xf_19) (ok := fun v i => xf_19.any (fun q => decide (q = (i, v)))) (fun v i => xfD_any v i) xfD_ok19 hi hv
            · obtain rfl : m = 20 := by omega
              exact xD_mem (f := xfD_20) (l := xf_20) (ok := fun v i => xf_20.any (fun q => decide (q = (i, v)))) (fun v i => xfD_any v i) xfD_ok20 hi hv
theorem xlD_any {l : List (Nat × Nat × Nat × Nat × Nat)} (v : Nat × Nat × Nat × Nat) (i : Nat) (h : l.any (fun q => decide (q = (i, v))) = true) : (i, v) ∈ l := by
  obtain ⟨q, h1, h2⟩ := List.any_eq_true.mp h
  rw [← of_decide_eq_true h2]; exact h1
set_option maxRecDepth 100000 in
set_option maxHeartbeats 4000000 in
theorem xlD_mem {m i : Nat} {v : Nat × Nat × Nat × Nat} (h : m < 21) (hv : xlD m i = some v) : (i, v) ∈ xl m := by
  unfold xlD at hv
  cases hi : Nat.blt i 1100 with
  | false => rw [hi] at hv; cases hv
  | true =>
    rw [hi] at hv
    have hi : i < 1100 := Nat.le_of_ble_eq_true hi
    rcases Nat.lt_or_ge m 10 with z | z
    · rcases Nat.lt_or_ge m 5 with z | z
      · rcases Nat.lt_or_ge m 2 with z | z
        · rcases Nat.lt_or_ge m 1 with z | z
          · obtain rfl : m = 0 := by omega
            exact xD_mem (f := xlD_0) (l := xl_0) (ok := fun v i => xl_0.any (fun q => decide (q = (i, v)))) (fun v i => xlD_any v i) xlD_ok0 hi hv
          · obtain rfl : m = 1 := by omega
            exact xD_mem (f := xlD_1) (l := xl_1) (ok := fun v i => xl_1.any (fun q => decide (q = (i, v)))) (fun v i => xlD_any v i) xlD_ok1 hi hv
        · rcases Nat.lt_or_ge m 3 with z | z
          · obtain rfl : m = 2 := by omega
            exact xD_mem (f := xlD_2) (l := xl_2) (ok := fun v i => xl_2.any (fun q => decide (q = (i, v)))) (fun v i => xlD_any v i) xlD_ok2 hi hv
          · rcases Nat.lt_or_ge m 4 with z | z
            · obtain rfl : m = 3 := by omega
              exact xD_mem (f := xlD_3) (l := xl_3) (ok := fun v i => xl_3.any (fun q => decide (q = (i, v)))) (fun v i => xlD_any v i) xlD_ok3 hi hv
            · obtain rfl : m = 4 := by omega
              exact xD_mem (f := xlD_4) (l := xl_4) (ok := fun v i => xl_4.any (fun q => decide (q = (i, v)))) (fun v i => xlD_any v i) xlD_ok4 hi hv
      · rcases Nat.lt_or_ge m 7 with z | z
        · rcases Nat.lt_or_ge m 6 with z | z
          · obtain rfl : m = 5 := by omega
            exact xD_mem (f := xlD_5) (l := xl_5) (ok := fun v i => xl_5.any (fun q => decide (q = (i, v)))) (fun v i => xlD_any v i) xlD_ok5 hi hv
          · obtain rfl : m = 6 := by omega
            exact xD_mem (f := xlD_6) (l := xl_6) (ok := fun v i => xl_6.any (fun q => decide (q = (i, v)))) (fun v i => xlD_any v i) xlD_ok6 hi hv
        · rcases Nat.lt_or_ge m 8 with z | z
          · obtain rfl : m = 7 := by omega
            exact xD_mem (f := xlD_7) (l := xl_7) (ok := fun v i => xl_7.any (fun q => decide (q = (i, v)))) (fun v i => xlD_any v i) xlD_ok7 hi hv
          · rcases Nat.lt_or_ge m 9 with z | z
            · obtain rfl : m = 8 := by omega
              exact xD_mem (f := xlD_8) (l := xl_8) (ok := fun v i => xl_8.any (fun q => decide (q = (i, v)))) (fun v i => xlD_any v i) xlD_ok8 hi hv
            · obtain rfl : m = 9 := by omega
              exact xD_mem (f := xlD_9) (l := xl_9) (ok := fun v i => xl_9.any (fun q => decide (q = (i, v)))) (fun v i => xlD_any v i) xlD_ok9 hi hv
    · rcases Nat.lt_or_ge m 15 with z | z
      · rcases Nat.lt_or_ge m 12 with z | z
        · rcases Nat.lt_or_ge m 11 with z | z
          · obtain rfl : m = 10 := by omega
            exact xD_mem (f := xlD_10) (l := xl_10) (ok := fun v i => xl_10.any (fun q => decide (q = (i, v)))) (fun v i => xlD_any v i) xlD_ok10 hi hv
          · obtain rfl : m = 11 := by omega
            exact xD_mem (f := xlD_11) (l := xl_11) (ok := fun v i => xl_11.any (fun q => decide (q = (i, v)))) (fun v i => xlD_any v i) xlD_ok11 hi hv
        · rcases Nat.lt_or_ge m 13 with z | z
          · obtain rfl : m = 12 := by omega
            exact xD_mem (f := xlD_12) (l := xl_12) (ok := fun v i => xl_12.any (fun q => decide (q = (i, v)))) (fun v i => xlD_any v i) xlD_ok12 hi hv
          · rcases Nat.lt_or_ge m 14 with z | z
            · obtain rfl : m = 13 := by omega
              exact xD_mem (f := xlD_13) (l := xl_13) (ok := fun v i => xl_13.any (fun q => decide (q = (i, v)))) (fun v i => xlD_any v i) xlD_ok13 hi hv
            · obtain rfl : m = 14 := by omega
              exact xD_mem (f := xlD_14) (l := xl_14) (ok := fun v i => xl_14.any (fun q => decide (q = (i, v)))) (fun v i => xlD_any v i) xlD_ok14 hi hv
      · rcases Nat.lt_or_ge m 18 with z | z
        · rcases Nat.lt_or_ge m 16 with z | z
          · obtain rfl : m = 15 := by omega
            exact xD_mem (f := xlD_15) (l := xl_15) (ok := fun v i => xl_15.any (fun q => decide (q = (i, v)))) (fun v i => xlD_any v i) xlD_ok15 hi hv
          · rcases Nat.lt_or_ge m 17 with z | z
            · obtain rfl : m = 16 := by omega
              exact xD_mem (f := xlD_16) (l := xl_16) (ok := fun v i => xl_16.any (fun q => decide (q = (i, v)))) (fun v i => xlD_any v i) xlD_ok16 hi hv
            · obtain rfl : m = 17 := by omega
              exact xD_mem (f := xlD_17) (l := xl_17) (ok := fun v i => xl_17.any (fun q => decide (q = (i, v)))) (fun v i => xlD_any v i) xlD_ok17 hi hv
        · rcases Nat.lt_or_ge m 19 with z | z
          · obtain rfl : m = 18 := by omega
            exact xD_mem (f := xlD_18) (l := xl_18) (ok := fun v i => xl_18.any (fun q => decide (q = (i, v)))) (fun v i => xlD_any v i) xlD_ok18 hi hv
          · rcases Nat.lt_or_ge m 20 with z | z
            · obtain rfl : m = 19 := by omega
              exact xD_mem (f := xlD_19) (l := xl_19) (ok := fun v i => xl_19.any (fun q => decide (q = (i, v)))) (fun v i => xlD_any v i) xlD_ok19 hi hv
            · obtain rfl : m = 20 := by omega
              exact xD_mem (f := xlD_20) (l := xl_20) (ok := fun v i => xl_20.any (fun q => decide (q = (i, v)))) (fun v i => xlD_any v i) xlD_ok20 hi hv
