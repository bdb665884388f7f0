/-! the instructions of the methods, as lists -/
abbrev XIs : Type := List (Nat × Instr × Nat)
def xi_ok (cc : ByteArray) (l : XIs) : Bool := l.all (fun q => decide (decode cc q.1 = .ok (q.2.1, q.2.2)))
theorem xi_c {cc : ByteArray} {b : Bool} {x y : XIs} (hx : xi_ok cc x = true) (hy : xi_ok cc y = true) : xi_ok cc (cond b x y) = true := by
  cases b
  · exact hy
  · exact hx
def xi_0_0 : XIs := [(0, .new 8, 3), (3, .dup, 1), (4, .invokespecial 141, 3), (7, .astore_n 1, 1), (8, .new 142, 3), (11, .dup, 1), (12, .invokespecial 144, 3), (15, .astore_n 2, 1), (16, .iconst 1, 1), (17, .newarray .long, 2), (19, .astore_n 3, 1), (20, .iconst 0, 1), (21, .istore 4, 2), (23, .iload 4, 2), (25, .aload_n 0, 1), (26, .arraylength, 1)]
set_option maxRecDepth 100000 in
theorem xi_ok0_0 : xi_ok code xi_0_0 = true := by decide +kernel
def xi_0_1 : XIs := [(27, .bipush 6, 2), (29, .isub, 1), (30, .if_icmp .gt 1860, 3), (33, .aload_n 0, 1), (34, .iload 4, 2), (36, .iaload, 1), (37, .bipush 63, 2), (39, .iand, 1), (40, .tableswitch 1844 0 46 #[204, 232, 308, 336, 388, 428, 456, 469, 497, 537, 565, 617, 673, 686, 699, 727, 740, 768, 808, 860, 900, 940, 1004, 1044, 1072, 1100, 1128, 1156, 1184, 1212, 1252, 1304, 1356, 1384, 1412, 1440, 1453, 1493, 1557, 1585, 1598, 1626, 1639, 1679, 1692, 1788, 1816], 204), (244, .aload_n 1, 1), (245, .aload_n 0, 1), (246, .iload 4, 2), (248, .iconst 1, 1), (249, .iadd, 1), (250, .iaload, 1), (251, .aload_n 3, 1)]
set_option maxRecDepth 100000 in
theorem xi_ok0_1 : xi_ok code xi_0_1 = true := by decide +kernel
def xi_0_2 : XIs := [(252, .invokestatic 145, 3), (255, .istore 5, 2), (257, .aload_n 2, 1), (258, .aload_n 0, 1), (259, .iload 4, 2), (261, .iconst 1, 1), (262, .iadd, 1), (263, .iaload, 1), (264, .invokevirtual 150, 3), (267, .istore 6, 2), (269, .goto 1615, 3), (272, .aload_n 1, 1), (273, .aload_n 0, 1), (274, .iload 4, 2), (276, .iconst 1, 1), (277, .iadd, 1)]
set_option maxRecDepth 100000 in
theorem xi_ok0_2 : xi_ok code xi_0_2 = true := by decide +kernel
def xi_0_3 : XIs := [(278, .iaload, 1), (279, .aload_n 0, 1), (280, .iload 4, 2), (282, .iconst 2, 1), (283, .iadd, 1), (284, .iaload, 1), (285, .aload_n 0, 1), (286, .iload 4, 2), (288, .iconst 3, 1), (289, .iadd, 1), (290, .iaload, 1), (291, .aload_n 0, 1), (292, .iload 4, 2), (294, .iconst 4, 1), (295, .iadd, 1), (296, .iaload, 1)]
set_option maxRecDepth 100000 in
theorem xi_ok0_3 : xi_ok code xi_0_3 = true := by decide +kernel
def xi_0_4 : XIs := [(297, .aload_n 0, 1), (298, .iload 4, 2), (300, .iconst 5, 1), (301, .iadd, 1), (302, .iaload, 1), (303, .aload_n 3, 1), (304, .invokestatic 151, 3), (307, .istore 5, 2), (309, .aload_n 2, 1), (310, .aload_n 0, 1), (311, .iload 4, 2), (313, .iconst 1, 1), (314, .iadd, 1), (315, .iaload, 1), (316, .aload_n 0, 1), (317, .iload 4, 2)]
set_option maxRecDepth 100000 in
theorem xi_ok0_4 : xi_ok code xi_0_4 = true := by decide +kernel
def xi_0_5 : XIs := [(319, .iconst 2, 1), (320, .iadd, 1), (321, .iaload, 1), (322, .aload_n 0, 1), (323, .iload 4, 2), (325, .iconst 3, 1), (326, .iadd, 1), (327, .iaload, 1), (328, .aload_n 0, 1), (329, .iload 4, 2), (331, .iconst 4, 1), (332, .iadd, 1), (333, .iaload, 1), (334, .aload_n 0, 1), (335, .iload 4, 2), (337, .iconst 5, 1)]
set_option maxRecDepth 100000 in
theorem xi_ok0_5 : xi_ok code xi_0_5 = true := by decide +kernel
def xi_0_6 : XIs := [(338, .iadd, 1), (339, .iaload, 1), (340, .invokevirtual 154, 3), (343, .istore 6, 2), (345, .goto 1539, 3), (348, .aload_n 1, 1), (349, .aload_n 0, 1), (350, .iload 4, 2), (352, .iconst 1, 1), (353, .iadd, 1), (354, .iaload, 1), (355, .aload_n 3, 1), (356, .invokestatic 155, 3), (359, .istore 5, 2), (361, .aload_n 2, 1), (362, .aload_n 0, 1)]
set_option maxRecDepth 100000 in
theorem xi_ok0_6 : xi_ok code xi_0_6 = true := by decide +kernel
def xi_0_7 : XIs := [(363, .iload 4, 2), (365, .iconst 1, 1), (366, .iadd, 1), (367, .iaload, 1), (368, .invokevirtual 157, 3), (371, .istore 6, 2), (373, .goto 1511, 3), (376, .aload_n 1, 1), (377, .aload_n 0, 1), (378, .iload 4, 2), (380, .iconst 1, 1), (381, .iadd, 1), (382, .iaload, 1), (383, .aload_n 0, 1), (384, .iload 4, 2), (386, .iconst 2, 1)]
set_option maxRecDepth 100000 in
theorem xi_ok0_7 : xi_ok code xi_0_7 = true := by decide +kernel
def xi_0_8 : XIs := [(387, .iadd, 1), (388, .iaload, 1), (389, .aload_n 0, 1), (390, .iload 4, 2), (392, .iconst 3, 1), (393, .iadd, 1), (394, .iaload, 1), (395, .aload_n 3, 1), (396, .invokestatic 158, 3), (399, .istore 5, 2), (401, .aload_n 2, 1), (402, .aload_n 0, 1), (403, .iload 4, 2), (405, .iconst 1, 1), (406, .iadd, 1), (407, .iaload, 1)]
set_option maxRecDepth 100000 in
theorem xi_ok0_8 : xi_ok code xi_0_8 = true := by decide +kernel
def xi_0_9 : XIs := [(408, .aload_n 0, 1), (409, .iload 4, 2), (411, .iconst 2, 1), (412, .iadd, 1), (413, .iaload, 1), (414, .aload_n 0, 1), (415, .iload 4, 2), (417, .iconst 3, 1), (418, .iadd, 1), (419, .iaload, 1), (420, .invokevirtual 161, 3), (423, .istore 6, 2), (425, .goto 1459, 3), (428, .aload_n 1, 1), (429, .aload_n 0, 1), (430, .iload 4, 2)]
set_option maxRecDepth 100000 in
theorem xi_ok0_9 : xi_ok code xi_0_9 = true := by decide +kernel
def xi_0_10 : XIs := [(432, .iconst 1, 1), (433, .iadd, 1), (434, .iaload, 1), (435, .aload_n 0, 1), (436, .iload 4, 2), (438, .iconst 2, 1), (439, .iadd, 1), (440, .iaload, 1), (441, .aload_n 3, 1), (442, .invokestatic 162, 3), (445, .istore 5, 2), (447, .aload_n 2, 1), (448, .aload_n 0, 1), (449, .iload 4, 2), (451, .iconst 1, 1), (452, .iadd, 1)]
set_option maxRecDepth 100000 in
theorem xi_ok0_10 : xi_ok code xi_0_10 = true := by decide +kernel
def xi_0_11 : XIs := [(453, .iaload, 1), (454, .aload_n 0, 1), (455, .iload 4, 2), (457, .iconst 2, 1), (458, .iadd, 1), (459, .iaload, 1), (460, .invokevirtual 165, 3), (463, .istore 6, 2), (465, .goto 1419, 3), (468, .aload_n 1, 1), (469, .aload_n 0, 1), (470, .iload 4, 2), (472, .iconst 1, 1), (473, .iadd, 1), (474, .iaload, 1), (475, .aload_n 3, 1)]
set_option maxRecDepth 100000 in
theorem xi_ok0_11 : xi_ok code xi_0_11 = true := by decide +kernel
def xi_0_12 : XIs := [(476, .invokestatic 166, 3), (479, .istore 5, 2), (481, .aload_n 2, 1), (482, .aload_n 0, 1), (483, .iload 4, 2), (485, .iconst 1, 1), (486, .iadd, 1), (487, .iaload, 1), (488, .invokevirtual 168, 3), (491, .istore 6, 2), (493, .goto 1391, 3), (496, .aload_n 1, 1), (497, .invokevirtual 169, 3), (500, .pop, 1), (501, .aload_n 2, 1), (502, .invokevirtual 173, 3)]
set_option maxRecDepth 100000 in
theorem xi_ok0_12 : xi_ok code xi_0_12 = true := by decide +kernel
def xi_0_13 : XIs := [(505, .pop, 1), (506, .goto 1378, 3), (509, .aload_n 1, 1), (510, .aload_n 0, 1), (511, .iload 4, 2), (513, .iconst 1, 1), (514, .iadd, 1), (515, .iaload, 1), (516, .aload_n 3, 1), (517, .invokestatic 174, 3), (520, .istore 5, 2), (522, .aload_n 2, 1), (523, .aload_n 0, 1), (524, .iload 4, 2), (526, .iconst 1, 1), (527, .iadd, 1)]
set_option maxRecDepth 100000 in
theorem xi_ok0_13 : xi_ok code xi_0_13 = true := by decide +kernel
def xi_0_14 : XIs := [(528, .iaload, 1), (529, .invokevirtual 176, 3), (532, .istore 6, 2), (534, .goto 1350, 3), (537, .aload_n 1, 1), (538, .aload_n 0, 1), (539, .iload 4, 2), (541, .iconst 1, 1), (542, .iadd, 1), (543, .iaload, 1), (544, .aload_n 0, 1), (545, .iload 4, 2), (547, .iconst 2, 1), (548, .iadd, 1), (549, .iaload, 1), (550, .aload_n 3, 1)]
set_option maxRecDepth 100000 in
theorem xi_ok0_14 : xi_ok code xi_0_14 = true := by decide +kernel
def xi_0_15 : XIs := [(551, .invokestatic 177, 3), (554, .istore 5, 2), (556, .aload_n 2, 1), (557, .aload_n 0, 1), (558, .iload 4, 2), (560, .iconst 1, 1), (561, .iadd, 1), (562, .iaload, 1), (563, .aload_n 0, 1), (564, .iload 4, 2), (566, .iconst 2, 1), (567, .iadd, 1), (568, .iaload, 1), (569, .invokevirtual 179, 3), (572, .lstore 6, 2), (574, .goto 1310, 3)]
set_option maxRecDepth 100000 in
theorem xi_ok0_15 : xi_ok code xi_0_15 = true := by decide +kernel
def xi_0_16 : XIs := [(577, .aload_n 1, 1), (578, .aload_n 0, 1), (579, .iload 4, 2), (581, .iconst 1, 1), (582, .iadd, 1), (583, .iaload, 1), (584, .aload_n 3, 1), (585, .invokestatic 180, 3), (588, .istore 5, 2), (590, .aload_n 2, 1), (591, .aload_n 0, 1), (592, .iload 4, 2), (594, .iconst 1, 1), (595, .iadd, 1), (596, .iaload, 1)]
set_option maxRecDepth 100000 in
theorem xi_ok0_16 : xi_ok code xi_0_16 = true := by decide +kernel
def xi_0_17 : XIs := [(597, .invokevirtual 182, 3), (600, .istore 6, 2), (602, .goto 1282, 3), (605, .aload_n 1, 1), (606, .aload_n 0, 1), (607, .iload 4, 2), (609, .iconst 1, 1), (610, .iadd, 1), (611, .iaload, 1), (612, .aload_n 0, 1), (613, .iload 4, 2), (615, .iconst 2, 1), (616, .iadd, 1), (617, .iaload, 1), (618, .aload_n 0, 1)]
set_option maxRecDepth 100000 in
theorem xi_ok0_17 : xi_ok code xi_0_17 = true := by decide +kernel
def xi_0_18 : XIs := [(619, .iload 4, 2), (621, .iconst 3, 1), (622, .iadd, 1), (623, .iaload, 1), (624, .aload_n 3, 1), (625, .invokestatic 183, 3), (628, .istore 5, 2), (630, .aload_n 2, 1), (631, .aload_n 0, 1), (632, .iload 4, 2), (634, .iconst 1, 1), (635, .iadd, 1), (636, .iaload, 1), (637, .aload_n 0, 1)]
set_option maxRecDepth 100000 in
theorem xi_ok0_18 : xi_ok code xi_0_18 = true := by decide +kernel
def xi_0_19 : XIs := [(638, .iload 4, 2), (640, .iconst 2, 1), (641, .iadd, 1), (642, .iaload, 1), (643, .aload_n 0, 1), (644, .iload 4, 2), (646, .iconst 3, 1), (647, .iadd, 1), (648, .iaload, 1), (649, .invokevirtual 185, 3), (652, .istore 6, 2), (654, .goto 1230, 3), (657, .aload_n 1, 1), (658, .aload_n 0, 1)]
set_option maxRecDepth 100000 in
theorem xi_ok0_19 : xi_ok code xi_0_19 = true := by decide +kernel
def xi_0_20 : XIs := [(659, .iload 4, 2), (661, .iconst 1, 1), (662, .iadd, 1), (663, .iaload, 1), (664, .aload_n 3, 1), (665, .invokestatic 186, 3), (668, .istore 5, 2), (670, .aload_n 2, 1), (671, .aload_n 0, 1), (672, .iload 4, 2), (674, .iconst 1, 1), (675, .iadd, 1), (676, .iaload, 1), (677, .invokevirtual 188, 3)]
set_option maxRecDepth 100000 in
theorem xi_ok0_20 : xi_ok code xi_0_20 = true := by decide +kernel
def xi_0_21 : XIs := [(680, .istore 6, 2), (682, .aload_n 2, 1), (683, .invokevirtual 189, 3), (686, .iload 5, 2), (688, .if_icmp .eq 5, 3), (691, .iconst 0, 1), (692, .ireturn, 1), (693, .iload 5, 2), (695, .ifCond .ne 15, 3), (698, .aload_n 3, 1), (699, .iconst 0, 1), (700, .laload, 1), (701, .iload 6, 2)]
set_option maxRecDepth 100000 in
theorem xi_ok0_21 : xi_ok code xi_0_21 = true := by decide +kernel
def xi_0_22 : XIs := [(703, .i2l, 1), (704, .lcmp, 1), (705, .ifCond .eq 5, 3), (708, .iconst 0, 1), (709, .ireturn, 1), (710, .goto 1174, 3), (713, .aload_n 1, 1), (714, .invokevirtual 192, 3), (717, .pop, 1), (718, .aload_n 2, 1), (719, .invokevirtual 195, 3), (722, .pop, 1), (723, .goto 1161, 3)]
set_option maxRecDepth 100000 in
theorem xi_ok0_22 : xi_ok code xi_0_22 = true := by decide +kernel
def xi_0_23 : XIs := [(726, .aload_n 1, 1), (727, .invokevirtual 196, 3), (730, .pop, 1), (731, .aload_n 2, 1), (732, .invokevirtual 199, 3), (735, .pop, 1), (736, .goto 1148, 3), (739, .aload_n 1, 1), (740, .aload_n 0, 1), (741, .iload 4, 2), (743, .iconst 1, 1), (744, .iadd, 1)]
set_option maxRecDepth 100000 in
theorem xi_ok0_23 : xi_ok code xi_0_23 = true := by decide +kernel
def xi_0_24 : XIs := [(745, .iaload, 1), (746, .aload_n 3, 1), (747, .invokestatic 200, 3), (750, .istore 5, 2), (752, .aload_n 2, 1), (753, .aload_n 0, 1), (754, .iload 4, 2), (756, .iconst 1, 1), (757, .iadd, 1), (758, .iaload, 1), (759, .invokevirtual 202, 3), (762, .istore 6, 2)]
set_option maxRecDepth 100000 in
theorem xi_ok0_24 : xi_ok code xi_0_24 = true := by decide +kernel
def xi_0_25 : XIs := [(764, .goto 1120, 3), (767, .aload_n 1, 1), (768, .invokevirtual 203, 3), (771, .pop, 1), (772, .aload_n 2, 1), (773, .invokevirtual 206, 3), (776, .pop, 1), (777, .goto 1107, 3), (780, .aload_n 1, 1), (781, .aload_n 0, 1), (782, .iload 4, 2), (784, .iconst 1, 1)]
set_option maxRecDepth 100000 in
theorem xi_ok0_25 : xi_ok code xi_0_25 = true := by decide +kernel
def xi_0_26 : XIs := [(785, .iadd, 1), (786, .iaload, 1), (787, .aload_n 3, 1), (788, .invokestatic 207, 3), (791, .istore 5, 2), (793, .aload_n 2, 1), (794, .aload_n 0, 1), (795, .iload 4, 2), (797, .iconst 1, 1), (798, .iadd, 1), (799, .iaload, 1), (800, .invokevirtual 209, 3)]
set_option maxRecDepth 100000 in
theorem xi_ok0_26 : xi_ok code xi_0_26 = true := by decide +kernel
def xi_0_27 : XIs := [(803, .istore 6, 2), (805, .goto 1079, 3), (808, .aload_n 1, 1), (809, .aload_n 0, 1), (810, .iload 4, 2), (812, .iconst 1, 1), (813, .iadd, 1), (814, .iaload, 1), (815, .aload_n 0, 1), (816, .iload 4, 2), (818, .iconst 2, 1)]
set_option maxRecDepth 100000 in
theorem xi_ok0_27 : xi_ok code xi_0_27 = true := by decide +kernel
def xi_0_28 : XIs := [(819, .iadd, 1), (820, .iaload, 1), (821, .aload_n 3, 1), (822, .invokestatic 210, 3), (825, .istore 5, 2), (827, .aload_n 2, 1), (828, .aload_n 0, 1), (829, .iload 4, 2), (831, .iconst 1, 1), (832, .iadd, 1), (833, .iaload, 1)]
set_option maxRecDepth 100000 in
theorem xi_ok0_28 : xi_ok code xi_0_28 = true := by decide +kernel
def xi_0_29 : XIs := [(834, .aload_n 0, 1), (835, .iload 4, 2), (837, .iconst 2, 1), (838, .iadd, 1), (839, .iaload, 1), (840, .invokevirtual 212, 3), (843, .lstore 6, 2), (845, .goto 1039, 3), (848, .aload_n 1, 1), (849, .aload_n 0, 1), (850, .iload 4, 2)]
set_option maxRecDepth 100000 in
theorem xi_ok0_29 : xi_ok code xi_0_29 = true := by decide +kernel
def xi_0_30 : XIs := [(852, .iconst 1, 1), (853, .iadd, 1), (854, .iaload, 1), (855, .aload_n 0, 1), (856, .iload 4, 2), (858, .iconst 2, 1), (859, .iadd, 1), (860, .iaload, 1), (861, .aload_n 0, 1), (862, .iload 4, 2), (864, .iconst 3, 1)]
set_option maxRecDepth 100000 in
theorem xi_ok0_30 : xi_ok code xi_0_30 = true := by decide +kernel
def xi_0_31 : XIs := [(865, .iadd, 1), (866, .iaload, 1), (867, .aload_n 3, 1), (868, .invokestatic 213, 3), (871, .istore 5, 2), (873, .aload_n 2, 1), (874, .aload_n 0, 1), (875, .iload 4, 2), (877, .iconst 1, 1), (878, .iadd, 1), (879, .iaload, 1)]
set_option maxRecDepth 100000 in
theorem xi_ok0_31 : xi_ok code xi_0_31 = true := by decide +kernel
def xi_0_32 : XIs := [(880, .aload_n 0, 1), (881, .iload 4, 2), (883, .iconst 2, 1), (884, .iadd, 1), (885, .iaload, 1), (886, .aload_n 0, 1), (887, .iload 4, 2), (889, .iconst 3, 1), (890, .iadd, 1), (891, .iaload, 1)]
set_option maxRecDepth 100000 in
theorem xi_ok0_32 : xi_ok code xi_0_32 = true := by decide +kernel
