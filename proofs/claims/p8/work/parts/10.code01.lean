/-! the instructions of the methods, as lists -/
abbrev XIs : Type := List (Nat × Instr × Nat)
def xi_ok (cc : ByteArray) (l : XIs) : Bool := l.all (fun q => decide (decode cc q.1 = .ok (q.2.1, q.2.2)))
theorem xi_c {cc : ByteArray} {b : Bool} {x y : XIs} (hx : xi_ok cc x = true) (hy : xi_ok cc y = true) : xi_ok cc (cond b x y) = true := by
  cases b
  · exact hy
  · exact hx
def xi_0_0 : XIs := [(0, .new 8, 3), (3, .dup, 1), (4, .invokespecial 141, 3), (7, .astore_n 1, 1), (8, .new 142, 3), (11, .dup, 1), (12, .invokespecial 144, 3), (15, .astore_n 2, 1), (16, .iconst 1, 1), (17, .newarray .long, 2), (19, .astore_n 3, 1), (20, .iconst 0, 1), (21, .istore 4, 2), (23, .iload 4, 2), (25, .aload_n 0, 1), (26, .arraylength, 1)]
set_option maxRecDepth 100000 in
theorem xi_ok0_0 : xi_ok code xi_0_0 = true := by decide +kernel
def xi_0_1 : XIs := [(27, .bipush 6, 2), (29, .isub, 1), (30, .if_icmp .gt 1832, 3), (33, .aload_n 0, 1), (34, .iload 4, 2), (36, .iaload, 1), (37, .bipush 63, 2), (39, .iand, 1), (40, .tableswitch 1816 0 46 #[204, 232, 308, 336, 388, 428, 456, 469, 497, 537, 565, 617, 645, 658, 671, 699, 712, 740, 780, 832, 872, 912, 976, 1016, 1044, 1072, 1100, 1128, 1156, 1184, 1224, 1276, 1328, 1356, 1384, 1412, 1425, 1465, 1529, 1557, 1570, 1598, 1611, 1651, 1664, 1760, 1788], 204), (244, .aload_n 1, 1), (245, .aload_n 0, 1), (246, .iload 4, 2), (248, .iconst 1, 1), (249, .iadd, 1), (250, .iaload, 1), (251, .aload_n 3, 1)]
set_option maxRecDepth 100000 in
theorem xi_ok0_1 : xi_ok code xi_0_1 = true := by decide +kernel
def xi_0_2 : XIs := [(252, .invokestatic 145, 3), (255, .istore 5, 2), (257, .aload_n 2, 1), (258, .aload_n 0, 1), (259, .iload 4, 2), (261, .iconst 1, 1), (262, .iadd, 1), (263, .iaload, 1), (264, .invokevirtual 150, 3), (267, .istore 6, 2), (269, .goto 1587, 3), (272, .aload_n 1, 1), (273, .aload_n 0, 1), (274, .iload 4, 2), (276, .iconst 1, 1), (277, .iadd, 1)]
set_option maxRecDepth 100000 in
theorem xi_ok0_2 : xi_ok code xi_0_2 = true := by decide +kernel
def xi_0_3 : XIs := [(278, .iaload, 1), (279, .aload_n 0, 1), (280, .iload 4, 2), (282, .iconst 2, 1), (283, .iadd, 1), (284, .iaload, 1), (285, .aload_n 0, 1), (286, .iload 4, 2), (288, .iconst 3, 1), (289, .iadd, 1), (290, .iaload, 1), (291, .aload_n 0, 1), (292, .iload 4, 2), (294, .iconst 4, 1), (295, .iadd, 1), (296, .iaload, 1)]
set_option maxRecDepth 100000 in
theorem xi_ok0_3 : xi_ok code xi_0_3 = true := by decide +kernel
def xi_0_4 : XIs := [(297, .aload_n 0, 1), (298, .iload 4, 2), (300, .iconst 5, 1), (301, .iadd, 1), (302, .iaload, 1), (303, .aload_n 3, 1), (304, .invokestatic 151, 3), (307, .istore 5, 2), (309, .aload_n 2, 1), (310, .aload_n 0, 1), (311, .iload 4, 2), (313, .iconst 1, 1), (314, .iadd, 1), (315, .iaload, 1), (316, .aload_n 0, 1), (317, .iload 4, 2)]
set_option maxRecDepth 100000 in
theorem xi_ok0_4 : xi_ok code xi_0_4 = true := by decide +kernel
def xi_0_5 : XIs := [(319, .iconst 2, 1), (320, .iadd, 1), (321, .iaload, 1), (322, .aload_n 0, 1), (323, .iload 4, 2), (325, .iconst 3, 1), (326, .iadd, 1), (327, .iaload, 1), (328, .aload_n 0, 1), (329, .iload 4, 2), (331, .iconst 4, 1), (332, .iadd, 1), (333, .iaload, 1), (334, .aload_n 0, 1), (335, .iload 4, 2), (337, .iconst 5, 1)]
set_option maxRecDepth 100000 in
theorem xi_ok0_5 : xi_ok code xi_0_5 = true := by decide +kernel
def xi_0_6 : XIs := [(338, .iadd, 1), (339, .iaload, 1), (340, .invokevirtual 154, 3), (343, .istore 6, 2), (345, .goto 1511, 3), (348, .aload_n 1, 1), (349, .aload_n 0, 1), (350, .iload 4, 2), (352, .iconst 1, 1), (353, .iadd, 1), (354, .iaload, 1), (355, .aload_n 3, 1), (356, .invokestatic 155, 3), (359, .istore 5, 2), (361, .aload_n 2, 1), (362, .aload_n 0, 1)]
set_option maxRecDepth 100000 in
theorem xi_ok0_6 : xi_ok code xi_0_6 = true := by decide +kernel
def xi_0_7 : XIs := [(363, .iload 4, 2), (365, .iconst 1, 1), (366, .iadd, 1), (367, .iaload, 1), (368, .invokevirtual 157, 3), (371, .istore 6, 2), (373, .goto 1483, 3), (376, .aload_n 1, 1), (377, .aload_n 0, 1), (378, .iload 4, 2), (380, .iconst 1, 1), (381, .iadd, 1), (382, .iaload, 1), (383, .aload_n 0, 1), (384, .iload 4, 2), (386, .iconst 2, 1)]
set_option maxRecDepth 100000 in
theorem xi_ok0_7 : xi_ok code xi_0_7 = true := by decide +kernel
def xi_0_8 : XIs := [(387, .iadd, 1), (388, .iaload, 1), (389, .aload_n 0, 1), (390, .iload 4, 2), (392, .iconst 3, 1), (393, .iadd, 1), (394, .iaload, 1), (395, .aload_n 3, 1), (396, .invokestatic 158, 3), (399, .istore 5, 2), (401, .aload_n 2, 1), (402, .aload_n 0, 1), (403, .iload 4, 2), (405, .iconst 1, 1), (406, .iadd, 1), (407, .iaload, 1)]
set_option maxRecDepth 100000 in
theorem xi_ok0_8 : xi_ok code xi_0_8 = true := by decide +kernel
def xi_0_9 : XIs := [(408, .aload_n 0, 1), (409, .iload 4, 2), (411, .iconst 2, 1), (412, .iadd, 1), (413, .iaload, 1), (414, .aload_n 0, 1), (415, .iload 4, 2), (417, .iconst 3, 1), (418, .iadd, 1), (419, .iaload, 1), (420, .invokevirtual 161, 3), (423, .istore 6, 2), (425, .goto 1431, 3), (428, .aload_n 1, 1), (429, .aload_n 0, 1), (430, .iload 4, 2)]
set_option maxRecDepth 100000 in
theorem xi_ok0_9 : xi_ok code xi_0_9 = true := by decide +kernel
def xi_0_10 : XIs := [(432, .iconst 1, 1), (433, .iadd, 1), (434, .iaload, 1), (435, .aload_n 0, 1), (436, .iload 4, 2), (438, .iconst 2, 1), (439, .iadd, 1), (440, .iaload, 1), (441, .aload_n 3, 1), (442, .invokestatic 162, 3), (445, .istore 5, 2), (447, .aload_n 2, 1), (448, .aload_n 0, 1), (449, .iload 4, 2), (451, .iconst 1, 1), (452, .iadd, 1)]
set_option maxRecDepth 100000 in
theorem xi_ok0_10 : xi_ok code xi_0_10 = true := by decide +kernel
def xi_0_11 : XIs := [(453, .iaload, 1), (454, .aload_n 0, 1), (455, .iload 4, 2), (457, .iconst 2, 1), (458, .iadd, 1), (459, .iaload, 1), (460, .invokevirtual 165, 3), (463, .istore 6, 2), (465, .goto 1391, 3), (468, .aload_n 1, 1), (469, .aload_n 0, 1), (470, .iload 4, 2), (472, .iconst 1, 1), (473, .iadd, 1), (474, .iaload, 1), (475, .aload_n 3, 1)]
set_option maxRecDepth 100000 in
theorem xi_ok0_11 : xi_ok code xi_0_11 = true := by decide +kernel
def xi_0_12 : XIs := [(476, .invokestatic 166, 3), (479, .istore 5, 2), (481, .aload_n 2, 1), (482, .aload_n 0, 1), (483, .iload 4, 2), (485, .iconst 1, 1), (486, .iadd, 1), (487, .iaload, 1), (488, .invokevirtual 168, 3), (491, .istore 6, 2), (493, .goto 1363, 3), (496, .aload_n 1, 1), (497, .invokevirtual 169, 3), (500, .aload_n 2, 1), (501, .invokevirtual 173, 3), (504, .if_icmp .eq 1352, 3)]
set_option maxRecDepth 100000 in
theorem xi_ok0_12 : xi_ok code xi_0_12 = true := by decide +kernel
def xi_0_13 : XIs := [(507, .iconst 0, 1), (508, .ireturn, 1), (509, .aload_n 1, 1), (510, .aload_n 0, 1), (511, .iload 4, 2), (513, .iconst 1, 1), (514, .iadd, 1), (515, .iaload, 1), (516, .aload_n 3, 1), (517, .invokestatic 174, 3), (520, .istore 5, 2), (522, .aload_n 2, 1), (523, .aload_n 0, 1), (524, .iload 4, 2), (526, .iconst 1, 1), (527, .iadd, 1)]
set_option maxRecDepth 100000 in
theorem xi_ok0_13 : xi_ok code xi_0_13 = true := by decide +kernel
def xi_0_14 : XIs := [(528, .iaload, 1), (529, .invokevirtual 176, 3), (532, .istore 6, 2), (534, .goto 1322, 3), (537, .aload_n 1, 1), (538, .aload_n 0, 1), (539, .iload 4, 2), (541, .iconst 1, 1), (542, .iadd, 1), (543, .iaload, 1), (544, .aload_n 0, 1), (545, .iload 4, 2), (547, .iconst 2, 1), (548, .iadd, 1), (549, .iaload, 1), (550, .aload_n 3, 1)]
set_option maxRecDepth 100000 in
theorem xi_ok0_14 : xi_ok code xi_0_14 = true := by decide +kernel
def xi_0_15 : XIs := [(551, .invokestatic 177, 3), (554, .istore 5, 2), (556, .aload_n 2, 1), (557, .aload_n 0, 1), (558, .iload 4, 2), (560, .iconst 1, 1), (561, .iadd, 1), (562, .iaload, 1), (563, .aload_n 0, 1), (564, .iload 4, 2), (566, .iconst 2, 1), (567, .iadd, 1), (568, .iaload, 1), (569, .invokevirtual 179, 3), (572, .lstore 6, 2), (574, .goto 1282, 3)]
set_option maxRecDepth 100000 in
theorem xi_ok0_15 : xi_ok code xi_0_15 = true := by decide +kernel
def xi_0_16 : XIs := [(577, .aload_n 1, 1), (578, .aload_n 0, 1), (579, .iload 4, 2), (581, .iconst 1, 1), (582, .iadd, 1), (583, .iaload, 1), (584, .aload_n 3, 1), (585, .invokestatic 180, 3), (588, .istore 5, 2), (590, .aload_n 2, 1), (591, .aload_n 0, 1), (592, .iload 4, 2), (594, .iconst 1, 1), (595, .iadd, 1), (596, .iaload, 1)]
set_option maxRecDepth 100000 in
theorem xi_ok0_16 : xi_ok code xi_0_16 = true := by decide +kernel
def xi_0_17 : XIs := [(597, .invokevirtual 182, 3), (600, .istore 6, 2), (602, .goto 1254, 3), (605, .aload_n 1, 1), (606, .aload_n 0, 1), (607, .iload 4, 2), (609, .iconst 1, 1), (610, .iadd, 1), (611, .iaload, 1), (612, .aload_n 0, 1), (613, .iload 4, 2), (615, .iconst 2, 1), (616, .iadd, 1), (617, .iaload, 1), (618, .aload_n 0, 1)]
set_option maxRecDepth 100000 in
theorem xi_ok0_17 : xi_ok code xi_0_17 = true := by decide +kernel
def xi_0_18 : XIs := [(619, .iload 4, 2), (621, .iconst 3, 1), (622, .iadd, 1), (623, .iaload, 1), (624, .aload_n 3, 1), (625, .invokestatic 183, 3), (628, .istore 5, 2), (630, .aload_n 2, 1), (631, .aload_n 0, 1), (632, .iload 4, 2), (634, .iconst 1, 1), (635, .iadd, 1), (636, .iaload, 1), (637, .aload_n 0, 1)]
set_option maxRecDepth 100000 in
theorem xi_ok0_18 : xi_ok code xi_0_18 = true := by decide +kernel
def xi_0_19 : XIs := [(638, .iload 4, 2), (640, .iconst 2, 1), (641, .iadd, 1), (642, .iaload, 1), (643, .aload_n 0, 1), (644, .iload 4, 2), (646, .iconst 3, 1), (647, .iadd, 1), (648, .iaload, 1), (649, .invokevirtual 185, 3), (652, .istore 6, 2), (654, .goto 1202, 3), (657, .aload_n 1, 1), (658, .aload_n 0, 1)]
set_option maxRecDepth 100000 in
theorem xi_ok0_19 : xi_ok code xi_0_19 = true := by decide +kernel
def xi_0_20 : XIs := [(659, .iload 4, 2), (661, .iconst 1, 1), (662, .iadd, 1), (663, .iaload, 1), (664, .aload_n 3, 1), (665, .invokestatic 186, 3), (668, .istore 5, 2), (670, .aload_n 2, 1), (671, .aload_n 0, 1), (672, .iload 4, 2), (674, .iconst 1, 1), (675, .iadd, 1), (676, .iaload, 1), (677, .invokevirtual 188, 3)]
set_option maxRecDepth 100000 in
theorem xi_ok0_20 : xi_ok code xi_0_20 = true := by decide +kernel
def xi_0_21 : XIs := [(680, .istore 6, 2), (682, .goto 1174, 3), (685, .aload_n 1, 1), (686, .invokevirtual 189, 3), (689, .pop, 1), (690, .aload_n 2, 1), (691, .invokevirtual 192, 3), (694, .pop, 1), (695, .goto 1161, 3), (698, .aload_n 1, 1), (699, .invokevirtual 193, 3), (702, .pop, 1), (703, .aload_n 2, 1)]
set_option maxRecDepth 100000 in
theorem xi_ok0_21 : xi_ok code xi_0_21 = true := by decide +kernel
def xi_0_22 : XIs := [(704, .invokevirtual 196, 3), (707, .pop, 1), (708, .goto 1148, 3), (711, .aload_n 1, 1), (712, .aload_n 0, 1), (713, .iload 4, 2), (715, .iconst 1, 1), (716, .iadd, 1), (717, .iaload, 1), (718, .aload_n 3, 1), (719, .invokestatic 197, 3), (722, .istore 5, 2), (724, .aload_n 2, 1)]
set_option maxRecDepth 100000 in
theorem xi_ok0_22 : xi_ok code xi_0_22 = true := by decide +kernel
def xi_0_23 : XIs := [(725, .aload_n 0, 1), (726, .iload 4, 2), (728, .iconst 1, 1), (729, .iadd, 1), (730, .iaload, 1), (731, .invokevirtual 199, 3), (734, .istore 6, 2), (736, .goto 1120, 3), (739, .aload_n 1, 1), (740, .invokevirtual 200, 3), (743, .pop, 1), (744, .aload_n 2, 1)]
set_option maxRecDepth 100000 in
theorem xi_ok0_23 : xi_ok code xi_0_23 = true := by decide +kernel
def xi_0_24 : XIs := [(745, .invokevirtual 203, 3), (748, .pop, 1), (749, .goto 1107, 3), (752, .aload_n 1, 1), (753, .aload_n 0, 1), (754, .iload 4, 2), (756, .iconst 1, 1), (757, .iadd, 1), (758, .iaload, 1), (759, .aload_n 3, 1), (760, .invokestatic 204, 3), (763, .istore 5, 2)]
set_option maxRecDepth 100000 in
theorem xi_ok0_24 : xi_ok code xi_0_24 = true := by decide +kernel
def xi_0_25 : XIs := [(765, .aload_n 2, 1), (766, .aload_n 0, 1), (767, .iload 4, 2), (769, .iconst 1, 1), (770, .iadd, 1), (771, .iaload, 1), (772, .invokevirtual 206, 3), (775, .istore 6, 2), (777, .goto 1079, 3), (780, .aload_n 1, 1), (781, .aload_n 0, 1), (782, .iload 4, 2)]
set_option maxRecDepth 100000 in
theorem xi_ok0_25 : xi_ok code xi_0_25 = true := by decide +kernel
def xi_0_26 : XIs := [(784, .iconst 1, 1), (785, .iadd, 1), (786, .iaload, 1), (787, .aload_n 0, 1), (788, .iload 4, 2), (790, .iconst 2, 1), (791, .iadd, 1), (792, .iaload, 1), (793, .aload_n 3, 1), (794, .invokestatic 207, 3), (797, .istore 5, 2), (799, .aload_n 2, 1)]
set_option maxRecDepth 100000 in
theorem xi_ok0_26 : xi_ok code xi_0_26 = true := by decide +kernel
def xi_0_27 : XIs := [(800, .aload_n 0, 1), (801, .iload 4, 2), (803, .iconst 1, 1), (804, .iadd, 1), (805, .iaload, 1), (806, .aload_n 0, 1), (807, .iload 4, 2), (809, .iconst 2, 1), (810, .iadd, 1), (811, .iaload, 1), (812, .invokevirtual 209, 3)]
set_option maxRecDepth 100000 in
theorem xi_ok0_27 : xi_ok code xi_0_27 = true := by decide +kernel
def xi_0_28 : XIs := [(815, .lstore 6, 2), (817, .goto 1039, 3), (820, .aload_n 1, 1), (821, .aload_n 0, 1), (822, .iload 4, 2), (824, .iconst 1, 1), (825, .iadd, 1), (826, .iaload, 1), (827, .aload_n 0, 1), (828, .iload 4, 2), (830, .iconst 2, 1)]
set_option maxRecDepth 100000 in
theorem xi_ok0_28 : xi_ok code xi_0_28 = true := by decide +kernel
def xi_0_29 : XIs := [(831, .iadd, 1), (832, .iaload, 1), (833, .aload_n 0, 1), (834, .iload 4, 2), (836, .iconst 3, 1), (837, .iadd, 1), (838, .iaload, 1), (839, .aload_n 3, 1), (840, .invokestatic 210, 3), (843, .istore 5, 2), (845, .aload_n 2, 1)]
set_option maxRecDepth 100000 in
theorem xi_ok0_29 : xi_ok code xi_0_29 = true := by decide +kernel
def xi_0_30 : XIs := [(846, .aload_n 0, 1), (847, .iload 4, 2), (849, .iconst 1, 1), (850, .iadd, 1), (851, .iaload, 1), (852, .aload_n 0, 1), (853, .iload 4, 2), (855, .iconst 2, 1), (856, .iadd, 1), (857, .iaload, 1), (858, .aload_n 0, 1)]
set_option maxRecDepth 100000 in
theorem xi_ok0_30 : xi_ok code xi_0_30 = true := by decide +kernel
def xi_0_31 : XIs := [(859, .iload 4, 2), (861, .iconst 3, 1), (862, .iadd, 1), (863, .iaload, 1), (864, .invokevirtual 212, 3), (867, .istore 6, 2), (869, .goto 987, 3), (872, .aload_n 1, 1), (873, .aload_n 0, 1), (874, .iload 4, 2), (876, .iconst 1, 1)]
set_option maxRecDepth 100000 in
theorem xi_ok0_31 : xi_ok code xi_0_31 = true := by decide +kernel
def xi_0_32 : XIs := [(877, .iadd, 1), (878, .iaload, 1), (879, .aload_n 0, 1), (880, .iload 4, 2), (882, .iconst 2, 1), (883, .iadd, 1), (884, .iaload, 1), (885, .aload_n 3, 1), (886, .invokestatic 213, 3), (889, .istore 5, 2)]
set_option maxRecDepth 100000 in
theorem xi_ok0_32 : xi_ok code xi_0_32 = true := by decide +kernel
