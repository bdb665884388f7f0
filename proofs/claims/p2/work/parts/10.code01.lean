/-! the instructions of the methods, as lists -/
abbrev XIs : Type := List (Nat × Instr × Nat)
def xi_ok (cc : ByteArray) (l : XIs) : Bool := l.all (fun q => decide (decode cc q.1 = .ok (q.2.1, q.2.2)))
theorem xi_c {cc : ByteArray} {b : Bool} {x y : XIs} (hx : xi_ok cc x = true) (hy : xi_ok cc y = true) : xi_ok cc (cond b x y) = true := by
  cases b
  · exact hy
  · exact hx
def xi_0_0 : XIs := [(0, .new 8, 3), (3, .dup, 1), (4, .invokespecial 141, 3), (7, .astore_n 1, 1), (8, .new 142, 3), (11, .dup, 1), (12, .invokespecial 144, 3), (15, .astore_n 2, 1), (16, .iconst 1, 1), (17, .newarray .long, 2), (19, .astore_n 3, 1), (20, .iconst 0, 1), (21, .istore 4, 2), (23, .iload 4, 2), (25, .aload_n 0, 1), (26, .arraylength, 1)]
set_option maxRecDepth 100000 in
theorem xi_ok0_0 : xi_ok code xi_0_0 = true := by decide +kernel
def xi_0_1 : XIs := [(27, .bipush 6, 2), (29, .isub, 1), (30, .if_icmp .gt 1860, 3), (33, .aload_n 0, 1), (34, .iload 4, 2), (36, .iaload, 1), (37, .bipush 63, 2), (39, .iand, 1), (40, .tableswitch 1844 0 46 #[204, 260, 336, 364, 416, 456, 484, 497, 525, 565, 593, 645, 673, 686, 699, 727, 740, 768, 808, 860, 900, 940, 1004, 1044, 1072, 1100, 1128, 1156, 1184, 1212, 1252, 1304, 1356, 1384, 1412, 1440, 1453, 1493, 1557, 1585, 1598, 1626, 1639, 1679, 1692, 1788, 1816], 204), (244, .aload_n 1, 1), (245, .aload_n 0, 1), (246, .iload 4, 2), (248, .iconst 1, 1), (249, .iadd, 1), (250, .iaload, 1), (251, .aload_n 3, 1)]
set_option maxRecDepth 100000 in
theorem xi_ok0_1 : xi_ok code xi_0_1 = true := by decide +kernel
def xi_0_2 : XIs := [(252, .invokestatic 145, 3), (255, .istore 5, 2), (257, .aload_n 2, 1), (258, .aload_n 0, 1), (259, .iload 4, 2), (261, .iconst 1, 1), (262, .iadd, 1), (263, .iaload, 1), (264, .invokevirtual 150, 3), (267, .istore 6, 2), (269, .aload_n 2, 1), (270, .invokevirtual 151, 3), (273, .iload 5, 2), (275, .if_icmp .eq 5, 3), (278, .iconst 0, 1), (279, .ireturn, 1)]
set_option maxRecDepth 100000 in
theorem xi_ok0_2 : xi_ok code xi_0_2 = true := by decide +kernel
def xi_0_3 : XIs := [(280, .iload 5, 2), (282, .ifCond .ne 15, 3), (285, .aload_n 3, 1), (286, .iconst 0, 1), (287, .laload, 1), (288, .iload 6, 2), (290, .i2l, 1), (291, .lcmp, 1), (292, .ifCond .eq 5, 3), (295, .iconst 0, 1), (296, .ireturn, 1), (297, .goto 1587, 3), (300, .aload_n 1, 1), (301, .aload_n 0, 1), (302, .iload 4, 2), (304, .iconst 1, 1)]
set_option maxRecDepth 100000 in
theorem xi_ok0_3 : xi_ok code xi_0_3 = true := by decide +kernel
def xi_0_4 : XIs := [(305, .iadd, 1), (306, .iaload, 1), (307, .aload_n 0, 1), (308, .iload 4, 2), (310, .iconst 2, 1), (311, .iadd, 1), (312, .iaload, 1), (313, .aload_n 0, 1), (314, .iload 4, 2), (316, .iconst 3, 1), (317, .iadd, 1), (318, .iaload, 1), (319, .aload_n 0, 1), (320, .iload 4, 2), (322, .iconst 4, 1), (323, .iadd, 1)]
set_option maxRecDepth 100000 in
theorem xi_ok0_4 : xi_ok code xi_0_4 = true := by decide +kernel
def xi_0_5 : XIs := [(324, .iaload, 1), (325, .aload_n 0, 1), (326, .iload 4, 2), (328, .iconst 5, 1), (329, .iadd, 1), (330, .iaload, 1), (331, .aload_n 3, 1), (332, .invokestatic 155, 3), (335, .istore 5, 2), (337, .aload_n 2, 1), (338, .aload_n 0, 1), (339, .iload 4, 2), (341, .iconst 1, 1), (342, .iadd, 1), (343, .iaload, 1), (344, .aload_n 0, 1)]
set_option maxRecDepth 100000 in
theorem xi_ok0_5 : xi_ok code xi_0_5 = true := by decide +kernel
def xi_0_6 : XIs := [(345, .iload 4, 2), (347, .iconst 2, 1), (348, .iadd, 1), (349, .iaload, 1), (350, .aload_n 0, 1), (351, .iload 4, 2), (353, .iconst 3, 1), (354, .iadd, 1), (355, .iaload, 1), (356, .aload_n 0, 1), (357, .iload 4, 2), (359, .iconst 4, 1), (360, .iadd, 1), (361, .iaload, 1), (362, .aload_n 0, 1), (363, .iload 4, 2)]
set_option maxRecDepth 100000 in
theorem xi_ok0_6 : xi_ok code xi_0_6 = true := by decide +kernel
def xi_0_7 : XIs := [(365, .iconst 5, 1), (366, .iadd, 1), (367, .iaload, 1), (368, .invokevirtual 158, 3), (371, .istore 6, 2), (373, .goto 1511, 3), (376, .aload_n 1, 1), (377, .aload_n 0, 1), (378, .iload 4, 2), (380, .iconst 1, 1), (381, .iadd, 1), (382, .iaload, 1), (383, .aload_n 3, 1), (384, .invokestatic 159, 3), (387, .istore 5, 2), (389, .aload_n 2, 1)]
set_option maxRecDepth 100000 in
theorem xi_ok0_7 : xi_ok code xi_0_7 = true := by decide +kernel
def xi_0_8 : XIs := [(390, .aload_n 0, 1), (391, .iload 4, 2), (393, .iconst 1, 1), (394, .iadd, 1), (395, .iaload, 1), (396, .invokevirtual 161, 3), (399, .istore 6, 2), (401, .goto 1483, 3), (404, .aload_n 1, 1), (405, .aload_n 0, 1), (406, .iload 4, 2), (408, .iconst 1, 1), (409, .iadd, 1), (410, .iaload, 1), (411, .aload_n 0, 1), (412, .iload 4, 2)]
set_option maxRecDepth 100000 in
theorem xi_ok0_8 : xi_ok code xi_0_8 = true := by decide +kernel
def xi_0_9 : XIs := [(414, .iconst 2, 1), (415, .iadd, 1), (416, .iaload, 1), (417, .aload_n 0, 1), (418, .iload 4, 2), (420, .iconst 3, 1), (421, .iadd, 1), (422, .iaload, 1), (423, .aload_n 3, 1), (424, .invokestatic 162, 3), (427, .istore 5, 2), (429, .aload_n 2, 1), (430, .aload_n 0, 1), (431, .iload 4, 2), (433, .iconst 1, 1), (434, .iadd, 1)]
set_option maxRecDepth 100000 in
theorem xi_ok0_9 : xi_ok code xi_0_9 = true := by decide +kernel
def xi_0_10 : XIs := [(435, .iaload, 1), (436, .aload_n 0, 1), (437, .iload 4, 2), (439, .iconst 2, 1), (440, .iadd, 1), (441, .iaload, 1), (442, .aload_n 0, 1), (443, .iload 4, 2), (445, .iconst 3, 1), (446, .iadd, 1), (447, .iaload, 1), (448, .invokevirtual 165, 3), (451, .istore 6, 2), (453, .goto 1431, 3), (456, .aload_n 1, 1), (457, .aload_n 0, 1)]
set_option maxRecDepth 100000 in
theorem xi_ok0_10 : xi_ok code xi_0_10 = true := by decide +kernel
def xi_0_11 : XIs := [(458, .iload 4, 2), (460, .iconst 1, 1), (461, .iadd, 1), (462, .iaload, 1), (463, .aload_n 0, 1), (464, .iload 4, 2), (466, .iconst 2, 1), (467, .iadd, 1), (468, .iaload, 1), (469, .aload_n 3, 1), (470, .invokestatic 166, 3), (473, .istore 5, 2), (475, .aload_n 2, 1), (476, .aload_n 0, 1), (477, .iload 4, 2), (479, .iconst 1, 1)]
set_option maxRecDepth 100000 in
theorem xi_ok0_11 : xi_ok code xi_0_11 = true := by decide +kernel
def xi_0_12 : XIs := [(480, .iadd, 1), (481, .iaload, 1), (482, .aload_n 0, 1), (483, .iload 4, 2), (485, .iconst 2, 1), (486, .iadd, 1), (487, .iaload, 1), (488, .invokevirtual 169, 3), (491, .istore 6, 2), (493, .goto 1391, 3), (496, .aload_n 1, 1), (497, .aload_n 0, 1), (498, .iload 4, 2), (500, .iconst 1, 1), (501, .iadd, 1), (502, .iaload, 1)]
set_option maxRecDepth 100000 in
theorem xi_ok0_12 : xi_ok code xi_0_12 = true := by decide +kernel
def xi_0_13 : XIs := [(503, .aload_n 3, 1), (504, .invokestatic 170, 3), (507, .istore 5, 2), (509, .aload_n 2, 1), (510, .aload_n 0, 1), (511, .iload 4, 2), (513, .iconst 1, 1), (514, .iadd, 1), (515, .iaload, 1), (516, .invokevirtual 172, 3), (519, .istore 6, 2), (521, .goto 1363, 3), (524, .aload_n 1, 1), (525, .invokevirtual 173, 3), (528, .pop, 1), (529, .aload_n 2, 1)]
set_option maxRecDepth 100000 in
theorem xi_ok0_13 : xi_ok code xi_0_13 = true := by decide +kernel
def xi_0_14 : XIs := [(530, .invokevirtual 176, 3), (533, .pop, 1), (534, .goto 1350, 3), (537, .aload_n 1, 1), (538, .aload_n 0, 1), (539, .iload 4, 2), (541, .iconst 1, 1), (542, .iadd, 1), (543, .iaload, 1), (544, .aload_n 3, 1), (545, .invokestatic 177, 3), (548, .istore 5, 2), (550, .aload_n 2, 1), (551, .aload_n 0, 1), (552, .iload 4, 2), (554, .iconst 1, 1)]
set_option maxRecDepth 100000 in
theorem xi_ok0_14 : xi_ok code xi_0_14 = true := by decide +kernel
def xi_0_15 : XIs := [(555, .iadd, 1), (556, .iaload, 1), (557, .invokevirtual 179, 3), (560, .istore 6, 2), (562, .goto 1322, 3), (565, .aload_n 1, 1), (566, .aload_n 0, 1), (567, .iload 4, 2), (569, .iconst 1, 1), (570, .iadd, 1), (571, .iaload, 1), (572, .aload_n 0, 1), (573, .iload 4, 2), (575, .iconst 2, 1), (576, .iadd, 1), (577, .iaload, 1)]
set_option maxRecDepth 100000 in
theorem xi_ok0_15 : xi_ok code xi_0_15 = true := by decide +kernel
def xi_0_16 : XIs := [(578, .aload_n 3, 1), (579, .invokestatic 180, 3), (582, .istore 5, 2), (584, .aload_n 2, 1), (585, .aload_n 0, 1), (586, .iload 4, 2), (588, .iconst 1, 1), (589, .iadd, 1), (590, .iaload, 1), (591, .aload_n 0, 1), (592, .iload 4, 2), (594, .iconst 2, 1), (595, .iadd, 1), (596, .iaload, 1), (597, .invokevirtual 182, 3)]
set_option maxRecDepth 100000 in
theorem xi_ok0_16 : xi_ok code xi_0_16 = true := by decide +kernel
def xi_0_17 : XIs := [(600, .lstore 6, 2), (602, .goto 1282, 3), (605, .aload_n 1, 1), (606, .aload_n 0, 1), (607, .iload 4, 2), (609, .iconst 1, 1), (610, .iadd, 1), (611, .iaload, 1), (612, .aload_n 3, 1), (613, .invokestatic 183, 3), (616, .istore 5, 2), (618, .aload_n 2, 1), (619, .aload_n 0, 1), (620, .iload 4, 2), (622, .iconst 1, 1)]
set_option maxRecDepth 100000 in
theorem xi_ok0_17 : xi_ok code xi_0_17 = true := by decide +kernel
def xi_0_18 : XIs := [(623, .iadd, 1), (624, .iaload, 1), (625, .invokevirtual 185, 3), (628, .istore 6, 2), (630, .goto 1254, 3), (633, .aload_n 1, 1), (634, .aload_n 0, 1), (635, .iload 4, 2), (637, .iconst 1, 1), (638, .iadd, 1), (639, .iaload, 1), (640, .aload_n 0, 1), (641, .iload 4, 2), (643, .iconst 2, 1)]
set_option maxRecDepth 100000 in
theorem xi_ok0_18 : xi_ok code xi_0_18 = true := by decide +kernel
def xi_0_19 : XIs := [(644, .iadd, 1), (645, .iaload, 1), (646, .aload_n 0, 1), (647, .iload 4, 2), (649, .iconst 3, 1), (650, .iadd, 1), (651, .iaload, 1), (652, .aload_n 3, 1), (653, .invokestatic 186, 3), (656, .istore 5, 2), (658, .aload_n 2, 1), (659, .aload_n 0, 1), (660, .iload 4, 2), (662, .iconst 1, 1)]
set_option maxRecDepth 100000 in
theorem xi_ok0_19 : xi_ok code xi_0_19 = true := by decide +kernel
def xi_0_20 : XIs := [(663, .iadd, 1), (664, .iaload, 1), (665, .aload_n 0, 1), (666, .iload 4, 2), (668, .iconst 2, 1), (669, .iadd, 1), (670, .iaload, 1), (671, .aload_n 0, 1), (672, .iload 4, 2), (674, .iconst 3, 1), (675, .iadd, 1), (676, .iaload, 1), (677, .invokevirtual 188, 3), (680, .istore 6, 2)]
set_option maxRecDepth 100000 in
theorem xi_ok0_20 : xi_ok code xi_0_20 = true := by decide +kernel
def xi_0_21 : XIs := [(682, .goto 1202, 3), (685, .aload_n 1, 1), (686, .aload_n 0, 1), (687, .iload 4, 2), (689, .iconst 1, 1), (690, .iadd, 1), (691, .iaload, 1), (692, .aload_n 3, 1), (693, .invokestatic 189, 3), (696, .istore 5, 2), (698, .aload_n 2, 1), (699, .aload_n 0, 1), (700, .iload 4, 2)]
set_option maxRecDepth 100000 in
theorem xi_ok0_21 : xi_ok code xi_0_21 = true := by decide +kernel
def xi_0_22 : XIs := [(702, .iconst 1, 1), (703, .iadd, 1), (704, .iaload, 1), (705, .invokevirtual 191, 3), (708, .istore 6, 2), (710, .goto 1174, 3), (713, .aload_n 1, 1), (714, .invokevirtual 192, 3), (717, .pop, 1), (718, .aload_n 2, 1), (719, .invokevirtual 195, 3), (722, .pop, 1), (723, .goto 1161, 3)]
set_option maxRecDepth 100000 in
theorem xi_ok0_22 : xi_ok code xi_0_22 = true := by decide +kernel
def xi_0_23 : XIs := [(726, .aload_n 1, 1), (727, .invokevirtual 196, 3), (730, .pop, 1), (731, .aload_n 2, 1), (732, .invokevirtual 199, 3), (735, .pop, 1), (736, .goto 1148, 3), (739, .aload_n 1, 1), (740, .aload_n 0, 1), (741, .iload 4, 2), (743, .iconst 1, 1), (744, .iadd, 1)]
set_option maxRecDepth 100000 in
theorem xi_ok0_23 : xi_ok code xi_0_23 = true := by decide +kernel
def xi_0_24 : XIs := [(745, .iaload, 1), (746, .aload_n 3, 1), (747, .invokestatic 200, 3), (750, .istore 5, 2), (752, .aload_n 2, 1), (753, .aload_n 0, 1), (754, .iload 4, 2), (756, .iconst 1, 1), (757, .iadd, 1), (758, .iaload, 1), (759, .invokevirtual 202, 3), (762, .istore 6, 2)]
set_option maxRecDepth 100000 in
theorem xi_ok0_24 : xi_ok code xi_0_24 = true := by decide +kernel
def xi_0_25 : XIs := [(764, .goto 1120, 3), (767, .aload_n 1, 1), (768, .invokevirtual 203, 3), (771, .pop, 1), (772, .aload_n 2, 1), (773, .invokevirtual 206, 3), (776, .pop, 1), (777, .goto 1107, 3), (780, .aload_n 1, 1), (781, .aload_n 0, 1), (782, .iload 4, 2), (784, .iconst 1, 1)]
set_option maxRecDepth 100000 in
theorem xi_ok0_25 : xi_ok code xi_0_25 = true := by decide +kernel
def xi_0_26 : XIs := [(785, .iadd, 1), (786, .iaload, 1), (787, .aload_n 3, 1), (788, .invokestatic 207, 3), (791, .istore 5, 2), (793, .aload_n 2, 1), (794, .aload_n 0, 1), (795, .iload 4, 2), (797, .iconst 1, 1), (798, .iadd, 1), (799, .iaload, 1), (800, .invokevirtual 209, 3)]
set_option maxRecDepth 100000 in
theorem xi_ok0_26 : xi_ok code xi_0_26 = true := by decide +kernel
def xi_0_27 : XIs := [(803, .istore 6, 2), (805, .goto 1079, 3), (808, .aload_n 1, 1), (809, .aload_n 0, 1), (810, .iload 4, 2), (812, .iconst 1, 1), (813, .iadd, 1), (814, .iaload, 1), (815, .aload_n 0, 1), (816, .iload 4, 2), (818, .iconst 2, 1)]
set_option maxRecDepth 100000 in
theorem xi_ok0_27 : xi_ok code xi_0_27 = true := by decide +kernel
def xi_0_28 : XIs := [(819, .iadd, 1), (820, .iaload, 1), (821, .aload_n 3, 1), (822, .invokestatic 210, 3), (825, .istore 5, 2), (827, .aload_n 2, 1), (828, .aload_n 0, 1), (829, .iload 4, 2), (831, .iconst 1, 1), (832, .iadd, 1), (833, .iaload, 1)]
set_option maxRecDepth 100000 in
theorem xi_ok0_28 : xi_ok code xi_0_28 = true := by decide +kernel
def xi_0_29 : XIs := [(834, .aload_n 0, 1), (835, .iload 4, 2), (837, .iconst 2, 1), (838, .iadd, 1), (839, .iaload, 1), (840, .invokevirtual 212, 3), (843, .lstore 6, 2), (845, .goto 1039, 3), (848, .aload_n 1, 1), (849, .aload_n 0, 1), (850, .iload 4, 2)]
set_option maxRecDepth 100000 in
theorem xi_ok0_29 : xi_ok code xi_0_29 = true := by decide +kernel
def xi_0_30 : XIs := [(852, .iconst 1, 1), (853, .iadd, 1), (854, .iaload, 1), (855, .aload_n 0, 1), (856, .iload 4, 2), (858, .iconst 2, 1), (859, .iadd, 1), (860, .iaload, 1), (861, .aload_n 0, 1), (862, .iload 4, 2), (864, .iconst 3, 1)]
set_option maxRecDepth 100000 in
theorem xi_ok0_30 : xi_ok code xi_0_30 = true := by decide +kernel
def xi_0_31 : XIs := [(865, .iadd, 1), (866, .iaload, 1), (867, .aload_n 3, 1), (868, .invokestatic 213, 3), (871, .istore 5, 2), (873, .aload_n 2, 1), (874, .aload_n 0, 1), (875, .iload 4, 2), (877, .iconst 1, 1), (878, .iadd, 1), (879, .iaload, 1)]
set_option maxRecDepth 100000 in
theorem xi_ok0_31 : xi_ok code xi_0_31 = true := by decide +kernel
