def xi_0_85 : XIs := [(1499, .iaload, 1), (1500, .aload_n 0, 1), (1501, .iload 4, 2), (1503, .iconst 2, 1), (1504, .iadd, 1), (1505, .iaload, 1)]
set_option maxRecDepth 100000 in
theorem xi_ok0_85 : xi_ok code xi_0_85 = true := by decide +kernel
def xi_0_86 : XIs := [(1506, .aload_n 3, 1), (1507, .invokestatic 269, 3), (1510, .istore 5, 2), (1512, .aload_n 2, 1), (1513, .aload_n 0, 1), (1514, .iload 4, 2)]
set_option maxRecDepth 100000 in
theorem xi_ok0_86 : xi_ok code xi_0_86 = true := by decide +kernel
def xi_0_87 : XIs := [(1516, .iconst 1, 1), (1517, .iadd, 1), (1518, .iaload, 1), (1519, .aload_n 0, 1), (1520, .iload 4, 2), (1522, .iconst 2, 1)]
set_option maxRecDepth 100000 in
theorem xi_ok0_87 : xi_ok code xi_0_87 = true := by decide +kernel
def xi_0_88 : XIs := [(1523, .iadd, 1), (1524, .iaload, 1), (1525, .invokevirtual 271, 3), (1528, .lstore 6, 2), (1530, .goto 354, 3), (1533, .aload_n 1, 1)]
set_option maxRecDepth 100000 in
theorem xi_ok0_88 : xi_ok code xi_0_88 = true := by decide +kernel
def xi_0_89 : XIs := [(1534, .aload_n 0, 1), (1535, .iload 4, 2), (1537, .iconst 1, 1), (1538, .iadd, 1), (1539, .iaload, 1), (1540, .aload_n 0, 1)]
set_option maxRecDepth 100000 in
theorem xi_ok0_89 : xi_ok code xi_0_89 = true := by decide +kernel
def xi_0_90 : XIs := [(1541, .iload 4, 2), (1543, .iconst 2, 1), (1544, .iadd, 1), (1545, .iaload, 1), (1546, .aload_n 0, 1), (1547, .iload 4, 2)]
set_option maxRecDepth 100000 in
theorem xi_ok0_90 : xi_ok code xi_0_90 = true := by decide +kernel
def xi_0_91 : XIs := [(1549, .iconst 3, 1), (1550, .iadd, 1), (1551, .iaload, 1), (1552, .aload_n 0, 1), (1553, .iload 4, 2), (1555, .iconst 4, 1)]
set_option maxRecDepth 100000 in
theorem xi_ok0_91 : xi_ok code xi_0_91 = true := by decide +kernel
def xi_0_92 : XIs := [(1556, .iadd, 1), (1557, .iaload, 1), (1558, .aload_n 3, 1), (1559, .invokestatic 272, 3), (1562, .istore 5, 2), (1564, .aload_n 2, 1)]
set_option maxRecDepth 100000 in
theorem xi_ok0_92 : xi_ok code xi_0_92 = true := by decide +kernel
def xi_0_93 : XIs := [(1565, .aload_n 0, 1), (1566, .iload 4, 2), (1568, .iconst 1, 1), (1569, .iadd, 1), (1570, .iaload, 1), (1571, .aload_n 0, 1)]
set_option maxRecDepth 100000 in
theorem xi_ok0_93 : xi_ok code xi_0_93 = true := by decide +kernel
def xi_0_94 : XIs := [(1572, .iload 4, 2), (1574, .iconst 2, 1), (1575, .iadd, 1), (1576, .iaload, 1), (1577, .aload_n 0, 1), (1578, .iload 4, 2)]
set_option maxRecDepth 100000 in
theorem xi_ok0_94 : xi_ok code xi_0_94 = true := by decide +kernel
def xi_0_95 : XIs := [(1580, .iconst 3, 1), (1581, .iadd, 1), (1582, .iaload, 1), (1583, .aload_n 0, 1), (1584, .iload 4, 2), (1586, .iconst 4, 1)]
set_option maxRecDepth 100000 in
theorem xi_ok0_95 : xi_ok code xi_0_95 = true := by decide +kernel
def xi_0_96 : XIs := [(1587, .iadd, 1), (1588, .iaload, 1), (1589, .invokevirtual 274, 3), (1592, .istore 6, 2), (1594, .goto 290, 3), (1597, .aload_n 1, 1)]
set_option maxRecDepth 100000 in
theorem xi_ok0_96 : xi_ok code xi_0_96 = true := by decide +kernel
def xi_0_97 : XIs := [(1598, .aload_n 0, 1), (1599, .iload 4, 2), (1601, .iconst 1, 1), (1602, .iadd, 1), (1603, .iaload, 1), (1604, .aload_n 3, 1)]
set_option maxRecDepth 100000 in
theorem xi_ok0_97 : xi_ok code xi_0_97 = true := by decide +kernel
def xi_0_98 : XIs := [(1605, .invokestatic 275, 3), (1608, .istore 5, 2), (1610, .aload_n 2, 1), (1611, .aload_n 0, 1), (1612, .iload 4, 2), (1614, .iconst 1, 1)]
set_option maxRecDepth 100000 in
theorem xi_ok0_98 : xi_ok code xi_0_98 = true := by decide +kernel
def xi_0_99 : XIs := [(1615, .iadd, 1), (1616, .iaload, 1), (1617, .invokevirtual 277, 3), (1620, .istore 6, 2), (1622, .goto 262, 3), (1625, .aload_n 1, 1)]
set_option maxRecDepth 100000 in
theorem xi_ok0_99 : xi_ok code xi_0_99 = true := by decide +kernel
def xi_0_100 : XIs := [(1626, .invokevirtual 278, 3), (1629, .pop2, 1), (1630, .aload_n 2, 1), (1631, .invokevirtual 282, 3), (1634, .pop2, 1), (1635, .goto 249, 3)]
set_option maxRecDepth 100000 in
theorem xi_ok0_100 : xi_ok code xi_0_100 = true := by decide +kernel
def xi_0_101 : XIs := [(1638, .aload_n 1, 1), (1639, .aload_n 0, 1), (1640, .iload 4, 2), (1642, .iconst 1, 1), (1643, .iadd, 1), (1644, .iaload, 1)]
set_option maxRecDepth 100000 in
theorem xi_ok0_101 : xi_ok code xi_0_101 = true := by decide +kernel
def xi_0_102 : XIs := [(1645, .aload_n 3, 1), (1646, .invokestatic 283, 3), (1649, .istore 5, 2), (1651, .aload_n 2, 1), (1652, .aload_n 0, 1), (1653, .iload 4, 2)]
set_option maxRecDepth 100000 in
theorem xi_ok0_102 : xi_ok code xi_0_102 = true := by decide +kernel
def xi_0_103 : XIs := [(1655, .iconst 1, 1), (1656, .iadd, 1), (1657, .iaload, 1), (1658, .invokevirtual 285, 3), (1661, .lstore 6, 2), (1663, .goto 221, 3)]
set_option maxRecDepth 100000 in
theorem xi_ok0_103 : xi_ok code xi_0_103 = true := by decide +kernel
def xi_0_104 : XIs := [(1666, .aload_n 1, 1), (1667, .invokevirtual 286, 3), (1670, .pop, 1), (1671, .aload_n 2, 1), (1672, .invokevirtual 289, 3), (1675, .pop, 1)]
set_option maxRecDepth 100000 in
theorem xi_ok0_104 : xi_ok code xi_0_104 = true := by decide +kernel
def xi_0_105 : XIs := [(1676, .goto 208, 3), (1679, .aload_n 1, 1), (1680, .aload_n 0, 1), (1681, .iload 4, 2), (1683, .iconst 1, 1), (1684, .iadd, 1)]
set_option maxRecDepth 100000 in
theorem xi_ok0_105 : xi_ok code xi_0_105 = true := by decide +kernel
def xi_0_106 : XIs := [(1685, .iaload, 1), (1686, .aload_n 0, 1), (1687, .iload 4, 2), (1689, .iconst 2, 1), (1690, .iadd, 1), (1691, .iaload, 1)]
set_option maxRecDepth 100000 in
theorem xi_ok0_106 : xi_ok code xi_0_106 = true := by decide +kernel
def xi_0_107 : XIs := [(1692, .aload_n 3, 1), (1693, .invokestatic 290, 3), (1696, .istore 5, 2), (1698, .aload_n 2, 1), (1699, .aload_n 0, 1), (1700, .iload 4, 2)]
set_option maxRecDepth 100000 in
theorem xi_ok0_107 : xi_ok code xi_0_107 = true := by decide +kernel
def xi_0_108 : XIs := [(1702, .iconst 1, 1), (1703, .iadd, 1), (1704, .iaload, 1), (1705, .aload_n 0, 1), (1706, .iload 4, 2), (1708, .iconst 2, 1)]
set_option maxRecDepth 100000 in
theorem xi_ok0_108 : xi_ok code xi_0_108 = true := by decide +kernel
def xi_0_109 : XIs := [(1709, .iadd, 1), (1710, .iaload, 1), (1711, .invokevirtual 292, 3), (1714, .istore 6, 2), (1716, .goto 168, 3), (1719, .aload_n 1, 1)]
set_option maxRecDepth 100000 in
theorem xi_ok0_109 : xi_ok code xi_0_109 = true := by decide +kernel
def xi_0_110 : XIs := [(1720, .invokevirtual 293, 3), (1723, .pop, 1), (1724, .aload_n 2, 1), (1725, .invokevirtual 296, 3), (1728, .pop, 1), (1729, .goto 155, 3)]
set_option maxRecDepth 100000 in
theorem xi_ok0_110 : xi_ok code xi_0_110 = true := by decide +kernel
