def xi_0_86 : XIs := [(1506, .aload_n 0, 1), (1507, .iload 4, 2), (1509, .iconst 1, 1), (1510, .iadd, 1), (1511, .iaload, 1), (1512, .aload_n 0, 1)]
set_option maxRecDepth 100000 in
theorem xi_ok0_86 : xi_ok code xi_0_86 = true := by decide +kernel
def xi_0_87 : XIs := [(1513, .iload 4, 2), (1515, .iconst 2, 1), (1516, .iadd, 1), (1517, .iaload, 1), (1518, .aload_n 0, 1), (1519, .iload 4, 2)]
set_option maxRecDepth 100000 in
theorem xi_ok0_87 : xi_ok code xi_0_87 = true := by decide +kernel
def xi_0_88 : XIs := [(1521, .iconst 3, 1), (1522, .iadd, 1), (1523, .iaload, 1), (1524, .aload_n 0, 1), (1525, .iload 4, 2), (1527, .iconst 4, 1)]
set_option maxRecDepth 100000 in
theorem xi_ok0_88 : xi_ok code xi_0_88 = true := by decide +kernel
def xi_0_89 : XIs := [(1528, .iadd, 1), (1529, .iaload, 1), (1530, .aload_n 3, 1), (1531, .invokestatic 269, 3), (1534, .istore 5, 2), (1536, .aload_n 2, 1)]
set_option maxRecDepth 100000 in
theorem xi_ok0_89 : xi_ok code xi_0_89 = true := by decide +kernel
def xi_0_90 : XIs := [(1537, .aload_n 0, 1), (1538, .iload 4, 2), (1540, .iconst 1, 1), (1541, .iadd, 1), (1542, .iaload, 1), (1543, .aload_n 0, 1)]
set_option maxRecDepth 100000 in
theorem xi_ok0_90 : xi_ok code xi_0_90 = true := by decide +kernel
def xi_0_91 : XIs := [(1544, .iload 4, 2), (1546, .iconst 2, 1), (1547, .iadd, 1), (1548, .iaload, 1), (1549, .aload_n 0, 1), (1550, .iload 4, 2)]
set_option maxRecDepth 100000 in
theorem xi_ok0_91 : xi_ok code xi_0_91 = true := by decide +kernel
def xi_0_92 : XIs := [(1552, .iconst 3, 1), (1553, .iadd, 1), (1554, .iaload, 1), (1555, .aload_n 0, 1), (1556, .iload 4, 2), (1558, .iconst 4, 1)]
set_option maxRecDepth 100000 in
theorem xi_ok0_92 : xi_ok code xi_0_92 = true := by decide +kernel
def xi_0_93 : XIs := [(1559, .iadd, 1), (1560, .iaload, 1), (1561, .invokevirtual 271, 3), (1564, .istore 6, 2), (1566, .goto 290, 3), (1569, .aload_n 1, 1)]
set_option maxRecDepth 100000 in
theorem xi_ok0_93 : xi_ok code xi_0_93 = true := by decide +kernel
def xi_0_94 : XIs := [(1570, .aload_n 0, 1), (1571, .iload 4, 2), (1573, .iconst 1, 1), (1574, .iadd, 1), (1575, .iaload, 1), (1576, .aload_n 3, 1)]
set_option maxRecDepth 100000 in
theorem xi_ok0_94 : xi_ok code xi_0_94 = true := by decide +kernel
def xi_0_95 : XIs := [(1577, .invokestatic 272, 3), (1580, .istore 5, 2), (1582, .aload_n 2, 1), (1583, .aload_n 0, 1), (1584, .iload 4, 2), (1586, .iconst 1, 1)]
set_option maxRecDepth 100000 in
theorem xi_ok0_95 : xi_ok code xi_0_95 = true := by decide +kernel
def xi_0_96 : XIs := [(1587, .iadd, 1), (1588, .iaload, 1), (1589, .invokevirtual 274, 3), (1592, .istore 6, 2), (1594, .goto 262, 3), (1597, .aload_n 1, 1)]
set_option maxRecDepth 100000 in
theorem xi_ok0_96 : xi_ok code xi_0_96 = true := by decide +kernel
def xi_0_97 : XIs := [(1598, .invokevirtual 275, 3), (1601, .pop2, 1), (1602, .aload_n 2, 1), (1603, .invokevirtual 279, 3), (1606, .pop2, 1), (1607, .goto 249, 3)]
set_option maxRecDepth 100000 in
theorem xi_ok0_97 : xi_ok code xi_0_97 = true := by decide +kernel
def xi_0_98 : XIs := [(1610, .aload_n 1, 1), (1611, .aload_n 0, 1), (1612, .iload 4, 2), (1614, .iconst 1, 1), (1615, .iadd, 1), (1616, .iaload, 1)]
set_option maxRecDepth 100000 in
theorem xi_ok0_98 : xi_ok code xi_0_98 = true := by decide +kernel
def xi_0_99 : XIs := [(1617, .aload_n 3, 1), (1618, .invokestatic 280, 3), (1621, .istore 5, 2), (1623, .aload_n 2, 1), (1624, .aload_n 0, 1), (1625, .iload 4, 2)]
set_option maxRecDepth 100000 in
theorem xi_ok0_99 : xi_ok code xi_0_99 = true := by decide +kernel
def xi_0_100 : XIs := [(1627, .iconst 1, 1), (1628, .iadd, 1), (1629, .iaload, 1), (1630, .invokevirtual 282, 3), (1633, .lstore 6, 2), (1635, .goto 221, 3)]
set_option maxRecDepth 100000 in
theorem xi_ok0_100 : xi_ok code xi_0_100 = true := by decide +kernel
def xi_0_101 : XIs := [(1638, .aload_n 1, 1), (1639, .invokevirtual 283, 3), (1642, .pop, 1), (1643, .aload_n 2, 1), (1644, .invokevirtual 286, 3), (1647, .pop, 1)]
set_option maxRecDepth 100000 in
theorem xi_ok0_101 : xi_ok code xi_0_101 = true := by decide +kernel
def xi_0_102 : XIs := [(1648, .goto 208, 3), (1651, .aload_n 1, 1), (1652, .aload_n 0, 1), (1653, .iload 4, 2), (1655, .iconst 1, 1), (1656, .iadd, 1)]
set_option maxRecDepth 100000 in
theorem xi_ok0_102 : xi_ok code xi_0_102 = true := by decide +kernel
def xi_0_103 : XIs := [(1657, .iaload, 1), (1658, .aload_n 0, 1), (1659, .iload 4, 2), (1661, .iconst 2, 1), (1662, .iadd, 1), (1663, .iaload, 1)]
set_option maxRecDepth 100000 in
theorem xi_ok0_103 : xi_ok code xi_0_103 = true := by decide +kernel
def xi_0_104 : XIs := [(1664, .aload_n 3, 1), (1665, .invokestatic 287, 3), (1668, .istore 5, 2), (1670, .aload_n 2, 1), (1671, .aload_n 0, 1), (1672, .iload 4, 2)]
set_option maxRecDepth 100000 in
theorem xi_ok0_104 : xi_ok code xi_0_104 = true := by decide +kernel
def xi_0_105 : XIs := [(1674, .iconst 1, 1), (1675, .iadd, 1), (1676, .iaload, 1), (1677, .aload_n 0, 1), (1678, .iload 4, 2), (1680, .iconst 2, 1)]
set_option maxRecDepth 100000 in
theorem xi_ok0_105 : xi_ok code xi_0_105 = true := by decide +kernel
def xi_0_106 : XIs := [(1681, .iadd, 1), (1682, .iaload, 1), (1683, .invokevirtual 289, 3), (1686, .istore 6, 2), (1688, .goto 168, 3), (1691, .aload_n 1, 1)]
set_option maxRecDepth 100000 in
theorem xi_ok0_106 : xi_ok code xi_0_106 = true := by decide +kernel
def xi_0_107 : XIs := [(1692, .invokevirtual 290, 3), (1695, .pop, 1), (1696, .aload_n 2, 1), (1697, .invokevirtual 293, 3), (1700, .pop, 1), (1701, .goto 155, 3)]
set_option maxRecDepth 100000 in
theorem xi_ok0_107 : xi_ok code xi_0_107 = true := by decide +kernel
def xi_0_108 : XIs := [(1704, .aload_n 1, 1), (1705, .aload_n 0, 1), (1706, .iload 4, 2), (1708, .iconst 1, 1), (1709, .iadd, 1), (1710, .iaload, 1)]
set_option maxRecDepth 100000 in
theorem xi_ok0_108 : xi_ok code xi_0_108 = true := by decide +kernel
def xi_0_109 : XIs := [(1711, .aload_n 0, 1), (1712, .iload 4, 2), (1714, .iconst 2, 1), (1715, .iadd, 1), (1716, .iaload, 1), (1717, .aload_n 0, 1)]
set_option maxRecDepth 100000 in
theorem xi_ok0_109 : xi_ok code xi_0_109 = true := by decide +kernel
def xi_0_110 : XIs := [(1718, .iload 4, 2), (1720, .iconst 3, 1), (1721, .iadd, 1), (1722, .iaload, 1), (1723, .aload_n 0, 1), (1724, .iload 4, 2)]
set_option maxRecDepth 100000 in
theorem xi_ok0_110 : xi_ok code xi_0_110 = true := by decide +kernel
def xi_0_111 : XIs := [(1726, .iconst 4, 1), (1727, .iadd, 1), (1728, .iaload, 1), (1729, .i2l, 1), (1730, .bipush 32, 2), (1732, .lshl, 1)]
set_option maxRecDepth 100000 in
theorem xi_ok0_111 : xi_ok code xi_0_111 = true := by decide +kernel
