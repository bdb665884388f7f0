def xi_0_85 : XIs := [(1525, .aload_n 0, 1), (1526, .iload 4, 2), (1528, .iconst 2, 1), (1529, .iadd, 1), (1530, .iaload, 1), (1531, .aload_n 3, 1)]
set_option maxRecDepth 100000 in
theorem xi_ok0_85 : xi_ok code xi_0_85 = true := by decide +kernel
def xi_0_86 : XIs := [(1532, .invokestatic 226, 3), (1535, .istore 5, 2), (1537, .aload_n 2, 1), (1538, .aload_n 0, 1), (1539, .iload 4, 2), (1541, .iconst 1, 1)]
set_option maxRecDepth 100000 in
theorem xi_ok0_86 : xi_ok code xi_0_86 = true := by decide +kernel
def xi_0_87 : XIs := [(1542, .iadd, 1), (1543, .iaload, 1), (1544, .aload_n 0, 1), (1545, .iload 4, 2), (1547, .iconst 2, 1), (1548, .iadd, 1)]
set_option maxRecDepth 100000 in
theorem xi_ok0_87 : xi_ok code xi_0_87 = true := by decide +kernel
def xi_0_88 : XIs := [(1549, .iaload, 1), (1550, .invokevirtual 228, 3), (1553, .istore 6, 2), (1555, .aload_n 2, 1), (1556, .invokevirtual 151, 3), (1559, .iload 5, 2)]
set_option maxRecDepth 100000 in
theorem xi_ok0_88 : xi_ok code xi_0_88 = true := by decide +kernel
def xi_0_89 : XIs := [(1561, .if_icmp .eq 5, 3), (1564, .iconst 0, 1), (1565, .ireturn, 1), (1566, .iload 5, 2), (1568, .ifCond .ne 15, 3), (1571, .aload_n 3, 1)]
set_option maxRecDepth 100000 in
theorem xi_ok0_89 : xi_ok code xi_0_89 = true := by decide +kernel
def xi_0_90 : XIs := [(1572, .iconst 0, 1), (1573, .laload, 1), (1574, .iload 6, 2), (1576, .i2l, 1), (1577, .lcmp, 1), (1578, .ifCond .eq 5, 3)]
set_option maxRecDepth 100000 in
theorem xi_ok0_90 : xi_ok code xi_0_90 = true := by decide +kernel
def xi_0_91 : XIs := [(1581, .iconst 0, 1), (1582, .ireturn, 1), (1583, .goto 1385, 3), (1586, .aload_n 1, 1), (1587, .aload_n 0, 1), (1588, .iload 4, 2)]
set_option maxRecDepth 100000 in
theorem xi_ok0_91 : xi_ok code xi_0_91 = true := by decide +kernel
def xi_0_92 : XIs := [(1590, .iconst 1, 1), (1591, .iadd, 1), (1592, .iaload, 1), (1593, .aload_n 3, 1), (1594, .invokestatic 229, 3), (1597, .istore 5, 2)]
set_option maxRecDepth 100000 in
theorem xi_ok0_92 : xi_ok code xi_0_92 = true := by decide +kernel
def xi_0_93 : XIs := [(1599, .aload_n 2, 1), (1600, .aload_n 0, 1), (1601, .iload 4, 2), (1603, .iconst 1, 1), (1604, .iadd, 1), (1605, .iaload, 1)]
set_option maxRecDepth 100000 in
theorem xi_ok0_93 : xi_ok code xi_0_93 = true := by decide +kernel
def xi_0_94 : XIs := [(1606, .invokevirtual 231, 3), (1609, .istore 6, 2), (1611, .aload_n 2, 1), (1612, .invokevirtual 151, 3), (1615, .iload 5, 2), (1617, .if_icmp .eq 5, 3)]
set_option maxRecDepth 100000 in
theorem xi_ok0_94 : xi_ok code xi_0_94 = true := by decide +kernel
def xi_0_95 : XIs := [(1620, .iconst 0, 1), (1621, .ireturn, 1), (1622, .iload 5, 2), (1624, .ifCond .ne 22, 3), (1627, .aload_n 3, 1), (1628, .iconst 0, 1)]
set_option maxRecDepth 100000 in
theorem xi_ok0_95 : xi_ok code xi_0_95 = true := by decide +kernel
def xi_0_96 : XIs := [(1629, .laload, 1), (1630, .iload 6, 2), (1632, .ifCond .eq 7, 3), (1635, .lconst 1, 1), (1636, .goto 4, 3), (1639, .lconst 0, 1)]
set_option maxRecDepth 100000 in
theorem xi_ok0_96 : xi_ok code xi_0_96 = true := by decide +kernel
def xi_0_97 : XIs := [(1640, .lcmp, 1), (1641, .ifCond .eq 5, 3), (1644, .iconst 0, 1), (1645, .ireturn, 1), (1646, .goto 1322, 3), (1649, .aload_n 1, 1)]
set_option maxRecDepth 100000 in
theorem xi_ok0_97 : xi_ok code xi_0_97 = true := by decide +kernel
def xi_0_98 : XIs := [(1650, .aload_n 0, 1), (1651, .iload 4, 2), (1653, .iconst 1, 1), (1654, .iadd, 1), (1655, .iaload, 1), (1656, .aload_n 3, 1)]
set_option maxRecDepth 100000 in
theorem xi_ok0_98 : xi_ok code xi_0_98 = true := by decide +kernel
def xi_0_99 : XIs := [(1657, .invokestatic 232, 3), (1660, .istore 5, 2), (1662, .aload_n 2, 1), (1663, .aload_n 0, 1), (1664, .iload 4, 2), (1666, .iconst 1, 1)]
set_option maxRecDepth 100000 in
theorem xi_ok0_99 : xi_ok code xi_0_99 = true := by decide +kernel
def xi_0_100 : XIs := [(1667, .iadd, 1), (1668, .iaload, 1), (1669, .invokevirtual 234, 3), (1672, .istore 6, 2), (1674, .aload_n 2, 1), (1675, .invokevirtual 151, 3)]
set_option maxRecDepth 100000 in
theorem xi_ok0_100 : xi_ok code xi_0_100 = true := by decide +kernel
def xi_0_101 : XIs := [(1678, .iload 5, 2), (1680, .if_icmp .eq 5, 3), (1683, .iconst 0, 1), (1684, .ireturn, 1), (1685, .iload 5, 2), (1687, .ifCond .ne 22, 3)]
set_option maxRecDepth 100000 in
theorem xi_ok0_101 : xi_ok code xi_0_101 = true := by decide +kernel
def xi_0_102 : XIs := [(1690, .aload_n 3, 1), (1691, .iconst 0, 1), (1692, .laload, 1), (1693, .iload 6, 2), (1695, .ifCond .eq 7, 3), (1698, .lconst 1, 1)]
set_option maxRecDepth 100000 in
theorem xi_ok0_102 : xi_ok code xi_0_102 = true := by decide +kernel
def xi_0_103 : XIs := [(1699, .goto 4, 3), (1702, .lconst 0, 1), (1703, .lcmp, 1), (1704, .ifCond .eq 5, 3), (1707, .iconst 0, 1), (1708, .ireturn, 1)]
set_option maxRecDepth 100000 in
theorem xi_ok0_103 : xi_ok code xi_0_103 = true := by decide +kernel
def xi_0_104 : XIs := [(1709, .goto 1259, 3), (1712, .aload_n 1, 1), (1713, .aload_n 0, 1), (1714, .iload 4, 2), (1716, .iconst 1, 1), (1717, .iadd, 1)]
set_option maxRecDepth 100000 in
theorem xi_ok0_104 : xi_ok code xi_0_104 = true := by decide +kernel
def xi_0_105 : XIs := [(1718, .iaload, 1), (1719, .aload_n 3, 1), (1720, .invokestatic 235, 3), (1723, .istore 5, 2), (1725, .aload_n 2, 1), (1726, .aload_n 0, 1)]
set_option maxRecDepth 100000 in
theorem xi_ok0_105 : xi_ok code xi_0_105 = true := by decide +kernel
def xi_0_106 : XIs := [(1727, .iload 4, 2), (1729, .iconst 1, 1), (1730, .iadd, 1), (1731, .iaload, 1), (1732, .invokevirtual 237, 3), (1735, .istore 6, 2)]
set_option maxRecDepth 100000 in
theorem xi_ok0_106 : xi_ok code xi_0_106 = true := by decide +kernel
def xi_0_107 : XIs := [(1737, .aload_n 2, 1), (1738, .invokevirtual 151, 3), (1741, .iload 5, 2), (1743, .if_icmp .eq 5, 3), (1746, .iconst 0, 1), (1747, .ireturn, 1)]
set_option maxRecDepth 100000 in
theorem xi_ok0_107 : xi_ok code xi_0_107 = true := by decide +kernel
def xi_0_108 : XIs := [(1748, .iload 5, 2), (1750, .ifCond .ne 15, 3), (1753, .aload_n 3, 1), (1754, .iconst 0, 1), (1755, .laload, 1), (1756, .iload 6, 2)]
set_option maxRecDepth 100000 in
theorem xi_ok0_108 : xi_ok code xi_0_108 = true := by decide +kernel
def xi_0_109 : XIs := [(1758, .i2l, 1), (1759, .lcmp, 1), (1760, .ifCond .eq 5, 3), (1763, .iconst 0, 1), (1764, .ireturn, 1), (1765, .goto 1203, 3)]
set_option maxRecDepth 100000 in
theorem xi_ok0_109 : xi_ok code xi_0_109 = true := by decide +kernel
def xi_0_110 : XIs := [(1768, .aload_n 1, 1), (1769, .aload_n 0, 1), (1770, .iload 4, 2), (1772, .iconst 1, 1), (1773, .iadd, 1), (1774, .iaload, 1)]
set_option maxRecDepth 100000 in
theorem xi_ok0_110 : xi_ok code xi_0_110 = true := by decide +kernel
