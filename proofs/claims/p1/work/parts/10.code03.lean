def xi_0_59 : XIs := [(1423, .goto 1545, 3), (1426, .aload_n 1, 1), (1427, .aload_n 0, 1), (1428, .iload 4, 2), (1430, .iconst 1, 1), (1431, .iadd, 1), (1432, .iaload, 1)]
set_option maxRecDepth 100000 in
theorem xi_ok0_59 : xi_ok code xi_0_59 = true := by decide +kernel
def xi_0_60 : XIs := [(1433, .aload_n 0, 1), (1434, .iload 4, 2), (1436, .iconst 2, 1), (1437, .iadd, 1), (1438, .iaload, 1), (1439, .aload_n 0, 1), (1440, .iload 4, 2)]
set_option maxRecDepth 100000 in
theorem xi_ok0_60 : xi_ok code xi_0_60 = true := by decide +kernel
def xi_0_61 : XIs := [(1442, .iconst 3, 1), (1443, .iadd, 1), (1444, .iaload, 1), (1445, .aload_n 0, 1), (1446, .iload 4, 2), (1448, .iconst 4, 1), (1449, .iadd, 1)]
set_option maxRecDepth 100000 in
theorem xi_ok0_61 : xi_ok code xi_0_61 = true := by decide +kernel
def xi_0_62 : XIs := [(1450, .iaload, 1), (1451, .aload_n 3, 1), (1452, .invokestatic 222, 3), (1455, .istore 5, 2), (1457, .aload_n 2, 1), (1458, .aload_n 0, 1), (1459, .iload 4, 2)]
set_option maxRecDepth 100000 in
theorem xi_ok0_62 : xi_ok code xi_0_62 = true := by decide +kernel
def xi_0_63 : XIs := [(1461, .iconst 1, 1), (1462, .iadd, 1), (1463, .iaload, 1), (1464, .aload_n 0, 1), (1465, .iload 4, 2), (1467, .iconst 2, 1), (1468, .iadd, 1)]
set_option maxRecDepth 100000 in
theorem xi_ok0_63 : xi_ok code xi_0_63 = true := by decide +kernel
def xi_0_64 : XIs := [(1469, .iaload, 1), (1470, .aload_n 0, 1), (1471, .iload 4, 2), (1473, .iconst 3, 1), (1474, .iadd, 1), (1475, .iaload, 1), (1476, .aload_n 0, 1)]
set_option maxRecDepth 100000 in
theorem xi_ok0_64 : xi_ok code xi_0_64 = true := by decide +kernel
def xi_0_65 : XIs := [(1477, .iload 4, 2), (1479, .iconst 4, 1), (1480, .iadd, 1), (1481, .iaload, 1), (1482, .invokevirtual 225, 3), (1485, .istore 6, 2)]
set_option maxRecDepth 100000 in
theorem xi_ok0_65 : xi_ok code xi_0_65 = true := by decide +kernel
def xi_0_66 : XIs := [(1487, .aload_n 2, 1), (1488, .invokevirtual 151, 3), (1491, .iload 5, 2), (1493, .if_icmp .eq 5, 3), (1498, .iload 5, 2), (1500, .ifCond .ne 15, 3)]
set_option maxRecDepth 100000 in
theorem xi_ok0_66 : xi_ok code xi_0_66 = true := by decide +kernel
def xi_0_67 : XIs := [(1515, .goto 1453, 3), (1518, .aload_n 1, 1), (1519, .aload_n 0, 1), (1520, .iload 4, 2), (1522, .iconst 1, 1), (1523, .iadd, 1)]
set_option maxRecDepth 100000 in
theorem xi_ok0_67 : xi_ok code xi_0_67 = true := by decide +kernel
def xi_0_68 : XIs := [(1524, .iaload, 1), (1525, .aload_n 0, 1), (1526, .iload 4, 2), (1528, .iconst 2, 1), (1529, .iadd, 1), (1530, .iaload, 1)]
set_option maxRecDepth 100000 in
theorem xi_ok0_68 : xi_ok code xi_0_68 = true := by decide +kernel
def xi_0_69 : XIs := [(1531, .aload_n 3, 1), (1532, .invokestatic 226, 3), (1535, .istore 5, 2), (1537, .aload_n 2, 1), (1538, .aload_n 0, 1), (1539, .iload 4, 2)]
set_option maxRecDepth 100000 in
theorem xi_ok0_69 : xi_ok code xi_0_69 = true := by decide +kernel
def xi_0_70 : XIs := [(1541, .iconst 1, 1), (1542, .iadd, 1), (1543, .iaload, 1), (1544, .aload_n 0, 1), (1545, .iload 4, 2), (1547, .iconst 2, 1)]
set_option maxRecDepth 100000 in
theorem xi_ok0_70 : xi_ok code xi_0_70 = true := by decide +kernel
def xi_0_71 : XIs := [(1548, .iadd, 1), (1549, .iaload, 1), (1550, .invokevirtual 228, 3), (1553, .istore 6, 2), (1555, .aload_n 2, 1), (1556, .invokevirtual 151, 3)]
set_option maxRecDepth 100000 in
theorem xi_ok0_71 : xi_ok code xi_0_71 = true := by decide +kernel
def xi_0_72 : XIs := [(1559, .iload 5, 2), (1561, .if_icmp .eq 5, 3), (1566, .iload 5, 2), (1568, .ifCond .ne 15, 3), (1583, .goto 1385, 3), (1586, .aload_n 1, 1)]
set_option maxRecDepth 100000 in
theorem xi_ok0_72 : xi_ok code xi_0_72 = true := by decide +kernel
def xi_0_73 : XIs := [(1587, .aload_n 0, 1), (1588, .iload 4, 2), (1590, .iconst 1, 1), (1591, .iadd, 1), (1592, .iaload, 1), (1593, .aload_n 3, 1)]
set_option maxRecDepth 100000 in
theorem xi_ok0_73 : xi_ok code xi_0_73 = true := by decide +kernel
def xi_0_74 : XIs := [(1594, .invokestatic 229, 3), (1597, .istore 5, 2), (1599, .aload_n 2, 1), (1600, .aload_n 0, 1), (1601, .iload 4, 2), (1603, .iconst 1, 1)]
set_option maxRecDepth 100000 in
theorem xi_ok0_74 : xi_ok code xi_0_74 = true := by decide +kernel
def xi_0_75 : XIs := [(1604, .iadd, 1), (1605, .iaload, 1), (1606, .invokevirtual 231, 3), (1609, .istore 6, 2), (1611, .aload_n 2, 1), (1612, .invokevirtual 151, 3)]
set_option maxRecDepth 100000 in
theorem xi_ok0_75 : xi_ok code xi_0_75 = true := by decide +kernel
def xi_0_76 : XIs := [(1615, .iload 5, 2), (1617, .if_icmp .eq 5, 3), (1622, .iload 5, 2), (1624, .ifCond .ne 22, 3), (1646, .goto 1322, 3), (1649, .aload_n 1, 1)]
set_option maxRecDepth 100000 in
theorem xi_ok0_76 : xi_ok code xi_0_76 = true := by decide +kernel
def xi_0_77 : XIs := [(1650, .aload_n 0, 1), (1651, .iload 4, 2), (1653, .iconst 1, 1), (1654, .iadd, 1), (1655, .iaload, 1), (1656, .aload_n 3, 1)]
set_option maxRecDepth 100000 in
theorem xi_ok0_77 : xi_ok code xi_0_77 = true := by decide +kernel
def xi_0_78 : XIs := [(1657, .invokestatic 232, 3), (1660, .istore 5, 2), (1662, .aload_n 2, 1), (1663, .aload_n 0, 1), (1664, .iload 4, 2), (1666, .iconst 1, 1)]
set_option maxRecDepth 100000 in
theorem xi_ok0_78 : xi_ok code xi_0_78 = true := by decide +kernel
def xi_0_79 : XIs := [(1667, .iadd, 1), (1668, .iaload, 1), (1669, .invokevirtual 234, 3), (1672, .istore 6, 2), (1674, .aload_n 2, 1), (1675, .invokevirtual 151, 3)]
set_option maxRecDepth 100000 in
theorem xi_ok0_79 : xi_ok code xi_0_79 = true := by decide +kernel
def xi_0_80 : XIs := [(1678, .iload 5, 2), (1680, .if_icmp .eq 5, 3), (1685, .iload 5, 2), (1687, .ifCond .ne 22, 3), (1709, .goto 1259, 3), (1712, .aload_n 1, 1)]
set_option maxRecDepth 100000 in
theorem xi_ok0_80 : xi_ok code xi_0_80 = true := by decide +kernel
def xi_0_81 : XIs := [(1713, .aload_n 0, 1), (1714, .iload 4, 2), (1716, .iconst 1, 1), (1717, .iadd, 1), (1718, .iaload, 1), (1719, .aload_n 3, 1)]
set_option maxRecDepth 100000 in
theorem xi_ok0_81 : xi_ok code xi_0_81 = true := by decide +kernel
def xi_0_82 : XIs := [(1720, .invokestatic 235, 3), (1723, .istore 5, 2), (1725, .aload_n 2, 1), (1726, .aload_n 0, 1), (1727, .iload 4, 2), (1729, .iconst 1, 1)]
set_option maxRecDepth 100000 in
theorem xi_ok0_82 : xi_ok code xi_0_82 = true := by decide +kernel
def xi_0_83 : XIs := [(1730, .iadd, 1), (1731, .iaload, 1), (1732, .invokevirtual 237, 3), (1735, .istore 6, 2), (1737, .aload_n 2, 1), (1738, .invokevirtual 151, 3)]
set_option maxRecDepth 100000 in
theorem xi_ok0_83 : xi_ok code xi_0_83 = true := by decide +kernel
def xi_0_84 : XIs := [(1741, .iload 5, 2), (1743, .if_icmp .eq 5, 3), (1748, .iload 5, 2), (1750, .ifCond .ne 15, 3), (1753, .aload_n 3, 1), (1754, .iconst 0, 1)]
set_option maxRecDepth 100000 in
theorem xi_ok0_84 : xi_ok code xi_0_84 = true := by decide +kernel
