def xi_0_111 : XIs := [(1732, .aload_n 1, 1), (1733, .aload_n 0, 1), (1734, .iload 4, 2), (1736, .iconst 1, 1), (1737, .iadd, 1), (1738, .iaload, 1)]
set_option maxRecDepth 100000 in
theorem xi_ok0_111 : xi_ok code xi_0_111 = true := by decide +kernel
def xi_0_112 : XIs := [(1739, .aload_n 0, 1), (1740, .iload 4, 2), (1742, .iconst 2, 1), (1743, .iadd, 1), (1744, .iaload, 1), (1745, .aload_n 0, 1)]
set_option maxRecDepth 100000 in
theorem xi_ok0_112 : xi_ok code xi_0_112 = true := by decide +kernel
def xi_0_113 : XIs := [(1746, .iload 4, 2), (1748, .iconst 3, 1), (1749, .iadd, 1), (1750, .iaload, 1), (1751, .aload_n 0, 1), (1752, .iload 4, 2)]
set_option maxRecDepth 100000 in
theorem xi_ok0_113 : xi_ok code xi_0_113 = true := by decide +kernel
def xi_0_114 : XIs := [(1754, .iconst 4, 1), (1755, .iadd, 1), (1756, .iaload, 1), (1757, .i2l, 1), (1758, .bipush 32, 2), (1760, .lshl, 1)]
set_option maxRecDepth 100000 in
theorem xi_ok0_114 : xi_ok code xi_0_114 = true := by decide +kernel
def xi_0_115 : XIs := [(1761, .aload_n 0, 1), (1762, .iload 4, 2), (1764, .iconst 5, 1), (1765, .iadd, 1), (1766, .iaload, 1), (1767, .i2l, 1)]
set_option maxRecDepth 100000 in
theorem xi_ok0_115 : xi_ok code xi_0_115 = true := by decide +kernel
def xi_0_116 : XIs := [(1768, .ldc2_w 297, 3), (1771, .land, 1), (1772, .lor, 1), (1773, .aload_n 3, 1), (1774, .invokestatic 299, 3), (1777, .istore 5, 2)]
set_option maxRecDepth 100000 in
theorem xi_ok0_116 : xi_ok code xi_0_116 = true := by decide +kernel
def xi_0_117 : XIs := [(1779, .aload_n 2, 1), (1780, .aload_n 0, 1), (1781, .iload 4, 2), (1783, .iconst 1, 1), (1784, .iadd, 1)]
set_option maxRecDepth 100000 in
theorem xi_ok0_117 : xi_ok code xi_0_117 = true := by decide +kernel
def xi_0_118 : XIs := [(1785, .iaload, 1), (1786, .aload_n 0, 1), (1787, .iload 4, 2), (1789, .iconst 2, 1), (1790, .iadd, 1)]
set_option maxRecDepth 100000 in
theorem xi_ok0_118 : xi_ok code xi_0_118 = true := by decide +kernel
def xi_0_119 : XIs := [(1791, .iaload, 1), (1792, .aload_n 0, 1), (1793, .iload 4, 2), (1795, .iconst 3, 1), (1796, .iadd, 1)]
set_option maxRecDepth 100000 in
theorem xi_ok0_119 : xi_ok code xi_0_119 = true := by decide +kernel
def xi_0_120 : XIs := [(1797, .iaload, 1), (1798, .aload_n 0, 1), (1799, .iload 4, 2), (1801, .iconst 4, 1), (1802, .iadd, 1)]
set_option maxRecDepth 100000 in
theorem xi_ok0_120 : xi_ok code xi_0_120 = true := by decide +kernel
def xi_0_121 : XIs := [(1803, .iaload, 1), (1804, .i2l, 1), (1805, .bipush 32, 2), (1807, .lshl, 1), (1808, .aload_n 0, 1)]
set_option maxRecDepth 100000 in
theorem xi_ok0_121 : xi_ok code xi_0_121 = true := by decide +kernel
def xi_0_122 : XIs := [(1809, .iload 4, 2), (1811, .iconst 5, 1), (1812, .iadd, 1), (1813, .iaload, 1), (1814, .i2l, 1)]
set_option maxRecDepth 100000 in
theorem xi_ok0_122 : xi_ok code xi_0_122 = true := by decide +kernel
def xi_0_123 : XIs := [(1815, .ldc2_w 297, 3), (1818, .land, 1), (1819, .lor, 1), (1820, .invokevirtual 302, 3), (1823, .istore 6, 2)]
set_option maxRecDepth 100000 in
theorem xi_ok0_123 : xi_ok code xi_0_123 = true := by decide +kernel
def xi_0_124 : XIs := [(1825, .goto 59, 3), (1828, .aload_n 1, 1), (1829, .aload_n 0, 1), (1830, .iload 4, 2), (1832, .iconst 1, 1)]
set_option maxRecDepth 100000 in
theorem xi_ok0_124 : xi_ok code xi_0_124 = true := by decide +kernel
def xi_0_125 : XIs := [(1833, .iadd, 1), (1834, .iaload, 1), (1835, .aload_n 3, 1), (1836, .invokestatic 303, 3), (1839, .istore 5, 2)]
set_option maxRecDepth 100000 in
theorem xi_ok0_125 : xi_ok code xi_0_125 = true := by decide +kernel
def xi_0_126 : XIs := [(1841, .aload_n 2, 1), (1842, .aload_n 0, 1), (1843, .iload 4, 2), (1845, .iconst 1, 1), (1846, .iadd, 1)]
set_option maxRecDepth 100000 in
theorem xi_ok0_126 : xi_ok code xi_0_126 = true := by decide +kernel
def xi_0_127 : XIs := [(1847, .iaload, 1), (1848, .invokevirtual 305, 3), (1851, .lstore 6, 2), (1853, .goto 31, 3), (1856, .aload_n 1, 1)]
set_option maxRecDepth 100000 in
theorem xi_ok0_127 : xi_ok code xi_0_127 = true := by decide +kernel
def xi_0_128 : XIs := [(1857, .aload_n 0, 1), (1858, .iload 4, 2), (1860, .iconst 1, 1), (1861, .iadd, 1), (1862, .iaload, 1)]
set_option maxRecDepth 100000 in
theorem xi_ok0_128 : xi_ok code xi_0_128 = true := by decide +kernel
def xi_0_129 : XIs := [(1863, .aload_n 3, 1), (1864, .invokestatic 306, 3), (1867, .istore 5, 2), (1869, .aload_n 2, 1), (1870, .aload_n 0, 1)]
set_option maxRecDepth 100000 in
theorem xi_ok0_129 : xi_ok code xi_0_129 = true := by decide +kernel
def xi_0_130 : XIs := [(1871, .iload 4, 2), (1873, .iconst 1, 1), (1874, .iadd, 1), (1875, .iaload, 1), (1876, .invokevirtual 308, 3)]
set_option maxRecDepth 100000 in
theorem xi_ok0_130 : xi_ok code xi_0_130 = true := by decide +kernel
def xi_0_131 : XIs := [(1879, .istore 6, 2), (1881, .goto 3, 3), (1884, .iinc 4 6, 3), (1887, .goto (-1864), 3), (1890, .iconst 1, 1)]
set_option maxRecDepth 100000 in
theorem xi_ok0_131 : xi_ok code xi_0_131 = true := by decide +kernel
def xi_0_132 : XIs := [(1891, .ireturn, 1)]
set_option maxRecDepth 100000 in
theorem xi_ok0_132 : xi_ok code xi_0_132 = true := by decide +kernel
def xi_0 (pc : Nat) : XIs := cond (Nat.blt pc 1305) (cond (Nat.blt pc 892) (cond (Nat.blt pc 578) (cond (Nat.blt pc 390) (cond (Nat.blt pc 305) (cond (Nat.blt pc 252) (cond (Nat.blt pc 27) (xi_0_0) (xi_0_1)) (cond (Nat.blt pc 280) (xi_0_2) (xi_0_3))) (cond (Nat.blt pc 345) (cond (Nat.blt pc 324) (xi_0_4) (xi_0_5)) (cond (Nat.blt pc 365) (xi_0_6) (xi_0_7)))) (cond (Nat.blt pc 480) (cond (Nat.blt pc 435) (cond (Nat.blt pc 414) (xi_0_8) (xi_0_9)) (cond (Nat.blt pc 458) (xi_0_10) (xi_0_11))) (cond (Nat.blt pc 530) (cond (Nat.blt pc 503) (xi_0_12) (xi_0_13)) (cond (Nat.blt pc 555) (xi_0_14) (xi_0_15))))) (cond (Nat.blt pc 745) (cond (Nat.blt pc 663) (cond (Nat.blt pc 623) (cond (Nat.blt pc 600) (xi_0_16) (xi_0_17)) (cond (Nat.blt pc 644) (xi_0_18) (xi_0_19))) (cond (Nat.blt pc 702) (cond (Nat.blt pc 682) (xi_0_20) (xi_0_21)) (cond (Nat.blt pc 726) (xi_0_22) (xi_0_23)))) (cond (Nat.blt pc 819) (cond (Nat.blt pc 785) (cond (Nat.blt pc 764) (xi_0_24) (xi_0_25)) (cond (Nat.blt pc 803) (xi_0_26) (xi_0_27))) (cond (Nat.blt pc 852) (cond (Nat.blt pc 834) (xi_0_28) (xi_0_29)) (cond (Nat.blt pc 865) (xi_0_30) (cond (Nat.blt pc 880) (xi_0_31) (xi_0_32))))))) (cond (Nat.blt pc 1104) (cond (Nat.blt pc 1003) (cond (Nat.blt pc 951) (cond (Nat.blt pc 923) (cond (Nat.blt pc 908) (xi_0_33) (xi_0_34)) (cond (Nat.blt pc 937) (xi_0_35) (xi_0_36))) (cond (Nat.blt pc 981) (cond (Nat.blt pc 965) (xi_0_37) (xi_0_38)) (cond (Nat.blt pc 992) (xi_0_39) (xi_0_40)))) (cond (Nat.blt pc 1052) (cond (Nat.blt pc 1027) (cond (Nat.blt pc 1016) (xi_0_41) (xi_0_42)) (cond (Nat.blt pc 1039) (xi_0_43) (xi_0_44))) (cond (Nat.blt pc 1076) (cond (Nat.blt pc 1065) (xi_0_45) (xi_0_46)) (cond (Nat.blt pc 1091) (xi_0_47) (xi_0_48))))) (cond (Nat.blt pc 1204) (cond (Nat.blt pc 1155) (cond (Nat.blt pc 1130) (cond (Nat.blt pc 1118) (xi_0_49) (xi_0_50)) (cond (Nat.blt pc 1144) (xi_0_51) (xi_0_52))) (cond (Nat.blt pc 1181) (cond (Nat.blt pc 1169) (xi_0_53) (xi_0_54)) (cond (Nat.blt pc 1193) (xi_0_55) (xi_0_56)))) (cond (Nat.blt pc 1256) (cond (Nat.blt pc 1230) (cond (Nat.blt pc 1216) (xi_0_57) (xi_0_58)) (cond (Nat.blt pc 1242) (xi_0_59) (xi_0_60))) (cond (Nat.blt pc 1276) (cond (Nat.blt pc 1265) (xi_0_61) (xi_0_62)) (cond (Nat.blt pc 1284) (xi_0_63) (cond (Nat.blt pc 1297) (xi_0_64) (xi_0_65)))))))) (cond (Nat.blt pc 1615) (cond (Nat.blt pc 1467) (cond (Nat.blt pc 1381) (cond (Nat.blt pc 1345) (cond (Nat.blt pc 1324) (cond (Nat.blt pc 1315) (xi_0_66) (xi_0_67)) (cond (Nat.blt pc 1333) (xi_0_68) (xi_0_69))) (cond (Nat.blt pc 1362) (cond (Nat.blt pc 1354) (xi_0_70) (xi_0_71)) (cond (Nat.blt pc 1373) (xi_0_72) (xi_0_73)))) (cond (Nat.blt pc 1425) (cond (Nat.blt pc 1402) (cond (Nat.blt pc 1391) (xi_0_74) (xi_0_75)) (cond (Nat.blt pc 1413) (xi_0_76) (xi_0_77))) (cond (Nat.blt pc 1444) (cond (Nat.blt pc 1435) (xi_0_78) (xi_0_79)) (cond (Nat.blt pc 1457) (xi_0_80) (xi_0_81))))) (cond (Nat.blt pc 1541) (cond (Nat.blt pc 1506) (cond (Nat.blt pc 1490) (cond (Nat.blt pc 1480) (xi_0_82) (xi_0_83)) (cond (Nat.blt pc 1499) (xi_0_84) (xi_0_85))) (cond (Nat.blt pc 1523) (cond (Nat.blt pc 1516) (xi_0_86) (xi_0_87)) (cond (Nat.blt pc 1534) (xi_0_88) (xi_0_89)))) (cond (Nat.blt pc 1572) (cond (Nat.blt pc 1556) (cond (Nat.blt pc 1549) (xi_0_90) (xi_0_91)) (cond (Nat.blt pc 1565) (xi_0_92) (xi_0_93))) (cond (Nat.blt pc 1587) (cond (Nat.blt pc 1580) (xi_0_94) (xi_0_95)) (cond (Nat.blt pc 1598) (xi_0_96) (cond (Nat.blt pc 1605) (xi_0_97) (xi_0_98))))))) (cond (Nat.blt pc 1768) (cond (Nat.blt pc 1692) (cond (Nat.blt pc 1655) (cond (Nat.blt pc 1638) (cond (Nat.blt pc 1626) (xi_0_99) (xi_0_100)) (cond (Nat.blt pc 1645) (xi_0_101) (xi_0_102))) (cond (Nat.blt pc 1676) (cond (Nat.blt pc 1666) (xi_0_103) (xi_0_104)) (cond (Nat.blt pc 1685) (xi_0_105) (xi_0_106)))) (cond (Nat.blt pc 1732) (cond (Nat.blt pc 1709) (cond (Nat.blt pc 1702) (xi_0_107) (xi_0_108)) (cond (Nat.blt pc 1720) (xi_0_109) (xi_0_110))) (cond (Nat.blt pc 1746) (cond (Nat.blt pc 1739) (xi_0_111) (xi_0_112)) (cond (Nat.blt pc 1754) (xi_0_113) (cond (Nat.blt pc 1761) (xi_0_114) (xi_0_115)))))) (cond (Nat.blt pc 1825) (cond (Nat.blt pc 1797) (cond (Nat.blt pc 1785) (cond (Nat.blt pc 1779) (xi_0_116) (xi_0_117)) (cond (Nat.blt pc 1791) (xi_0_118) (xi_0_119))) (cond (Nat.blt pc 1809) (cond (Nat.blt pc 1803) (xi_0_120) (xi_0_121)) (cond (Nat.blt pc 1815) (xi_0_122) (xi_0_123)))) (cond (Nat.blt pc 1857) (cond (Nat.blt pc 1841) (cond (Nat.blt pc 1833) (xi_0_124) (xi_0_125)) (cond (Nat.blt pc 1847) (xi_0_126) (xi_0_127))) (cond (Nat.blt pc 1871) (cond (Nat.blt pc 1863) (xi_0_128) (xi_0_129)) (cond (Nat.blt pc 1879) (xi_0_130) (cond (Nat.blt pc 1891) (xi_0_131) (xi_0_132))))))))
theorem xi_ok0 (pc : Nat) : xi_ok code (xi_0 pc) = true := xi_c (xi_c (xi_c (xi_c (xi_c (xi_c (xi_c (xi_ok0_0) (xi_ok0_1)) (xi_c (xi_ok0_2) (xi_ok0_3))) (xi_c (xi_c (xi_ok0_4) (xi_ok0_5)) (xi_c (xi_ok0_6) (xi_ok0_7)))) (xi_c (xi_c (xi_c (xi_ok0_8) (xi_ok0_9)) (xi_c (xi_ok0_10) (xi_ok0_11))) (xi_c (xi_c (xi_ok0_12) (xi_ok0_13)) (xi_c (xi_ok0_14) (xi_ok0_15))))) (xi_c (xi_c (xi_c (xi_c (xi_ok0_16) (xi_ok0_17)) (xi_c (xi_ok0_18) (xi_ok0_19))) (xi_c (xi_c (xi_ok0_20) (xi_ok0_21)) (xi_c (xi_ok0_22) (xi_ok0_23)))) (xi_c (xi_c (xi_c (xi_ok0_24) (xi_ok0_25)) (xi_c (xi_ok0_26) (xi_ok0_27))) (xi_c (xi_c (xi_ok0_28) (xi_ok0_29)) (xi_c (xi_ok0_30) (xi_c (xi_ok0_31) (xi_ok0_32))))))) (xi_c (xi_c (xi_c (xi_c (xi_c (xi_ok0_33) (xi_ok0_34)) (xi_c (xi_ok0_35) (xi_ok0_36))) (xi_c (xi_c (xi_ok0_37) (xi_ok0_38)) (xi_c (xi_ok0_39) (xi_ok0_40)))) (xi_c (xi_c (xi_c (xi_ok0_41) (xi_ok0_42)) (xi_c (xi_ok0_43) (xi_ok0_44))) (xi_c (xi_c (xi_ok0_45) (xi_ok0_46)) (xi_c (xi_ok0_47) (xi_ok0_48))))) (xi_c (xi_c (xi_c (xi_c (xi_ok0_49) (xi_ok0_50)) (xi_c (xi_ok0_51) (xi_ok0_52))) (xi_c (xi_c (xi_ok0_53) (xi_ok0_54)) (xi_c (xi_ok0_55) (xi_ok0_56)))) (xi_c (xi_c (xi_c (xi_ok0_57) (xi_ok0_58)) (xi_c (xi_ok0_59) (xi_ok0_60))) (xi_c (xi_c (xi_ok0_61) (xi_ok0_62)) (xi_c (xi_ok0_63) (xi_c (xi_ok0_64) (xi_ok0_65)))))))) (xi_c (xi_c (xi_c (xi_c (xi_c (xi_c (xi_ok0_66) (xi_ok0_67)) (xi_c (xi_ok0_68) (xi_ok0_69))) (xi_c (xi_c (xi_ok0_70) (xi_ok0_71)) (xi_c (xi_ok0_72) (xi_ok0_73)))) (xi_c (xi_c (xi_c (xi_ok0_74) (xi_ok0_75)) (xi_c (xi_ok0_76) (xi_ok0_77))) (xi_c (xi_c (xi_ok0_78) (xi_ok0_79)) (xi_c (xi_ok0_80) (xi_ok0_81))))) (xi_c (xi_c (xi_c (xi_c (xi_ok0_82) (xi_ok0_83)) (xi_c (xi_ok0_84) (xi_ok0_85))) (xi_c (xi_c (xi_ok0_86) (xi_ok0_87)) (xi_c (xi_ok0_88) (xi_ok0_89)))) (xi_c (xi_c (xi_c (xi_ok0_90) (xi_ok0_91)) (xi_c (xi_ok0_92) (xi_ok0_93))) (xi_c (xi_c (xi_ok0_94) (xi_ok0_95)) (xi_c (xi_ok0_96) (xi_c (xi_ok0_97) (xi_ok0_98))))))) (xi_c (xi_c (xi_c (xi_c (xi_c (xi_ok0_99) (xi_ok0_100)) (xi_c (xi_ok0_101) (xi_ok0_102))) (xi_c (xi_c (xi_ok0_103) (xi_ok0_104)) (xi_c (xi_ok0_105) (xi_ok0_106)))) (xi_c (xi_c (xi_c (xi_ok0_107) (xi_ok0_108)) (xi_c (xi_ok0_109) (xi_ok0_110))) (xi_c (xi_c (xi_ok0_111) (xi_ok0_112)) (xi_c (xi_ok0_113) (xi_c (xi_ok0_114) (xi_ok0_115)))))) (xi_c (xi_c (xi_c (xi_c (xi_ok0_116) (xi_ok0_117)) (xi_c (xi_ok0_118) (xi_ok0_119))) (xi_c (xi_c (xi_ok0_120) (xi_ok0_121)) (xi_c (xi_ok0_122) (xi_ok0_123)))) (xi_c (xi_c (xi_c (xi_ok0_124) (xi_ok0_125)) (xi_c (xi_ok0_126) (xi_ok0_127))) (xi_c (xi_c (xi_ok0_128) (xi_ok0_129)) (xi_c (xi_ok0_130) (xi_c (xi_ok0_131) (xi_ok0_132))))))))
def xi_1_0 : XIs := [(0, .aload_n 2, 1), (1, .iconst 0, 1), (2, .aload_n 0, 1), (3, .iload_n 1, 1), (4, .invokevirtual 7, 3), (7, .i2l, 1), (8, .lastore, 1), (9, .goto 9, 3), (12, .astore_n 3, 1), (13, .iconst 1, 1), (14, .ireturn, 1), (15, .astore_n 3, 1), (16, .iconst 2, 1), (17, .ireturn, 1), (18, .iconst 0, 1), (19, .ireturn, 1)]
set_option maxRecDepth 100000 in
theorem xi_ok1_0 : xi_ok cL_node xi_1_0 = true := by decide +kernel
def xi_1 (pc : Nat) : XIs := xi_1_0
theorem xi_ok1 (pc : Nat) : xi_ok cL_node (xi_1 pc) = true := xi_ok1_0
def xi_2_0 : XIs := [(0, .aload 6, 2), (2, .iconst 0, 1), (3, .aload_n 0, 1), (4, .iload_n 1, 1), (5, .iload_n 2, 1), (6, .iload_n 3, 1), (7, .iload 4, 2), (9, .iload 5, 2), (11, .invokevirtual 17, 3), (14, .i2l, 1), (15, .lastore, 1), (16, .goto 11, 3), (19, .astore 7, 2), (21, .iconst 1, 1), (22, .ireturn, 1), (23, .astore 7, 2)]
set_option maxRecDepth 100000 in
theorem xi_ok2_0 : xi_ok cL_arc xi_2_0 = true := by decide +kernel
def xi_2_1 : XIs := [(25, .iconst 2, 1), (26, .ireturn, 1), (27, .iconst 0, 1), (28, .ireturn, 1)]
set_option maxRecDepth 100000 in
theorem xi_ok2_1 : xi_ok cL_arc xi_2_1 = true := by decide +kernel
def xi_2 (pc : Nat) : XIs := cond (Nat.blt pc 25) (xi_2_0) (xi_2_1)
theorem xi_ok2 (pc : Nat) : xi_ok cL_arc (xi_2 pc) = true := xi_c (xi_ok2_0) (xi_ok2_1)
def xi_3_0 : XIs := [(0, .aload_n 2, 1), (1, .iconst 0, 1), (2, .aload_n 0, 1), (3, .iload_n 1, 1), (4, .invokevirtual 21, 3), (7, .i2l, 1), (8, .lastore, 1), (9, .goto 9, 3), (12, .astore_n 3, 1), (13, .iconst 1, 1), (14, .ireturn, 1), (15, .astore_n 3, 1), (16, .iconst 2, 1), (17, .ireturn, 1), (18, .iconst 0, 1), (19, .ireturn, 1)]
set_option maxRecDepth 100000 in
theorem xi_ok3_0 : xi_ok cL_take xi_3_0 = true := by decide +kernel
def xi_3 (pc : Nat) : XIs := xi_3_0
theorem xi_ok3 (pc : Nat) : xi_ok cL_take (xi_3 pc) = true := xi_ok3_0
def xi_4_0 : XIs := [(0, .aload 4, 2), (2, .iconst 0, 1), (3, .aload_n 0, 1), (4, .iload_n 1, 1), (5, .iload_n 2, 1), (6, .iload_n 3, 1), (7, .invokevirtual 24, 3), (10, .i2l, 1), (11, .lastore, 1), (12, .goto 11, 3), (15, .astore 5, 2), (17, .iconst 1, 1), (18, .ireturn, 1), (19, .astore 5, 2), (21, .iconst 2, 1), (22, .ireturn, 1)]
set_option maxRecDepth 100000 in
theorem xi_ok4_0 : xi_ok cL_set xi_4_0 = true := by decide +kernel
def xi_4_1 : XIs := [(23, .iconst 0, 1), (24, .ireturn, 1)]
set_option maxRecDepth 100000 in
theorem xi_ok4_1 : xi_ok cL_set xi_4_1 = true := by decide +kernel
def xi_4 (pc : Nat) : XIs := cond (Nat.blt pc 23) (xi_4_0) (xi_4_1)
theorem xi_ok4 (pc : Nat) : xi_ok cL_set (xi_4 pc) = true := xi_c (xi_ok4_0) (xi_ok4_1)
def xi_5_0 : XIs := [(0, .aload_n 3, 1), (1, .iconst 0, 1), (2, .aload_n 0, 1), (3, .iload_n 1, 1), (4, .iload_n 2, 1), (5, .invokevirtual 28, 3), (8, .i2l, 1), (9, .lastore, 1), (10, .goto 11, 3), (13, .astore 4, 2), (15, .iconst 1, 1), (16, .ireturn, 1), (17, .astore 4, 2), (19, .iconst 2, 1), (20, .ireturn, 1), (21, .iconst 0, 1)]
set_option maxRecDepth 100000 in
theorem xi_ok5_0 : xi_ok cL_label xi_5_0 = true := by decide +kernel
def xi_5_1 : XIs := [(22, .ireturn, 1)]
set_option maxRecDepth 100000 in
theorem xi_ok5_1 : xi_ok cL_label xi_5_1 = true := by decide +kernel
def xi_5 (pc : Nat) : XIs := cond (Nat.blt pc 22) (xi_5_0) (xi_5_1)
theorem xi_ok5 (pc : Nat) : xi_ok cL_label (xi_5 pc) = true := xi_c (xi_ok5_0) (xi_ok5_1)
def xi_6_0 : XIs := [(0, .aload_n 2, 1), (1, .iconst 0, 1), (2, .aload_n 0, 1), (3, .iload_n 1, 1), (4, .invokevirtual 32, 3), (7, .i2l, 1), (8, .lastore, 1), (9, .goto 6, 3), (12, .astore_n 3, 1), (13, .iconst 1, 1), (14, .ireturn, 1), (15, .iconst 0, 1), (16, .ireturn, 1)]
set_option maxRecDepth 100000 in
theorem xi_ok6_0 : xi_ok cL_view xi_6_0 = true := by decide +kernel
def xi_6 (pc : Nat) : XIs := xi_6_0
theorem xi_ok6 (pc : Nat) : xi_ok cL_view (xi_6 pc) = true := xi_ok6_0
def xi_7_0 : XIs := [(0, .aload_n 2, 1), (1, .iconst 0, 1), (2, .aload_n 0, 1), (3, .iload_n 1, 1), (4, .invokevirtual 35, 3), (7, .i2l, 1), (8, .lastore, 1), (9, .goto 6, 3), (12, .astore_n 3, 1), (13, .iconst 1, 1), (14, .ireturn, 1), (15, .iconst 0, 1), (16, .ireturn, 1)]
set_option maxRecDepth 100000 in
theorem xi_ok7_0 : xi_ok cL_size xi_7_0 = true := by decide +kernel
def xi_7 (pc : Nat) : XIs := xi_7_0
theorem xi_ok7 (pc : Nat) : xi_ok cL_size (xi_7 pc) = true := xi_ok7_0
def xi_8_0 : XIs := [(0, .aload_n 3, 1), (1, .iconst 0, 1), (2, .aload_n 0, 1), (3, .iload_n 1, 1), (4, .iload_n 2, 1), (5, .invokevirtual 38, 3), (8, .lastore, 1), (9, .goto 7, 3), (12, .astore 4, 2), (14, .iconst 1, 1), (15, .ireturn, 1), (16, .iconst 0, 1), (17, .ireturn, 1)]
set_option maxRecDepth 100000 in
theorem xi_ok8_0 : xi_ok cL_told xi_8_0 = true := by decide +kernel
def xi_8 (pc : Nat) : XIs := xi_8_0
theorem xi_ok8 (pc : Nat) : xi_ok cL_told (xi_8 pc) = true := xi_ok8_0
def xi_9_0 : XIs := [(0, .aload_n 2, 1), (1, .iconst 0, 1), (2, .aload_n 0, 1), (3, .iload_n 1, 1), (4, .invokevirtual 42, 3), (7, .i2l, 1), (8, .lastore, 1), (9, .goto 6, 3), (12, .astore_n 3, 1), (13, .iconst 1, 1), (14, .ireturn, 1), (15, .iconst 0, 1), (16, .ireturn, 1)]
set_option maxRecDepth 100000 in
theorem xi_ok9_0 : xi_ok cL_labelOf xi_9_0 = true := by decide +kernel
def xi_9 (pc : Nat) : XIs := xi_9_0
theorem xi_ok9 (pc : Nat) : xi_ok cL_labelOf (xi_9 pc) = true := xi_ok9_0
def xi_10_0 : XIs := [(0, .aload 4, 2), (2, .iconst 0, 1), (3, .aload_n 0, 1), (4, .iload_n 1, 1), (5, .iload_n 2, 1), (6, .iload_n 3, 1), (7, .invokevirtual 45, 3), (10, .i2l, 1), (11, .lastore, 1), (12, .goto 7, 3), (15, .astore 5, 2), (17, .iconst 1, 1), (18, .ireturn, 1), (19, .iconst 0, 1), (20, .ireturn, 1)]
set_option maxRecDepth 100000 in
theorem xi_ok10_0 : xi_ok cL_arcAt xi_10_0 = true := by decide +kernel
def xi_10 (pc : Nat) : XIs := xi_10_0
theorem xi_ok10 (pc : Nat) : xi_ok cL_arcAt (xi_10 pc) = true := xi_ok10_0
def xi_11_0 : XIs := [(0, .aload_n 2, 1), (1, .iconst 0, 1), (2, .aload_n 0, 1), (3, .iload_n 1, 1), (4, .invokevirtual 48, 3), (7, .i2l, 1), (8, .lastore, 1), (9, .goto 9, 3), (12, .astore_n 3, 1), (13, .iconst 1, 1), (14, .ireturn, 1), (15, .astore_n 3, 1), (16, .iconst 2, 1), (17, .ireturn, 1), (18, .iconst 0, 1), (19, .ireturn, 1)]
set_option maxRecDepth 100000 in
theorem xi_ok11_0 : xi_ok cL_type xi_11_0 = true := by decide +kernel
def xi_11 (pc : Nat) : XIs := xi_11_0
theorem xi_ok11 (pc : Nat) : xi_ok cL_type (xi_11 pc) = true := xi_ok11_0
def xi_12_0 : XIs := [(0, .aload_n 2, 1), (1, .iconst 0, 1), (2, .aload_n 0, 1), (3, .iload_n 1, 1), (4, .invokevirtual 51, 3), (7, .i2l, 1), (8, .lastore, 1), (9, .goto 6, 3), (12, .astore_n 3, 1), (13, .iconst 1, 1), (14, .ireturn, 1), (15, .iconst 0, 1), (16, .ireturn, 1)]
set_option maxRecDepth 100000 in
theorem xi_ok12_0 : xi_ok cL_fault xi_12_0 = true := by decide +kernel
def xi_12 (pc : Nat) : XIs := xi_12_0
theorem xi_ok12 (pc : Nat) : xi_ok cL_fault (xi_12 pc) = true := xi_ok12_0
def xi_13_0 : XIs := [(0, .aload_n 2, 1), (1, .iconst 0, 1), (2, .aload_n 0, 1), (3, .iload_n 1, 1), (4, .invokevirtual 54, 3), (7, .i2l, 1), (8, .lastore, 1), (9, .goto 6, 3), (12, .astore_n 3, 1), (13, .iconst 1, 1), (14, .ireturn, 1), (15, .iconst 0, 1), (16, .ireturn, 1)]
set_option maxRecDepth 100000 in
theorem xi_ok13_0 : xi_ok cL_printed xi_13_0 = true := by decide +kernel
def xi_13 (pc : Nat) : XIs := xi_13_0
theorem xi_ok13 (pc : Nat) : xi_ok cL_printed (xi_13 pc) = true := xi_ok13_0
def xi_14_0 : XIs := [(0, .aload_n 3, 1), (1, .iconst 0, 1), (2, .aload_n 0, 1), (3, .iload_n 1, 1), (4, .iload_n 2, 1), (5, .invokevirtual 57, 3), (8, .lastore, 1), (9, .goto 7, 3), (12, .astore 4, 2), (14, .iconst 1, 1), (15, .ireturn, 1), (16, .iconst 0, 1), (17, .ireturn, 1)]
set_option maxRecDepth 100000 in
theorem xi_ok14_0 : xi_ok cL_distance xi_14_0 = true := by decide +kernel
def xi_14 (pc : Nat) : XIs := xi_14_0
theorem xi_ok14 (pc : Nat) : xi_ok cL_distance (xi_14 pc) = true := xi_ok14_0
def xi_15_0 : XIs := [(0, .aload 4, 2), (2, .iconst 0, 1), (3, .aload_n 0, 1), (4, .iload_n 1, 1), (5, .iload_n 2, 1), (6, .iload_n 3, 1), (7, .invokevirtual 60, 3), (10, .i2l, 1), (11, .lastore, 1), (12, .goto 7, 3), (15, .astore 5, 2), (17, .iconst 1, 1), (18, .ireturn, 1), (19, .iconst 0, 1), (20, .ireturn, 1)]
set_option maxRecDepth 100000 in
theorem xi_ok15_0 : xi_ok cL_way xi_15_0 = true := by decide +kernel
def xi_15 (pc : Nat) : XIs := xi_15_0
theorem xi_ok15 (pc : Nat) : xi_ok cL_way (xi_15 pc) = true := xi_ok15_0
def xi_16_0 : XIs := [(0, .aload_n 3, 1), (1, .iconst 0, 1), (2, .aload_n 0, 1), (3, .iload_n 1, 1), (4, .iload_n 2, 1), (5, .invokevirtual 63, 3), (8, .i2l, 1), (9, .lastore, 1), (10, .goto 7, 3), (13, .astore 4, 2), (15, .iconst 1, 1), (16, .ireturn, 1), (17, .iconst 0, 1), (18, .ireturn, 1)]
set_option maxRecDepth 100000 in
theorem xi_ok16_0 : xi_ok cL_width xi_16_0 = true := by decide +kernel
def xi_16 (pc : Nat) : XIs := xi_16_0
theorem xi_ok16 (pc : Nat) : xi_ok cL_width (xi_16 pc) = true := xi_ok16_0
def xi_17_0 : XIs := [(0, .aload_n 3, 1), (1, .iconst 0, 1), (2, .aload_n 0, 1), (3, .iload_n 1, 1), (4, .iload_n 2, 1), (5, .invokevirtual 66, 3), (8, .i2l, 1), (9, .lastore, 1), (10, .goto 7, 3), (13, .astore 4, 2), (15, .iconst 1, 1), (16, .ireturn, 1), (17, .iconst 0, 1), (18, .ireturn, 1)]
set_option maxRecDepth 100000 in
theorem xi_ok17_0 : xi_ok cL_shorts xi_17_0 = true := by decide +kernel
def xi_17 (pc : Nat) : XIs := xi_17_0
theorem xi_ok17 (pc : Nat) : xi_ok cL_shorts (xi_17 pc) = true := xi_ok17_0
def xi_18_0 : XIs := [(0, .aload 5, 2), (2, .iconst 0, 1), (3, .aload_n 0, 1), (4, .iload_n 1, 1), (5, .iload_n 2, 1), (6, .iload_n 3, 1), (7, .iload 4, 2), (9, .invokevirtual 69, 3), (12, .i2l, 1), (13, .lastore, 1), (14, .goto 7, 3), (17, .astore 6, 2), (19, .iconst 1, 1), (20, .ireturn, 1), (21, .iconst 0, 1), (22, .ireturn, 1)]
set_option maxRecDepth 100000 in
theorem xi_ok18_0 : xi_ok cL_shortArc xi_18_0 = true := by decide +kernel
def xi_18 (pc : Nat) : XIs := xi_18_0
theorem xi_ok18 (pc : Nat) : xi_ok cL_shortArc (xi_18 pc) = true := xi_ok18_0
def xi_19_0 : XIs := [(0, .aload_n 3, 1), (1, .iconst 0, 1), (2, .aload_n 0, 1), (3, .iload_n 1, 1), (4, .iload_n 2, 1), (5, .invokevirtual 73, 3), (8, .i2l, 1), (9, .lastore, 1), (10, .goto 7, 3), (13, .astore 4, 2), (15, .iconst 1, 1), (16, .ireturn, 1), (17, .iconst 0, 1), (18, .ireturn, 1)]
set_option maxRecDepth 100000 in
theorem xi_ok19_0 : xi_ok cL_part xi_19_0 = true := by decide +kernel
def xi_19 (pc : Nat) : XIs := xi_19_0
theorem xi_ok19 (pc : Nat) : xi_ok cL_part (xi_19 pc) = true := xi_ok19_0
def xi_20_0 : XIs := [(0, .aload_n 2, 1), (1, .iconst 0, 1), (2, .aload_n 0, 1), (3, .iload_n 1, 1), (4, .invokevirtual 76, 3), (7, .ifCond .eq 7, 3), (10, .lconst 1, 1), (11, .goto 4, 3), (14, .lconst 0, 1), (15, .lastore, 1), (16, .goto 6, 3), (19, .astore_n 3, 1), (20, .iconst 1, 1), (21, .ireturn, 1), (22, .iconst 0, 1), (23, .ireturn, 1)]
set_option maxRecDepth 100000 in
theorem xi_ok20_0 : xi_ok cL_bridge xi_20_0 = true := by decide +kernel
def xi_20 (pc : Nat) : XIs := xi_20_0
theorem xi_ok20 (pc : Nat) : xi_ok cL_bridge (xi_20 pc) = true := xi_ok20_0
def xi_21_0 : XIs := [(0, .aload_n 2, 1), (1, .iconst 0, 1), (2, .aload_n 0, 1), (3, .iload_n 1, 1), (4, .invokevirtual 80, 3), (7, .ifCond .eq 7, 3), (10, .lconst 1, 1), (11, .goto 4, 3), (14, .lconst 0, 1), (15, .lastore, 1), (16, .goto 6, 3), (19, .astore_n 3, 1), (20, .iconst 1, 1), (21, .ireturn, 1), (22, .iconst 0, 1), (23, .ireturn, 1)]
set_option maxRecDepth 100000 in
theorem xi_ok21_0 : xi_ok cL_cut xi_21_0 = true := by decide +kernel
def xi_21 (pc : Nat) : XIs := xi_21_0
theorem xi_ok21 (pc : Nat) : xi_ok cL_cut (xi_21 pc) = true := xi_ok21_0
def xi_22_0 : XIs := [(0, .aload_n 2, 1), (1, .iconst 0, 1), (2, .aload_n 0, 1), (3, .iload_n 1, 1), (4, .invokevirtual 83, 3), (7, .i2l, 1), (8, .lastore, 1), (9, .goto 6, 3), (12, .astore_n 3, 1), (13, .iconst 1, 1), (14, .ireturn, 1), (15, .iconst 0, 1), (16, .ireturn, 1)]
set_option maxRecDepth 100000 in
theorem xi_ok22_0 : xi_ok cL_order xi_22_0 = true := by decide +kernel
def xi_22 (pc : Nat) : XIs := xi_22_0
theorem xi_ok22 (pc : Nat) : xi_ok cL_order (xi_22 pc) = true := xi_ok22_0
def xi_23_0 : XIs := [(0, .aload_n 2, 1), (1, .iconst 0, 1), (2, .aload_n 0, 1), (3, .iload_n 1, 1), (4, .invokevirtual 86, 3), (7, .i2l, 1), (8, .lastore, 1), (9, .goto 6, 3), (12, .astore_n 3, 1), (13, .iconst 1, 1), (14, .ireturn, 1), (15, .iconst 0, 1), (16, .ireturn, 1)]
set_option maxRecDepth 100000 in
theorem xi_ok23_0 : xi_ok cL_core xi_23_0 = true := by decide +kernel
def xi_23 (pc : Nat) : XIs := xi_23_0
theorem xi_ok23 (pc : Nat) : xi_ok cL_core (xi_23 pc) = true := xi_ok23_0
def xi_24_0 : XIs := [(0, .aload_n 2, 1), (1, .iconst 0, 1), (2, .aload_n 0, 1), (3, .iload_n 1, 1), (4, .invokevirtual 89, 3), (7, .i2l, 1), (8, .lastore, 1), (9, .goto 6, 3), (12, .astore_n 3, 1), (13, .iconst 1, 1), (14, .ireturn, 1), (15, .iconst 0, 1), (16, .ireturn, 1)]
set_option maxRecDepth 100000 in
theorem xi_ok24_0 : xi_ok cL_clique xi_24_0 = true := by decide +kernel
def xi_24 (pc : Nat) : XIs := xi_24_0
theorem xi_ok24 (pc : Nat) : xi_ok cL_clique (xi_24 pc) = true := xi_ok24_0
def xi_25_0 : XIs := [(0, .aload_n 2, 1), (1, .iconst 0, 1), (2, .aload_n 0, 1), (3, .iload_n 1, 1), (4, .invokevirtual 92, 3), (7, .i2l, 1), (8, .lastore, 1), (9, .goto 6, 3), (12, .astore_n 3, 1), (13, .iconst 1, 1), (14, .ireturn, 1), (15, .iconst 0, 1), (16, .ireturn, 1)]
set_option maxRecDepth 100000 in
theorem xi_ok25_0 : xi_ok cL_colour xi_25_0 = true := by decide +kernel
def xi_25 (pc : Nat) : XIs := xi_25_0
theorem xi_ok25 (pc : Nat) : xi_ok cL_colour (xi_25 pc) = true := xi_ok25_0
def xi_26_0 : XIs := [(0, .aload_n 3, 1), (1, .iconst 0, 1), (2, .aload_n 0, 1), (3, .iload_n 1, 1), (4, .iload_n 2, 1), (5, .invokevirtual 95, 3), (8, .lastore, 1), (9, .goto 7, 3), (12, .astore 4, 2), (14, .iconst 1, 1), (15, .ireturn, 1), (16, .iconst 0, 1), (17, .ireturn, 1)]
set_option maxRecDepth 100000 in
theorem xi_ok26_0 : xi_ok cL_flow xi_26_0 = true := by decide +kernel
def xi_26 (pc : Nat) : XIs := xi_26_0
theorem xi_ok26 (pc : Nat) : xi_ok cL_flow (xi_26 pc) = true := xi_ok26_0
def xi_27_0 : XIs := [(0, .aload 4, 2), (2, .iconst 0, 1), (3, .aload_n 0, 1), (4, .iload_n 1, 1), (5, .iload_n 2, 1), (6, .iload_n 3, 1), (7, .invokevirtual 98, 3), (10, .ifCond .eq 7, 3), (13, .lconst 1, 1), (14, .goto 4, 3), (17, .lconst 0, 1), (18, .lastore, 1), (19, .goto 7, 3), (22, .astore 5, 2), (24, .iconst 1, 1), (25, .ireturn, 1)]
set_option maxRecDepth 100000 in
theorem xi_ok27_0 : xi_ok cL_side xi_27_0 = true := by decide +kernel
def xi_27_1 : XIs := [(26, .iconst 0, 1), (27, .ireturn, 1)]
set_option maxRecDepth 100000 in
theorem xi_ok27_1 : xi_ok cL_side xi_27_1 = true := by decide +kernel
def xi_27 (pc : Nat) : XIs := cond (Nat.blt pc 26) (xi_27_0) (xi_27_1)
theorem xi_ok27 (pc : Nat) : xi_ok cL_side (xi_27 pc) = true := xi_c (xi_ok27_0) (xi_ok27_1)
def xi_28_0 : XIs := [(0, .aload 4, 2), (2, .iconst 0, 1), (3, .aload_n 0, 1), (4, .iload_n 1, 1), (5, .iload_n 2, 1), (6, .iload_n 3, 1), (7, .invokevirtual 102, 3), (10, .lastore, 1), (11, .goto 7, 3), (14, .astore 5, 2), (16, .iconst 1, 1), (17, .ireturn, 1), (18, .iconst 0, 1), (19, .ireturn, 1)]
set_option maxRecDepth 100000 in
theorem xi_ok28_0 : xi_ok cL_cost xi_28_0 = true := by decide +kernel
def xi_28 (pc : Nat) : XIs := xi_28_0
theorem xi_ok28 (pc : Nat) : xi_ok cL_cost (xi_28 pc) = true := xi_ok28_0
def xi_29_0 : XIs := [(0, .aload_n 2, 1), (1, .iconst 0, 1), (2, .aload_n 0, 1), (3, .iload_n 1, 1), (4, .invokevirtual 106, 3), (7, .lastore, 1), (8, .goto 6, 3), (11, .astore_n 3, 1), (12, .iconst 1, 1), (13, .ireturn, 1), (14, .iconst 0, 1), (15, .ireturn, 1)]
set_option maxRecDepth 100000 in
theorem xi_ok29_0 : xi_ok cL_pairing xi_29_0 = true := by decide +kernel
def xi_29 (pc : Nat) : XIs := xi_29_0
theorem xi_ok29 (pc : Nat) : xi_ok cL_pairing (xi_29 pc) = true := xi_ok29_0
def xi_30_0 : XIs := [(0, .aload_n 2, 1), (1, .iconst 0, 1), (2, .aload_n 0, 1), (3, .iload_n 1, 1), (4, .invokevirtual 110, 3), (7, .lastore, 1), (8, .goto 6, 3), (11, .astore_n 3, 1), (12, .iconst 1, 1), (13, .ireturn, 1), (14, .iconst 0, 1), (15, .ireturn, 1)]
set_option maxRecDepth 100000 in
theorem xi_ok30_0 : xi_ok cL_tree xi_30_0 = true := by decide +kernel
def xi_30 (pc : Nat) : XIs := xi_30_0
theorem xi_ok30 (pc : Nat) : xi_ok cL_tree (xi_30 pc) = true := xi_ok30_0
def xi_31_0 : XIs := [(0, .aload_n 2, 1), (1, .iconst 0, 1), (2, .aload_n 0, 1), (3, .iload_n 1, 1), (4, .invokevirtual 113, 3), (7, .ifCond .eq 7, 3), (10, .lconst 1, 1), (11, .goto 4, 3), (14, .lconst 0, 1), (15, .lastore, 1), (16, .goto 6, 3), (19, .astore_n 3, 1), (20, .iconst 1, 1), (21, .ireturn, 1), (22, .iconst 0, 1), (23, .ireturn, 1)]
set_option maxRecDepth 100000 in
theorem xi_ok31_0 : xi_ok cL_span xi_31_0 = true := by decide +kernel
def xi_31 (pc : Nat) : XIs := xi_31_0
theorem xi_ok31 (pc : Nat) : xi_ok cL_span (xi_31 pc) = true := xi_ok31_0
def xi_32_0 : XIs := [(0, .aload_n 3, 1), (1, .iconst 0, 1), (2, .aload_n 0, 1), (3, .iload_n 1, 1), (4, .iload_n 2, 1), (5, .invokevirtual 116, 3), (8, .lastore, 1), (9, .goto 7, 3), (12, .astore 4, 2), (14, .iconst 1, 1), (15, .ireturn, 1), (16, .iconst 0, 1), (17, .ireturn, 1)]
set_option maxRecDepth 100000 in
theorem xi_ok32_0 : xi_ok cL_rank xi_32_0 = true := by decide +kernel
def xi_32 (pc : Nat) : XIs := xi_32_0
theorem xi_ok32 (pc : Nat) : xi_ok cL_rank (xi_32 pc) = true := xi_ok32_0
def xi_33_0 : XIs := [(0, .aload 5, 2), (2, .iconst 0, 1), (3, .aload_n 0, 1), (4, .iload_n 1, 1), (5, .iload_n 2, 1), (6, .iload_n 3, 1), (7, .iload 4, 2), (9, .invokevirtual 119, 3), (12, .i2l, 1), (13, .lastore, 1), (14, .goto 7, 3), (17, .astore 6, 2), (19, .iconst 1, 1), (20, .ireturn, 1), (21, .iconst 0, 1), (22, .ireturn, 1)]
set_option maxRecDepth 100000 in
theorem xi_ok33_0 : xi_ok cL_shortest xi_33_0 = true := by decide +kernel
def xi_33 (pc : Nat) : XIs := xi_33_0
theorem xi_ok33 (pc : Nat) : xi_ok cL_shortest (xi_33 pc) = true := xi_ok33_0
def xi_34_0 : XIs := [(0, .aload_n 2, 1), (1, .iconst 0, 1), (2, .aload_n 0, 1), (3, .iload_n 1, 1), (4, .invokevirtual 122, 3), (7, .i2l, 1), (8, .lastore, 1), (9, .goto 6, 3), (12, .astore_n 3, 1), (13, .iconst 1, 1), (14, .ireturn, 1), (15, .iconst 0, 1), (16, .ireturn, 1)]
set_option maxRecDepth 100000 in
theorem xi_ok34_0 : xi_ok cL_group xi_34_0 = true := by decide +kernel
def xi_34 (pc : Nat) : XIs := xi_34_0
theorem xi_ok34 (pc : Nat) : xi_ok cL_group (xi_34 pc) = true := xi_ok34_0
def xi_35_0 : XIs := [(0, .aload_n 2, 1), (1, .iconst 0, 1), (2, .aload_n 0, 1), (3, .iload_n 1, 1), (4, .invokevirtual 125, 3), (7, .lastore, 1), (8, .goto 6, 3), (11, .astore_n 3, 1), (12, .iconst 1, 1), (13, .ireturn, 1), (14, .iconst 0, 1), (15, .ireturn, 1)]
set_option maxRecDepth 100000 in
theorem xi_ok35_0 : xi_ok cL_figures xi_35_0 = true := by decide +kernel
def xi_35 (pc : Nat) : XIs := xi_35_0
theorem xi_ok35 (pc : Nat) : xi_ok cL_figures (xi_35 pc) = true := xi_ok35_0
def xi_36_0 : XIs := [(0, .aload_n 3, 1), (1, .iconst 0, 1), (2, .aload_n 0, 1), (3, .iload_n 1, 1), (4, .iload_n 2, 1), (5, .invokevirtual 128, 3), (8, .i2l, 1), (9, .lastore, 1), (10, .goto 7, 3), (13, .astore 4, 2), (15, .iconst 1, 1), (16, .ireturn, 1), (17, .iconst 0, 1), (18, .ireturn, 1)]
set_option maxRecDepth 100000 in
theorem xi_ok36_0 : xi_ok cL_fits xi_36_0 = true := by decide +kernel
def xi_36 (pc : Nat) : XIs := xi_36_0
theorem xi_ok36 (pc : Nat) : xi_ok cL_fits (xi_36 pc) = true := xi_ok36_0
def xi_37_0 : XIs := [(0, .aload 6, 2), (2, .iconst 0, 1), (3, .aload_n 0, 1), (4, .iload_n 1, 1), (5, .iload_n 2, 1), (6, .iload_n 3, 1), (7, .lload 4, 2), (9, .invokevirtual 131, 3), (12, .i2l, 1), (13, .lastore, 1), (14, .goto 7, 3), (17, .astore 7, 2), (19, .iconst 1, 1), (20, .ireturn, 1), (21, .iconst 0, 1), (22, .ireturn, 1)]
set_option maxRecDepth 100000 in
theorem xi_ok37_0 : xi_ok cL_run xi_37_0 = true := by decide +kernel
def xi_37 (pc : Nat) : XIs := xi_37_0
theorem xi_ok37 (pc : Nat) : xi_ok cL_run (xi_37 pc) = true := xi_ok37_0
def xi_38_0 : XIs := [(0, .aload_n 2, 1), (1, .iconst 0, 1), (2, .aload_n 0, 1), (3, .iload_n 1, 1), (4, .invokevirtual 135, 3), (7, .lastore, 1), (8, .goto 6, 3), (11, .astore_n 3, 1), (12, .iconst 1, 1), (13, .ireturn, 1), (14, .iconst 0, 1), (15, .ireturn, 1)]
set_option maxRecDepth 100000 in
theorem xi_ok38_0 : xi_ok cL_state xi_38_0 = true := by decide +kernel
def xi_38 (pc : Nat) : XIs := xi_38_0
theorem xi_ok38 (pc : Nat) : xi_ok cL_state (xi_38 pc) = true := xi_ok38_0
def xi_39_0 : XIs := [(0, .aload_n 2, 1), (1, .iconst 0, 1), (2, .aload_n 0, 1), (3, .iload_n 1, 1), (4, .invokevirtual 138, 3), (7, .i2l, 1), (8, .lastore, 1), (9, .goto 6, 3), (12, .astore_n 3, 1), (13, .iconst 1, 1), (14, .ireturn, 1), (15, .iconst 0, 1), (16, .ireturn, 1)]
set_option maxRecDepth 100000 in
theorem xi_ok39_0 : xi_ok cL_letters xi_39_0 = true := by decide +kernel
def xi_39 (pc : Nat) : XIs := xi_39_0
theorem xi_ok39 (pc : Nat) : xi_ok cL_letters (xi_39 pc) = true := xi_ok39_0
def xi_40_0 : XIs := [(0, .aload_n 0, 1), (1, .invokespecial 3, 3), (4, .aload_n 0, 1), (5, .iconst (-1), 1), (6, .putfield 9, 3), (9, .aload_n 0, 1), (10, .iconst (-1), 1), (11, .putfield 15, 3), (14, .aload_n 0, 1), (15, .bipush 32, 2), (17, .newarray .int, 2), (19, .putfield 18, 3), (22, .aload_n 0, 1), (23, .bipush 32, 2), (25, .newarray .int, 2), (27, .putfield 22, 3)]
set_option maxRecDepth 100000 in
theorem xi_ok40_0 : xi_ok cX0_init xi_40_0 = true := by decide +kernel
def xi_40_1 : XIs := [(30, .aload_n 0, 1), (31, .bipush 32, 2), (33, .newarray .int, 2), (35, .putfield 25, 3), (38, .aload_n 0, 1), (39, .bipush 32, 2), (41, .newarray .int, 2), (43, .putfield 28, 3), (46, .return_, 1)]
set_option maxRecDepth 100000 in
theorem xi_ok40_1 : xi_ok cX0_init xi_40_1 = true := by decide +kernel
def xi_40 (pc : Nat) : XIs := cond (Nat.blt pc 30) (xi_40_0) (xi_40_1)
theorem xi_ok40 (pc : Nat) : xi_ok cX0_init (xi_40 pc) = true := xi_c (xi_ok40_0) (xi_ok40_1)
def xi_41_0 : XIs := [(0, .aload_n 0, 1), (1, .getfield 9, 3), (4, .aload_n 1, 1), (5, .getfield 31, 3), (8, .if_icmp .eq 34, 3), (11, .aload_n 0, 1), (12, .aload_n 1, 1), (13, .getfield 31, 3), (16, .putfield 9, 3), (19, .aload_n 1, 1), (20, .invokevirtual 36, 3), (23, .aload_n 0, 1), (24, .iconst 0, 1), (25, .putfield 39, 3), (28, .aload_n 0, 1), (29, .aload_n 1, 1)]
set_option maxRecDepth 100000 in
theorem xi_ok41_0 : xi_ok cX0_greatestClique xi_41_0 = true := by decide +kernel
def xi_41_1 : XIs := [(30, .getfield 42, 3), (33, .iconst 0, 1), (34, .aload_n 1, 1), (35, .invokevirtual 45, 3), (38, .iconst 0, 1), (39, .invokevirtual 49, 3), (42, .aload_n 0, 1), (43, .getfield 39, 3), (46, .ireturn, 1)]
set_option maxRecDepth 100000 in
theorem xi_ok41_1 : xi_ok cX0_greatestClique xi_41_1 = true := by decide +kernel
def xi_41 (pc : Nat) : XIs := cond (Nat.blt pc 30) (xi_41_0) (xi_41_1)
theorem xi_ok41 (pc : Nat) : xi_ok cX0_greatestClique (xi_41 pc) = true := xi_c (xi_ok41_0) (xi_ok41_1)
def xi_42_0 : XIs := [(0, .iload_n 2, 1), (1, .invokestatic 53, 3), (4, .istore 5, 2), (6, .iload 5, 2), (8, .aload_n 0, 1), (9, .getfield 39, 3), (12, .invokestatic 53, 3), (15, .if_icmp .le 8, 3), (18, .aload_n 0, 1), (19, .iload_n 2, 1), (20, .putfield 39, 3), (23, .iload 4, 2), (25, .bipush 32, 2), (27, .if_icmp .lt 4, 3), (30, .return_, 1), (31, .iload_n 3, 1)]
set_option maxRecDepth 100000 in
theorem xi_ok42_0 : xi_ok cX0_growClique xi_42_0 = true := by decide +kernel
def xi_42_1 : XIs := [(32, .istore 6, 2), (34, .iload 6, 2), (36, .ifCond .eq 63, 3), (39, .iload 5, 2), (41, .iload 6, 2), (43, .invokestatic 53, 3), (46, .iadd, 1), (47, .aload_n 0, 1), (48, .getfield 39, 3), (51, .invokestatic 53, 3), (54, .if_icmp .gt 4, 3), (57, .return_, 1), (58, .iload 6, 2), (60, .invokestatic 59, 3), (63, .istore 7, 2), (65, .aload_n 0, 1)]
set_option maxRecDepth 100000 in
theorem xi_ok42_1 : xi_ok cX0_growClique xi_42_1 = true := by decide +kernel
def xi_42_2 : XIs := [(66, .aload_n 1, 1), (67, .iload_n 2, 1), (68, .iconst 1, 1), (69, .iload 7, 2), (71, .ishl, 1), (72, .ior, 1), (73, .iload 6, 2), (75, .aload_n 1, 1), (76, .iload 7, 2), (78, .iaload, 1), (79, .iand, 1), (80, .iload 4, 2), (82, .iconst 1, 1), (83, .iadd, 1), (84, .invokevirtual 49, 3), (87, .iload 6, 2)]
set_option maxRecDepth 100000 in
theorem xi_ok42_2 : xi_ok cX0_growClique xi_42_2 = true := by decide +kernel
def xi_42_3 : XIs := [(89, .iload 6, 2), (91, .iconst 1, 1), (92, .isub, 1), (93, .iand, 1), (94, .istore 6, 2), (96, .goto (-62), 3), (99, .return_, 1)]
set_option maxRecDepth 100000 in
theorem xi_ok42_3 : xi_ok cX0_growClique xi_42_3 = true := by decide +kernel
def xi_42 (pc : Nat) : XIs := cond (Nat.blt pc 66) (cond (Nat.blt pc 32) (xi_42_0) (xi_42_1)) (cond (Nat.blt pc 89) (xi_42_2) (xi_42_3))
theorem xi_ok42 (pc : Nat) : xi_ok cX0_growClique (xi_42 pc) = true := xi_c (xi_c (xi_ok42_0) (xi_ok42_1)) (xi_c (xi_ok42_2) (xi_ok42_3))
def xi_43_0 : XIs := [(0, .aload_n 0, 1), (1, .getfield 15, 3), (4, .aload_n 1, 1), (5, .getfield 31, 3), (8, .if_icmp .eq 16, 3), (11, .aload_n 0, 1), (12, .aload_n 1, 1), (13, .getfield 31, 3), (16, .putfield 15, 3), (19, .aload_n 0, 1), (20, .aload_n 1, 1), (21, .invokevirtual 62, 3), (24, .aload_n 0, 1), (25, .getfield 28, 3), (28, .iload_n 2, 1), (29, .iaload, 1)]
set_option maxRecDepth 100000 in
theorem xi_ok43_0 : xi_ok cX0_colourOf xi_43_0 = true := by decide +kernel
def xi_43_1 : XIs := [(30, .ireturn, 1)]
set_option maxRecDepth 100000 in
theorem xi_ok43_1 : xi_ok cX0_colourOf xi_43_1 = true := by decide +kernel
def xi_43 (pc : Nat) : XIs := cond (Nat.blt pc 30) (xi_43_0) (xi_43_1)
theorem xi_ok43 (pc : Nat) : xi_ok cX0_colourOf (xi_43 pc) = true := xi_c (xi_ok43_0) (xi_ok43_1)
def xi_44_0 : XIs := [(0, .aload_n 1, 1), (1, .invokevirtual 36, 3), (4, .aload_n 0, 1), (5, .iconst 1, 1), (6, .aload_n 0, 1), (7, .aload_n 1, 1), (8, .invokevirtual 66, 3), (11, .invokestatic 53, 3), (14, .invokestatic 70, 3), (17, .putfield 76, 3), (20, .aload_n 0, 1), (21, .iconst 0, 1), (22, .putfield 79, 3), (25, .aload_n 0, 1), (26, .getfield 18, 3), (29, .iconst 0, 1)]
set_option maxRecDepth 100000 in
theorem xi_ok44_0 : xi_ok cX0_makeColours xi_44_0 = true := by decide +kernel
def xi_44_1 : XIs := [(30, .invokestatic 82, 3), (33, .aload_n 0, 1), (34, .getfield 76, 3), (37, .bipush 32, 2), (39, .if_icmp .ge 32, 3), (42, .aload_n 0, 1), (43, .aload_n 1, 1), (44, .getfield 42, 3), (47, .aload_n 1, 1), (48, .invokevirtual 45, 3), (51, .iconst 0, 1), (52, .invokevirtual 88, 3), (55, .ifCond .ne 16, 3), (58, .aload_n 0, 1), (59, .dup, 1), (60, .getfield 76, 3)]
set_option maxRecDepth 100000 in
theorem xi_ok44_1 : xi_ok cX0_makeColours xi_44_1 = true := by decide +kernel
def xi_44_2 : XIs := [(63, .iconst 1, 1), (64, .iadd, 1), (65, .putfield 76, 3), (68, .goto (-35), 3), (71, .iconst 0, 1), (72, .istore_n 2, 1), (73, .iconst 0, 1), (74, .istore_n 3, 1), (75, .iload_n 3, 1), (76, .aload_n 1, 1), (77, .getfield 91, 3), (80, .if_icmp .ge 35, 3), (83, .aload_n 0, 1), (84, .getfield 28, 3), (87, .iload_n 3, 1), (88, .aload_n 0, 1)]
set_option maxRecDepth 100000 in
theorem xi_ok44_2 : xi_ok cX0_makeColours xi_44_2 = true := by decide +kernel
def xi_44_3 : XIs := [(89, .aload_n 1, 1), (90, .iload_n 3, 1), (91, .iload_n 2, 1), (92, .invokevirtual 94, 3), (95, .iastore, 1), (96, .iload_n 2, 1), (97, .aload_n 0, 1), (98, .getfield 28, 3), (101, .iload_n 3, 1), (102, .iaload, 1), (103, .iconst 1, 1), (104, .iadd, 1), (105, .invokestatic 70, 3), (108, .istore_n 2, 1), (109, .iinc 3 1, 3), (112, .goto (-37), 3)]
set_option maxRecDepth 100000 in
theorem xi_ok44_3 : xi_ok cX0_makeColours xi_44_3 = true := by decide +kernel
def xi_44_4 : XIs := [(115, .return_, 1)]
set_option maxRecDepth 100000 in
theorem xi_ok44_4 : xi_ok cX0_makeColours xi_44_4 = true := by decide +kernel
def xi_44 (pc : Nat) : XIs := cond (Nat.blt pc 63) (cond (Nat.blt pc 30) (xi_44_0) (xi_44_1)) (cond (Nat.blt pc 89) (xi_44_2) (cond (Nat.blt pc 115) (xi_44_3) (xi_44_4)))
theorem xi_ok44 (pc : Nat) : xi_ok cX0_makeColours (xi_44 pc) = true := xi_c (xi_c (xi_ok44_0) (xi_ok44_1)) (xi_c (xi_ok44_2) (xi_c (xi_ok44_3) (xi_ok44_4)))
def xi_45_0 : XIs := [(0, .iconst 0, 1), (1, .istore_n 2, 1), (2, .iload_n 2, 1), (3, .bipush 32, 2), (5, .if_icmp .ge 24, 3), (8, .aload_n 0, 1), (9, .getfield 18, 3), (12, .iload_n 2, 1), (13, .iaload, 1), (14, .iload_n 1, 1), (15, .ishr, 1), (16, .iconst 1, 1), (17, .iand, 1), (18, .ifCond .eq 5, 3), (21, .iload_n 2, 1), (22, .ireturn, 1)]
set_option maxRecDepth 100000 in
theorem xi_ok45_0 : xi_ok cX0_classOf xi_45_0 = true := by decide +kernel
def xi_45_1 : XIs := [(23, .iinc 2 1, 3), (26, .goto (-24), 3), (29, .iconst 0, 1), (30, .ireturn, 1)]
set_option maxRecDepth 100000 in
theorem xi_ok45_1 : xi_ok cX0_classOf xi_45_1 = true := by decide +kernel
def xi_45 (pc : Nat) : XIs := cond (Nat.blt pc 23) (xi_45_0) (xi_45_1)
theorem xi_ok45 (pc : Nat) : xi_ok cX0_classOf (xi_45 pc) = true := xi_c (xi_ok45_0) (xi_ok45_1)
def xi_46_0 : XIs := [(0, .iload_n 3, 1), (1, .bipush 32, 2), (3, .if_icmp .le 5, 3), (6, .iconst 0, 1), (7, .ireturn, 1), (8, .aload_n 0, 1), (9, .getfield 79, 3), (12, .istore 4, 2), (14, .aload_n 0, 1), (15, .aload_n 1, 1), (16, .iload_n 2, 1), (17, .invokevirtual 98, 3), (20, .istore 5, 2), (22, .iconst 0, 1), (23, .istore 6, 2), (25, .iload 6, 2)]
set_option maxRecDepth 100000 in
theorem xi_ok46_0 : xi_ok cX0_fill xi_46_0 = true := by decide +kernel
def xi_46_1 : XIs := [(27, .bipush 32, 2), (29, .if_icmp .ge 87, 3), (32, .iload 5, 2), (34, .ifCond .eq 82, 3), (37, .aload_n 1, 1), (38, .iload 5, 2), (40, .iload 5, 2), (42, .ineg, 1), (43, .iand, 1), (44, .iload 5, 2), (46, .invokestatic 102, 3), (49, .istore 7, 2), (51, .aload_n 0, 1), (52, .aload_n 1, 1), (53, .iload 7, 2), (55, .iload_n 3, 1)]
set_option maxRecDepth 100000 in
theorem xi_ok46_1 : xi_ok cX0_fill xi_46_1 = true := by decide +kernel
def xi_46_2 : XIs := [(56, .invokevirtual 106, 3), (59, .ifCond .ne 42, 3), (62, .iconst 0, 1), (63, .istore 8, 2), (65, .iload 8, 2), (67, .aload_n 0, 1), (68, .getfield 76, 3), (71, .if_icmp .ge 22, 3), (74, .aload_n 0, 1), (75, .getfield 18, 3), (78, .iload 8, 2), (80, .dup2, 1), (81, .iaload, 1), (82, .iload_n 2, 1), (83, .iconst (-1), 1), (84, .ixor, 1)]
set_option maxRecDepth 100000 in
theorem xi_ok46_2 : xi_ok cX0_fill xi_46_2 = true := by decide +kernel
def xi_46_3 : XIs := [(85, .iand, 1), (86, .iastore, 1), (87, .iinc 8 1, 3), (90, .goto (-25), 3), (93, .aload_n 0, 1), (94, .iload 4, 2), (96, .putfield 79, 3), (99, .iconst 0, 1), (100, .ireturn, 1), (101, .iload 5, 2), (103, .iload 7, 2), (105, .iconst (-1), 1), (106, .ixor, 1), (107, .iand, 1), (108, .istore 5, 2), (110, .iinc 6 1, 3)]
set_option maxRecDepth 100000 in
theorem xi_ok46_3 : xi_ok cX0_fill xi_46_3 = true := by decide +kernel
def xi_46_4 : XIs := [(113, .goto (-88), 3), (116, .aload_n 0, 1), (117, .aload_n 1, 1), (118, .iload 4, 2), (120, .invokevirtual 109, 3), (123, .iconst 1, 1), (124, .ireturn, 1)]
set_option maxRecDepth 100000 in
theorem xi_ok46_4 : xi_ok cX0_fill xi_46_4 = true := by decide +kernel
def xi_46 (pc : Nat) : XIs := cond (Nat.blt pc 56) (cond (Nat.blt pc 27) (xi_46_0) (xi_46_1)) (cond (Nat.blt pc 85) (xi_46_2) (cond (Nat.blt pc 113) (xi_46_3) (xi_46_4)))
theorem xi_ok46 (pc : Nat) : xi_ok cX0_fill (xi_46 pc) = true := xi_c (xi_c (xi_ok46_0) (xi_ok46_1)) (xi_c (xi_ok46_2) (xi_c (xi_ok46_3) (xi_ok46_4)))
def xi_47_0 : XIs := [(0, .aload_n 0, 1), (1, .aload_n 1, 1), (2, .iload_n 2, 1), (3, .invokevirtual 112, 3), (6, .istore 4, 2), (8, .iconst 1, 1), (9, .iload 4, 2), (11, .ishl, 1), (12, .istore 5, 2), (14, .aload_n 1, 1), (15, .iload_n 2, 1), (16, .invokestatic 115, 3), (19, .istore 6, 2), (21, .iconst 0, 1), (22, .istore 7, 2), (24, .iconst 0, 1)]
set_option maxRecDepth 100000 in
theorem xi_ok47_0 : xi_ok cX0_fillPiece xi_47_0 = true := by decide +kernel
def xi_47_1 : XIs := [(25, .istore 8, 2), (27, .iload 8, 2), (29, .aload_n 0, 1), (30, .getfield 76, 3), (33, .if_icmp .ge 106, 3), (36, .aload_n 0, 1), (37, .getfield 18, 3), (40, .iload 8, 2), (42, .iaload, 1), (43, .iload 6, 2), (45, .iand, 1), (46, .ifCond .ne 7, 3), (49, .iconst 1, 1), (50, .goto 4, 3), (53, .iconst 0, 1), (54, .istore 9, 2)]
set_option maxRecDepth 100000 in
theorem xi_ok47_1 : xi_ok cX0_fillPiece xi_47_1 = true := by decide +kernel
def xi_47_2 : XIs := [(56, .aload_n 0, 1), (57, .getfield 18, 3), (60, .iload 8, 2), (62, .iaload, 1), (63, .aload_n 1, 1), (64, .iload 4, 2), (66, .iaload, 1), (67, .iand, 1), (68, .ifCond .ne 65, 3), (71, .iload 9, 2), (73, .ifCond .eq 8, 3), (76, .iload 7, 2), (78, .ifCond .ne 55, 3), (81, .iload 7, 2), (83, .iload 9, 2), (85, .ior, 1)]
set_option maxRecDepth 100000 in
theorem xi_ok47_2 : xi_ok cX0_fillPiece xi_47_2 = true := by decide +kernel
def xi_47_3 : XIs := [(86, .istore 7, 2), (88, .aload_n 0, 1), (89, .getfield 18, 3), (92, .iload 8, 2), (94, .dup2, 1), (95, .iaload, 1), (96, .iload 5, 2), (98, .ior, 1), (99, .iastore, 1), (100, .aload_n 0, 1), (101, .aload_n 1, 1), (102, .iload_n 2, 1), (103, .iload 5, 2), (105, .iconst (-1), 1), (106, .ixor, 1), (107, .iand, 1)]
set_option maxRecDepth 100000 in
theorem xi_ok47_3 : xi_ok cX0_fillPiece xi_47_3 = true := by decide +kernel
def xi_47_4 : XIs := [(108, .iload_n 3, 1), (109, .iconst 1, 1), (110, .iadd, 1), (111, .invokevirtual 88, 3), (114, .ifCond .eq 5, 3), (117, .iconst 1, 1), (118, .ireturn, 1), (119, .aload_n 0, 1), (120, .getfield 18, 3), (123, .iload 8, 2), (125, .dup2, 1), (126, .iaload, 1), (127, .iload 5, 2), (129, .iconst (-1), 1), (130, .ixor, 1), (131, .iand, 1)]
set_option maxRecDepth 100000 in
theorem xi_ok47_4 : xi_ok cX0_fillPiece xi_47_4 = true := by decide +kernel
def xi_47_5 : XIs := [(132, .iastore, 1), (133, .iinc 8 1, 3), (136, .goto (-109), 3), (139, .iconst 0, 1), (140, .ireturn, 1)]
set_option maxRecDepth 100000 in
theorem xi_ok47_5 : xi_ok cX0_fillPiece xi_47_5 = true := by decide +kernel
def xi_47 (pc : Nat) : XIs := cond (Nat.blt pc 86) (cond (Nat.blt pc 25) (xi_47_0) (cond (Nat.blt pc 56) (xi_47_1) (xi_47_2))) (cond (Nat.blt pc 108) (xi_47_3) (cond (Nat.blt pc 132) (xi_47_4) (xi_47_5)))
theorem xi_ok47 (pc : Nat) : xi_ok cX0_fillPiece (xi_47 pc) = true := xi_c (xi_c (xi_ok47_0) (xi_c (xi_ok47_1) (xi_ok47_2))) (xi_c (xi_ok47_3) (xi_c (xi_ok47_4) (xi_ok47_5)))
def xi_48_0 : XIs := [(0, .iconst 0, 1), (1, .istore_n 2, 1), (2, .iload_n 1, 1), (3, .istore_n 3, 1), (4, .iload_n 3, 1), (5, .ifCond .eq 21, 3), (8, .iload_n 2, 1), (9, .aload_n 0, 1), (10, .iload_n 3, 1), (11, .invokestatic 59, 3), (14, .iaload, 1), (15, .ior, 1), (16, .istore_n 2, 1), (17, .iload_n 3, 1), (18, .iload_n 3, 1), (19, .iconst 1, 1)]
set_option maxRecDepth 100000 in
theorem xi_ok48_0 : xi_ok cX0_besides xi_48_0 = true := by decide +kernel
def xi_48_1 : XIs := [(20, .isub, 1), (21, .iand, 1), (22, .istore_n 3, 1), (23, .goto (-19), 3), (26, .iload_n 2, 1), (27, .ireturn, 1)]
set_option maxRecDepth 100000 in
theorem xi_ok48_1 : xi_ok cX0_besides xi_48_1 = true := by decide +kernel
def xi_48 (pc : Nat) : XIs := cond (Nat.blt pc 20) (xi_48_0) (xi_48_1)
theorem xi_ok48 (pc : Nat) : xi_ok cX0_besides (xi_48 pc) = true := xi_c (xi_ok48_0) (xi_ok48_1)
def xi_49_0 : XIs := [(0, .iload_n 2, 1), (1, .istore_n 3, 1), (2, .iconst 0, 1), (3, .istore 4, 2), (5, .iconst 0, 1), (6, .istore 5, 2), (8, .iload 5, 2), (10, .bipush 32, 2), (12, .if_icmp .gt 104, 3), (15, .iload_n 3, 1), (16, .iload 4, 2), (18, .if_icmp .eq 98, 3), (21, .iload_n 3, 1), (22, .istore 4, 2), (24, .iload_n 3, 1), (25, .istore 6, 2)]
set_option maxRecDepth 100000 in
theorem xi_ok49_0 : xi_ok cX0_setAside xi_49_0 = true := by decide +kernel
def xi_49_1 : XIs := [(27, .iload 6, 2), (29, .ifCond .eq 81, 3), (32, .iload 6, 2), (34, .invokestatic 59, 3), (37, .istore 7, 2), (39, .aload_n 0, 1), (40, .aload_n 1, 1), (41, .iload 7, 2), (43, .iaload, 1), (44, .invokevirtual 118, 3), (47, .aload_n 1, 1), (48, .iload 7, 2), (50, .iaload, 1), (51, .iload_n 3, 1), (52, .iand, 1), (53, .invokestatic 53, 3)]
set_option maxRecDepth 100000 in
theorem xi_ok49_1 : xi_ok cX0_setAside xi_49_1 = true := by decide +kernel
def xi_49_2 : XIs := [(56, .if_icmp .le 42, 3), (59, .aload_n 0, 1), (60, .getfield 79, 3), (63, .bipush 32, 2), (65, .if_icmp .ge 33, 3), (68, .aload_n 0, 1), (69, .getfield 25, 3), (72, .aload_n 0, 1), (73, .getfield 79, 3), (76, .iload 7, 2), (78, .iastore, 1), (79, .aload_n 0, 1), (80, .dup, 1), (81, .getfield 79, 3), (84, .iconst 1, 1), (85, .iadd, 1)]
set_option maxRecDepth 100000 in
theorem xi_ok49_2 : xi_ok cX0_setAside xi_49_2 = true := by decide +kernel
