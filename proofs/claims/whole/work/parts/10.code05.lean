def xi_0_111 : XIs := [(1775, .aload_n 3, 1), (1776, .invokestatic 238, 3), (1779, .istore 5, 2), (1781, .aload_n 2, 1), (1782, .aload_n 0, 1), (1783, .iload 4, 2)]
set_option maxRecDepth 100000 in
theorem xi_ok0_111 : xi_ok code xi_0_111 = true := by decide +kernel
def xi_0_112 : XIs := [(1785, .iconst 1, 1), (1786, .iadd, 1), (1787, .iaload, 1), (1788, .invokevirtual 240, 3), (1791, .istore 6, 2)]
set_option maxRecDepth 100000 in
theorem xi_ok0_112 : xi_ok code xi_0_112 = true := by decide +kernel
def xi_0_113 : XIs := [(1793, .aload_n 2, 1), (1794, .invokevirtual 151, 3), (1797, .iload 5, 2), (1799, .if_icmp .eq 5, 3), (1802, .iconst 0, 1)]
set_option maxRecDepth 100000 in
theorem xi_ok0_113 : xi_ok code xi_0_113 = true := by decide +kernel
def xi_0_114 : XIs := [(1803, .ireturn, 1), (1804, .iload 5, 2), (1806, .ifCond .ne 15, 3), (1809, .aload_n 3, 1), (1810, .iconst 0, 1)]
set_option maxRecDepth 100000 in
theorem xi_ok0_114 : xi_ok code xi_0_114 = true := by decide +kernel
def xi_0_115 : XIs := [(1811, .laload, 1), (1812, .iload 6, 2), (1814, .i2l, 1), (1815, .lcmp, 1), (1816, .ifCond .eq 5, 3)]
set_option maxRecDepth 100000 in
theorem xi_ok0_115 : xi_ok code xi_0_115 = true := by decide +kernel
def xi_0_116 : XIs := [(1819, .iconst 0, 1), (1820, .ireturn, 1), (1821, .goto 1147, 3), (1824, .aload_n 1, 1), (1825, .aload_n 0, 1)]
set_option maxRecDepth 100000 in
theorem xi_ok0_116 : xi_ok code xi_0_116 = true := by decide +kernel
def xi_0_117 : XIs := [(1826, .iload 4, 2), (1828, .iconst 1, 1), (1829, .iadd, 1), (1830, .iaload, 1), (1831, .aload_n 3, 1)]
set_option maxRecDepth 100000 in
theorem xi_ok0_117 : xi_ok code xi_0_117 = true := by decide +kernel
def xi_0_118 : XIs := [(1832, .invokestatic 241, 3), (1835, .istore 5, 2), (1837, .aload_n 2, 1), (1838, .aload_n 0, 1), (1839, .iload 4, 2)]
set_option maxRecDepth 100000 in
theorem xi_ok0_118 : xi_ok code xi_0_118 = true := by decide +kernel
def xi_0_119 : XIs := [(1841, .iconst 1, 1), (1842, .iadd, 1), (1843, .iaload, 1), (1844, .invokevirtual 243, 3), (1847, .istore 6, 2)]
set_option maxRecDepth 100000 in
theorem xi_ok0_119 : xi_ok code xi_0_119 = true := by decide +kernel
def xi_0_120 : XIs := [(1849, .aload_n 2, 1), (1850, .invokevirtual 151, 3), (1853, .iload 5, 2), (1855, .if_icmp .eq 5, 3), (1858, .iconst 0, 1)]
set_option maxRecDepth 100000 in
theorem xi_ok0_120 : xi_ok code xi_0_120 = true := by decide +kernel
def xi_0_121 : XIs := [(1859, .ireturn, 1), (1860, .iload 5, 2), (1862, .ifCond .ne 15, 3), (1865, .aload_n 3, 1), (1866, .iconst 0, 1)]
set_option maxRecDepth 100000 in
theorem xi_ok0_121 : xi_ok code xi_0_121 = true := by decide +kernel
def xi_0_122 : XIs := [(1867, .laload, 1), (1868, .iload 6, 2), (1870, .i2l, 1), (1871, .lcmp, 1), (1872, .ifCond .eq 5, 3)]
set_option maxRecDepth 100000 in
theorem xi_ok0_122 : xi_ok code xi_0_122 = true := by decide +kernel
def xi_0_123 : XIs := [(1875, .iconst 0, 1), (1876, .ireturn, 1), (1877, .goto 1091, 3), (1880, .aload_n 1, 1), (1881, .aload_n 0, 1)]
set_option maxRecDepth 100000 in
theorem xi_ok0_123 : xi_ok code xi_0_123 = true := by decide +kernel
def xi_0_124 : XIs := [(1882, .iload 4, 2), (1884, .iconst 1, 1), (1885, .iadd, 1), (1886, .iaload, 1), (1887, .aload_n 3, 1)]
set_option maxRecDepth 100000 in
theorem xi_ok0_124 : xi_ok code xi_0_124 = true := by decide +kernel
def xi_0_125 : XIs := [(1888, .invokestatic 244, 3), (1891, .istore 5, 2), (1893, .aload_n 2, 1), (1894, .aload_n 0, 1), (1895, .iload 4, 2)]
set_option maxRecDepth 100000 in
theorem xi_ok0_125 : xi_ok code xi_0_125 = true := by decide +kernel
def xi_0_126 : XIs := [(1897, .iconst 1, 1), (1898, .iadd, 1), (1899, .iaload, 1), (1900, .invokevirtual 246, 3), (1903, .istore 6, 2)]
set_option maxRecDepth 100000 in
theorem xi_ok0_126 : xi_ok code xi_0_126 = true := by decide +kernel
def xi_0_127 : XIs := [(1905, .aload_n 2, 1), (1906, .invokevirtual 151, 3), (1909, .iload 5, 2), (1911, .if_icmp .eq 5, 3), (1914, .iconst 0, 1)]
set_option maxRecDepth 100000 in
theorem xi_ok0_127 : xi_ok code xi_0_127 = true := by decide +kernel
def xi_0_128 : XIs := [(1915, .ireturn, 1), (1916, .iload 5, 2), (1918, .ifCond .ne 15, 3), (1921, .aload_n 3, 1), (1922, .iconst 0, 1)]
set_option maxRecDepth 100000 in
theorem xi_ok0_128 : xi_ok code xi_0_128 = true := by decide +kernel
def xi_0_129 : XIs := [(1923, .laload, 1), (1924, .iload 6, 2), (1926, .i2l, 1), (1927, .lcmp, 1), (1928, .ifCond .eq 5, 3)]
set_option maxRecDepth 100000 in
theorem xi_ok0_129 : xi_ok code xi_0_129 = true := by decide +kernel
def xi_0_130 : XIs := [(1931, .iconst 0, 1), (1932, .ireturn, 1), (1933, .goto 1035, 3), (1936, .aload_n 1, 1), (1937, .aload_n 0, 1)]
set_option maxRecDepth 100000 in
theorem xi_ok0_130 : xi_ok code xi_0_130 = true := by decide +kernel
def xi_0_131 : XIs := [(1938, .iload 4, 2), (1940, .iconst 1, 1), (1941, .iadd, 1), (1942, .iaload, 1), (1943, .aload_n 0, 1)]
set_option maxRecDepth 100000 in
theorem xi_ok0_131 : xi_ok code xi_0_131 = true := by decide +kernel
def xi_0_132 : XIs := [(1944, .iload 4, 2), (1946, .iconst 2, 1), (1947, .iadd, 1), (1948, .iaload, 1), (1949, .aload_n 3, 1)]
set_option maxRecDepth 100000 in
theorem xi_ok0_132 : xi_ok code xi_0_132 = true := by decide +kernel
def xi_0_133 : XIs := [(1950, .invokestatic 247, 3), (1953, .istore 5, 2), (1955, .aload_n 2, 1), (1956, .aload_n 0, 1), (1957, .iload 4, 2)]
set_option maxRecDepth 100000 in
theorem xi_ok0_133 : xi_ok code xi_0_133 = true := by decide +kernel
def xi_0_134 : XIs := [(1959, .iconst 1, 1), (1960, .iadd, 1), (1961, .iaload, 1), (1962, .aload_n 0, 1), (1963, .iload 4, 2)]
set_option maxRecDepth 100000 in
theorem xi_ok0_134 : xi_ok code xi_0_134 = true := by decide +kernel
def xi_0_135 : XIs := [(1965, .iconst 2, 1), (1966, .iadd, 1), (1967, .iaload, 1), (1968, .invokevirtual 249, 3), (1971, .lstore 6, 2)]
set_option maxRecDepth 100000 in
theorem xi_ok0_135 : xi_ok code xi_0_135 = true := by decide +kernel
def xi_0_136 : XIs := [(1973, .aload_n 2, 1), (1974, .invokevirtual 151, 3), (1977, .iload 5, 2), (1979, .if_icmp .eq 5, 3), (1982, .iconst 0, 1)]
set_option maxRecDepth 100000 in
theorem xi_ok0_136 : xi_ok code xi_0_136 = true := by decide +kernel
def xi_0_137 : XIs := [(1983, .ireturn, 1), (1984, .iload 5, 2), (1986, .ifCond .ne 14, 3), (1989, .aload_n 3, 1), (1990, .iconst 0, 1)]
set_option maxRecDepth 100000 in
theorem xi_ok0_137 : xi_ok code xi_0_137 = true := by decide +kernel
