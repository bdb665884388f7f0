def xi_0_85 : XIs := [(1755, .laload, 1), (1756, .iload 6, 2), (1758, .i2l, 1), (1759, .lcmp, 1), (1760, .ifCond .eq 5, 3), (1765, .goto 1203, 3)]
set_option maxRecDepth 100000 in
theorem xi_ok0_85 : xi_ok code xi_0_85 = true := by decide +kernel
def xi_0_86 : XIs := [(1768, .aload_n 1, 1), (1769, .aload_n 0, 1), (1770, .iload 4, 2), (1772, .iconst 1, 1), (1773, .iadd, 1), (1774, .iaload, 1)]
set_option maxRecDepth 100000 in
theorem xi_ok0_86 : xi_ok code xi_0_86 = true := by decide +kernel
def xi_0_87 : XIs := [(1775, .aload_n 3, 1), (1776, .invokestatic 238, 3), (1779, .istore 5, 2), (1781, .aload_n 2, 1), (1782, .aload_n 0, 1), (1783, .iload 4, 2)]
set_option maxRecDepth 100000 in
theorem xi_ok0_87 : xi_ok code xi_0_87 = true := by decide +kernel
def xi_0_88 : XIs := [(1785, .iconst 1, 1), (1786, .iadd, 1), (1787, .iaload, 1), (1788, .invokevirtual 240, 3), (1791, .istore 6, 2)]
set_option maxRecDepth 100000 in
theorem xi_ok0_88 : xi_ok code xi_0_88 = true := by decide +kernel
def xi_0_89 : XIs := [(1793, .aload_n 2, 1), (1794, .invokevirtual 151, 3), (1797, .iload 5, 2), (1799, .if_icmp .eq 5, 3), (1804, .iload 5, 2)]
set_option maxRecDepth 100000 in
theorem xi_ok0_89 : xi_ok code xi_0_89 = true := by decide +kernel
def xi_0_90 : XIs := [(1806, .ifCond .ne 15, 3), (1821, .goto 1147, 3), (1824, .aload_n 1, 1), (1825, .aload_n 0, 1), (1826, .iload 4, 2)]
set_option maxRecDepth 100000 in
theorem xi_ok0_90 : xi_ok code xi_0_90 = true := by decide +kernel
def xi_0_91 : XIs := [(1828, .iconst 1, 1), (1829, .iadd, 1), (1830, .iaload, 1), (1831, .aload_n 3, 1), (1832, .invokestatic 241, 3)]
set_option maxRecDepth 100000 in
theorem xi_ok0_91 : xi_ok code xi_0_91 = true := by decide +kernel
def xi_0_92 : XIs := [(1835, .istore 5, 2), (1837, .aload_n 2, 1), (1838, .aload_n 0, 1), (1839, .iload 4, 2), (1841, .iconst 1, 1)]
set_option maxRecDepth 100000 in
theorem xi_ok0_92 : xi_ok code xi_0_92 = true := by decide +kernel
def xi_0_93 : XIs := [(1842, .iadd, 1), (1843, .iaload, 1), (1844, .invokevirtual 243, 3), (1847, .istore 6, 2), (1849, .aload_n 2, 1)]
set_option maxRecDepth 100000 in
theorem xi_ok0_93 : xi_ok code xi_0_93 = true := by decide +kernel
def xi_0_94 : XIs := [(1850, .invokevirtual 151, 3), (1853, .iload 5, 2), (1855, .if_icmp .eq 5, 3), (1860, .iload 5, 2), (1862, .ifCond .ne 15, 3)]
set_option maxRecDepth 100000 in
theorem xi_ok0_94 : xi_ok code xi_0_94 = true := by decide +kernel
def xi_0_95 : XIs := [(1865, .aload_n 3, 1), (1866, .iconst 0, 1), (1867, .laload, 1), (1868, .iload 6, 2), (1870, .i2l, 1)]
set_option maxRecDepth 100000 in
theorem xi_ok0_95 : xi_ok code xi_0_95 = true := by decide +kernel
def xi_0_96 : XIs := [(1871, .lcmp, 1), (1872, .ifCond .eq 5, 3), (1877, .goto 1091, 3), (1880, .aload_n 1, 1), (1881, .aload_n 0, 1)]
set_option maxRecDepth 100000 in
theorem xi_ok0_96 : xi_ok code xi_0_96 = true := by decide +kernel
def xi_0_97 : XIs := [(1882, .iload 4, 2), (1884, .iconst 1, 1), (1885, .iadd, 1), (1886, .iaload, 1), (1887, .aload_n 3, 1)]
set_option maxRecDepth 100000 in
theorem xi_ok0_97 : xi_ok code xi_0_97 = true := by decide +kernel
def xi_0_98 : XIs := [(1888, .invokestatic 244, 3), (1891, .istore 5, 2), (1893, .aload_n 2, 1), (1894, .aload_n 0, 1), (1895, .iload 4, 2)]
set_option maxRecDepth 100000 in
theorem xi_ok0_98 : xi_ok code xi_0_98 = true := by decide +kernel
def xi_0_99 : XIs := [(1897, .iconst 1, 1), (1898, .iadd, 1), (1899, .iaload, 1), (1900, .invokevirtual 246, 3), (1903, .istore 6, 2)]
set_option maxRecDepth 100000 in
theorem xi_ok0_99 : xi_ok code xi_0_99 = true := by decide +kernel
def xi_0_100 : XIs := [(1905, .aload_n 2, 1), (1906, .invokevirtual 151, 3), (1909, .iload 5, 2), (1911, .if_icmp .eq 5, 3), (1916, .iload 5, 2)]
set_option maxRecDepth 100000 in
theorem xi_ok0_100 : xi_ok code xi_0_100 = true := by decide +kernel
def xi_0_101 : XIs := [(1918, .ifCond .ne 15, 3), (1933, .goto 1035, 3), (1936, .aload_n 1, 1), (1937, .aload_n 0, 1), (1938, .iload 4, 2)]
set_option maxRecDepth 100000 in
theorem xi_ok0_101 : xi_ok code xi_0_101 = true := by decide +kernel
def xi_0_102 : XIs := [(1940, .iconst 1, 1), (1941, .iadd, 1), (1942, .iaload, 1), (1943, .aload_n 0, 1), (1944, .iload 4, 2)]
set_option maxRecDepth 100000 in
theorem xi_ok0_102 : xi_ok code xi_0_102 = true := by decide +kernel
def xi_0_103 : XIs := [(1946, .iconst 2, 1), (1947, .iadd, 1), (1948, .iaload, 1), (1949, .aload_n 3, 1), (1950, .invokestatic 247, 3)]
set_option maxRecDepth 100000 in
theorem xi_ok0_103 : xi_ok code xi_0_103 = true := by decide +kernel
def xi_0_104 : XIs := [(1953, .istore 5, 2), (1955, .aload_n 2, 1), (1956, .aload_n 0, 1), (1957, .iload 4, 2), (1959, .iconst 1, 1)]
set_option maxRecDepth 100000 in
theorem xi_ok0_104 : xi_ok code xi_0_104 = true := by decide +kernel
def xi_0_105 : XIs := [(1960, .iadd, 1), (1961, .iaload, 1), (1962, .aload_n 0, 1), (1963, .iload 4, 2), (1965, .iconst 2, 1)]
set_option maxRecDepth 100000 in
theorem xi_ok0_105 : xi_ok code xi_0_105 = true := by decide +kernel
def xi_0_106 : XIs := [(1966, .iadd, 1), (1967, .iaload, 1), (1968, .invokevirtual 249, 3), (1971, .lstore 6, 2), (1973, .aload_n 2, 1)]
set_option maxRecDepth 100000 in
theorem xi_ok0_106 : xi_ok code xi_0_106 = true := by decide +kernel
def xi_0_107 : XIs := [(1974, .invokevirtual 151, 3), (1977, .iload 5, 2), (1979, .if_icmp .eq 5, 3), (1984, .iload 5, 2), (1986, .ifCond .ne 14, 3)]
set_option maxRecDepth 100000 in
theorem xi_ok0_107 : xi_ok code xi_0_107 = true := by decide +kernel
def xi_0_108 : XIs := [(2000, .goto 968, 3), (2003, .aload_n 1, 1), (2004, .aload_n 0, 1), (2005, .iload 4, 2), (2007, .iconst 1, 1)]
set_option maxRecDepth 100000 in
theorem xi_ok0_108 : xi_ok code xi_0_108 = true := by decide +kernel
def xi_0_109 : XIs := [(2008, .iadd, 1), (2009, .iaload, 1), (2010, .aload_n 0, 1), (2011, .iload 4, 2), (2013, .iconst 2, 1)]
set_option maxRecDepth 100000 in
theorem xi_ok0_109 : xi_ok code xi_0_109 = true := by decide +kernel
def xi_0_110 : XIs := [(2014, .iadd, 1), (2015, .iaload, 1), (2016, .aload_n 0, 1), (2017, .iload 4, 2), (2019, .iconst 3, 1)]
set_option maxRecDepth 100000 in
theorem xi_ok0_110 : xi_ok code xi_0_110 = true := by decide +kernel
