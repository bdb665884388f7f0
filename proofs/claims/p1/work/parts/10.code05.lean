def xi_0_111 : XIs := [(2020, .iadd, 1), (2021, .iaload, 1), (2022, .aload_n 3, 1), (2023, .invokestatic 250, 3), (2026, .istore 5, 2)]
set_option maxRecDepth 100000 in
theorem xi_ok0_111 : xi_ok code xi_0_111 = true := by decide +kernel
def xi_0_112 : XIs := [(2028, .aload_n 2, 1), (2029, .aload_n 0, 1), (2030, .iload 4, 2), (2032, .iconst 1, 1), (2033, .iadd, 1)]
set_option maxRecDepth 100000 in
theorem xi_ok0_112 : xi_ok code xi_0_112 = true := by decide +kernel
def xi_0_113 : XIs := [(2034, .iaload, 1), (2035, .aload_n 0, 1), (2036, .iload 4, 2), (2038, .iconst 2, 1), (2039, .iadd, 1)]
set_option maxRecDepth 100000 in
theorem xi_ok0_113 : xi_ok code xi_0_113 = true := by decide +kernel
def xi_0_114 : XIs := [(2040, .iaload, 1), (2041, .aload_n 0, 1), (2042, .iload 4, 2), (2044, .iconst 3, 1), (2045, .iadd, 1)]
set_option maxRecDepth 100000 in
theorem xi_ok0_114 : xi_ok code xi_0_114 = true := by decide +kernel
def xi_0_115 : XIs := [(2046, .iaload, 1), (2047, .invokevirtual 252, 3), (2050, .istore 6, 2), (2052, .aload_n 2, 1), (2053, .invokevirtual 151, 3)]
set_option maxRecDepth 100000 in
theorem xi_ok0_115 : xi_ok code xi_0_115 = true := by decide +kernel
def xi_0_116 : XIs := [(2056, .iload 5, 2), (2058, .if_icmp .eq 5, 3), (2063, .iload 5, 2), (2065, .ifCond .ne 22, 3), (2087, .goto 881, 3)]
set_option maxRecDepth 100000 in
theorem xi_ok0_116 : xi_ok code xi_0_116 = true := by decide +kernel
def xi_0_117 : XIs := [(2090, .aload_n 1, 1), (2091, .aload_n 0, 1), (2092, .iload 4, 2), (2094, .iconst 1, 1), (2095, .iadd, 1)]
set_option maxRecDepth 100000 in
theorem xi_ok0_117 : xi_ok code xi_0_117 = true := by decide +kernel
def xi_0_118 : XIs := [(2096, .iaload, 1), (2097, .aload_n 0, 1), (2098, .iload 4, 2), (2100, .iconst 2, 1), (2101, .iadd, 1)]
set_option maxRecDepth 100000 in
theorem xi_ok0_118 : xi_ok code xi_0_118 = true := by decide +kernel
def xi_0_119 : XIs := [(2102, .iaload, 1), (2103, .aload_n 0, 1), (2104, .iload 4, 2), (2106, .iconst 3, 1), (2107, .iadd, 1)]
set_option maxRecDepth 100000 in
theorem xi_ok0_119 : xi_ok code xi_0_119 = true := by decide +kernel
def xi_0_120 : XIs := [(2108, .iaload, 1), (2109, .aload_n 3, 1), (2110, .invokestatic 253, 3), (2113, .istore 5, 2), (2115, .aload_n 2, 1)]
set_option maxRecDepth 100000 in
theorem xi_ok0_120 : xi_ok code xi_0_120 = true := by decide +kernel
def xi_0_121 : XIs := [(2116, .aload_n 0, 1), (2117, .iload 4, 2), (2119, .iconst 1, 1), (2120, .iadd, 1), (2121, .iaload, 1)]
set_option maxRecDepth 100000 in
theorem xi_ok0_121 : xi_ok code xi_0_121 = true := by decide +kernel
def xi_0_122 : XIs := [(2122, .aload_n 0, 1), (2123, .iload 4, 2), (2125, .iconst 2, 1), (2126, .iadd, 1), (2127, .iaload, 1)]
set_option maxRecDepth 100000 in
theorem xi_ok0_122 : xi_ok code xi_0_122 = true := by decide +kernel
def xi_0_123 : XIs := [(2128, .aload_n 0, 1), (2129, .iload 4, 2), (2131, .iconst 3, 1), (2132, .iadd, 1), (2133, .iaload, 1)]
set_option maxRecDepth 100000 in
theorem xi_ok0_123 : xi_ok code xi_0_123 = true := by decide +kernel
def xi_0_124 : XIs := [(2134, .invokevirtual 255, 3), (2137, .lstore 6, 2), (2139, .aload_n 2, 1), (2140, .invokevirtual 151, 3), (2143, .iload 5, 2)]
set_option maxRecDepth 100000 in
theorem xi_ok0_124 : xi_ok code xi_0_124 = true := by decide +kernel
def xi_0_125 : XIs := [(2145, .if_icmp .eq 5, 3), (2150, .iload 5, 2), (2152, .ifCond .ne 14, 3), (2166, .goto 802, 3), (2169, .aload_n 1, 1)]
set_option maxRecDepth 100000 in
theorem xi_ok0_125 : xi_ok code xi_0_125 = true := by decide +kernel
def xi_0_126 : XIs := [(2170, .aload_n 0, 1), (2171, .iload 4, 2), (2173, .iconst 1, 1), (2174, .iadd, 1), (2175, .iaload, 1)]
set_option maxRecDepth 100000 in
theorem xi_ok0_126 : xi_ok code xi_0_126 = true := by decide +kernel
def xi_0_127 : XIs := [(2176, .aload_n 3, 1), (2177, .invokestatic 256, 3), (2180, .istore 5, 2), (2182, .aload_n 2, 1), (2183, .aload_n 0, 1)]
set_option maxRecDepth 100000 in
theorem xi_ok0_127 : xi_ok code xi_0_127 = true := by decide +kernel
def xi_0_128 : XIs := [(2184, .iload 4, 2), (2186, .iconst 1, 1), (2187, .iadd, 1), (2188, .iaload, 1), (2189, .invokevirtual 258, 3)]
set_option maxRecDepth 100000 in
theorem xi_ok0_128 : xi_ok code xi_0_128 = true := by decide +kernel
def xi_0_129 : XIs := [(2192, .lstore 6, 2), (2194, .aload_n 2, 1), (2195, .invokevirtual 151, 3), (2198, .iload 5, 2), (2200, .if_icmp .eq 5, 3)]
set_option maxRecDepth 100000 in
theorem xi_ok0_129 : xi_ok code xi_0_129 = true := by decide +kernel
def xi_0_130 : XIs := [(2205, .iload 5, 2), (2207, .ifCond .ne 14, 3), (2210, .aload_n 3, 1), (2211, .iconst 0, 1), (2212, .laload, 1)]
set_option maxRecDepth 100000 in
theorem xi_ok0_130 : xi_ok code xi_0_130 = true := by decide +kernel
def xi_0_131 : XIs := [(2213, .lload 6, 2), (2215, .lcmp, 1), (2216, .ifCond .eq 5, 3), (2221, .goto 747, 3), (2224, .aload_n 1, 1)]
set_option maxRecDepth 100000 in
theorem xi_ok0_131 : xi_ok code xi_0_131 = true := by decide +kernel
def xi_0_132 : XIs := [(2225, .aload_n 0, 1), (2226, .iload 4, 2), (2228, .iconst 1, 1), (2229, .iadd, 1), (2230, .iaload, 1)]
set_option maxRecDepth 100000 in
theorem xi_ok0_132 : xi_ok code xi_0_132 = true := by decide +kernel
def xi_0_133 : XIs := [(2231, .aload_n 3, 1), (2232, .invokestatic 259, 3), (2235, .istore 5, 2), (2237, .aload_n 2, 1)]
set_option maxRecDepth 100000 in
theorem xi_ok0_133 : xi_ok code xi_0_133 = true := by decide +kernel
def xi_0_134 : XIs := [(2238, .aload_n 0, 1), (2239, .iload 4, 2), (2241, .iconst 1, 1), (2242, .iadd, 1)]
set_option maxRecDepth 100000 in
theorem xi_ok0_134 : xi_ok code xi_0_134 = true := by decide +kernel
