def xi_0_138 : XIs := [(1991, .laload, 1), (1992, .lload 6, 2), (1994, .lcmp, 1), (1995, .ifCond .eq 5, 3), (1998, .iconst 0, 1)]
set_option maxRecDepth 100000 in
theorem xi_ok0_138 : xi_ok code xi_0_138 = true := by decide +kernel
def xi_0_139 : XIs := [(1999, .ireturn, 1), (2000, .goto 968, 3), (2003, .aload_n 1, 1), (2004, .aload_n 0, 1), (2005, .iload 4, 2)]
set_option maxRecDepth 100000 in
theorem xi_ok0_139 : xi_ok code xi_0_139 = true := by decide +kernel
def xi_0_140 : XIs := [(2007, .iconst 1, 1), (2008, .iadd, 1), (2009, .iaload, 1), (2010, .aload_n 0, 1), (2011, .iload 4, 2)]
set_option maxRecDepth 100000 in
theorem xi_ok0_140 : xi_ok code xi_0_140 = true := by decide +kernel
def xi_0_141 : XIs := [(2013, .iconst 2, 1), (2014, .iadd, 1), (2015, .iaload, 1), (2016, .aload_n 0, 1), (2017, .iload 4, 2)]
set_option maxRecDepth 100000 in
theorem xi_ok0_141 : xi_ok code xi_0_141 = true := by decide +kernel
def xi_0_142 : XIs := [(2019, .iconst 3, 1), (2020, .iadd, 1), (2021, .iaload, 1), (2022, .aload_n 3, 1), (2023, .invokestatic 250, 3)]
set_option maxRecDepth 100000 in
theorem xi_ok0_142 : xi_ok code xi_0_142 = true := by decide +kernel
def xi_0_143 : XIs := [(2026, .istore 5, 2), (2028, .aload_n 2, 1), (2029, .aload_n 0, 1), (2030, .iload 4, 2), (2032, .iconst 1, 1)]
set_option maxRecDepth 100000 in
theorem xi_ok0_143 : xi_ok code xi_0_143 = true := by decide +kernel
def xi_0_144 : XIs := [(2033, .iadd, 1), (2034, .iaload, 1), (2035, .aload_n 0, 1), (2036, .iload 4, 2), (2038, .iconst 2, 1)]
set_option maxRecDepth 100000 in
theorem xi_ok0_144 : xi_ok code xi_0_144 = true := by decide +kernel
def xi_0_145 : XIs := [(2039, .iadd, 1), (2040, .iaload, 1), (2041, .aload_n 0, 1), (2042, .iload 4, 2), (2044, .iconst 3, 1)]
set_option maxRecDepth 100000 in
theorem xi_ok0_145 : xi_ok code xi_0_145 = true := by decide +kernel
def xi_0_146 : XIs := [(2045, .iadd, 1), (2046, .iaload, 1), (2047, .invokevirtual 252, 3), (2050, .istore 6, 2), (2052, .aload_n 2, 1)]
set_option maxRecDepth 100000 in
theorem xi_ok0_146 : xi_ok code xi_0_146 = true := by decide +kernel
def xi_0_147 : XIs := [(2053, .invokevirtual 151, 3), (2056, .iload 5, 2), (2058, .if_icmp .eq 5, 3), (2061, .iconst 0, 1), (2062, .ireturn, 1)]
set_option maxRecDepth 100000 in
theorem xi_ok0_147 : xi_ok code xi_0_147 = true := by decide +kernel
def xi_0_148 : XIs := [(2063, .iload 5, 2), (2065, .ifCond .ne 22, 3), (2068, .aload_n 3, 1), (2069, .iconst 0, 1), (2070, .laload, 1)]
set_option maxRecDepth 100000 in
theorem xi_ok0_148 : xi_ok code xi_0_148 = true := by decide +kernel
def xi_0_149 : XIs := [(2071, .iload 6, 2), (2073, .ifCond .eq 7, 3), (2076, .lconst 1, 1), (2077, .goto 4, 3), (2080, .lconst 0, 1)]
set_option maxRecDepth 100000 in
theorem xi_ok0_149 : xi_ok code xi_0_149 = true := by decide +kernel
def xi_0_150 : XIs := [(2081, .lcmp, 1), (2082, .ifCond .eq 5, 3), (2085, .iconst 0, 1), (2086, .ireturn, 1), (2087, .goto 881, 3)]
set_option maxRecDepth 100000 in
theorem xi_ok0_150 : xi_ok code xi_0_150 = true := by decide +kernel
def xi_0_151 : XIs := [(2090, .aload_n 1, 1), (2091, .aload_n 0, 1), (2092, .iload 4, 2), (2094, .iconst 1, 1), (2095, .iadd, 1)]
set_option maxRecDepth 100000 in
theorem xi_ok0_151 : xi_ok code xi_0_151 = true := by decide +kernel
def xi_0_152 : XIs := [(2096, .iaload, 1), (2097, .aload_n 0, 1), (2098, .iload 4, 2), (2100, .iconst 2, 1), (2101, .iadd, 1)]
set_option maxRecDepth 100000 in
theorem xi_ok0_152 : xi_ok code xi_0_152 = true := by decide +kernel
def xi_0_153 : XIs := [(2102, .iaload, 1), (2103, .aload_n 0, 1), (2104, .iload 4, 2), (2106, .iconst 3, 1), (2107, .iadd, 1)]
set_option maxRecDepth 100000 in
theorem xi_ok0_153 : xi_ok code xi_0_153 = true := by decide +kernel
def xi_0_154 : XIs := [(2108, .iaload, 1), (2109, .aload_n 3, 1), (2110, .invokestatic 253, 3), (2113, .istore 5, 2), (2115, .aload_n 2, 1)]
set_option maxRecDepth 100000 in
theorem xi_ok0_154 : xi_ok code xi_0_154 = true := by decide +kernel
def xi_0_155 : XIs := [(2116, .aload_n 0, 1), (2117, .iload 4, 2), (2119, .iconst 1, 1), (2120, .iadd, 1), (2121, .iaload, 1)]
set_option maxRecDepth 100000 in
theorem xi_ok0_155 : xi_ok code xi_0_155 = true := by decide +kernel
def xi_0_156 : XIs := [(2122, .aload_n 0, 1), (2123, .iload 4, 2), (2125, .iconst 2, 1), (2126, .iadd, 1), (2127, .iaload, 1)]
set_option maxRecDepth 100000 in
theorem xi_ok0_156 : xi_ok code xi_0_156 = true := by decide +kernel
def xi_0_157 : XIs := [(2128, .aload_n 0, 1), (2129, .iload 4, 2), (2131, .iconst 3, 1), (2132, .iadd, 1), (2133, .iaload, 1)]
set_option maxRecDepth 100000 in
theorem xi_ok0_157 : xi_ok code xi_0_157 = true := by decide +kernel
def xi_0_158 : XIs := [(2134, .invokevirtual 255, 3), (2137, .lstore 6, 2), (2139, .aload_n 2, 1), (2140, .invokevirtual 151, 3), (2143, .iload 5, 2)]
set_option maxRecDepth 100000 in
theorem xi_ok0_158 : xi_ok code xi_0_158 = true := by decide +kernel
def xi_0_159 : XIs := [(2145, .if_icmp .eq 5, 3), (2148, .iconst 0, 1), (2149, .ireturn, 1), (2150, .iload 5, 2), (2152, .ifCond .ne 14, 3)]
set_option maxRecDepth 100000 in
theorem xi_ok0_159 : xi_ok code xi_0_159 = true := by decide +kernel
def xi_0_160 : XIs := [(2155, .aload_n 3, 1), (2156, .iconst 0, 1), (2157, .laload, 1), (2158, .lload 6, 2), (2160, .lcmp, 1)]
set_option maxRecDepth 100000 in
theorem xi_ok0_160 : xi_ok code xi_0_160 = true := by decide +kernel
def xi_0_161 : XIs := [(2161, .ifCond .eq 5, 3), (2164, .iconst 0, 1), (2165, .ireturn, 1), (2166, .goto 802, 3), (2169, .aload_n 1, 1)]
set_option maxRecDepth 100000 in
theorem xi_ok0_161 : xi_ok code xi_0_161 = true := by decide +kernel
