def xi_0_135 : XIs := [(2243, .iaload, 1), (2244, .invokevirtual 261, 3), (2247, .lstore 6, 2), (2249, .aload_n 2, 1)]
set_option maxRecDepth 100000 in
theorem xi_ok0_135 : xi_ok code xi_0_135 = true := by decide +kernel
def xi_0_136 : XIs := [(2250, .invokevirtual 151, 3), (2253, .iload 5, 2), (2255, .if_icmp .eq 5, 3), (2260, .iload 5, 2)]
set_option maxRecDepth 100000 in
theorem xi_ok0_136 : xi_ok code xi_0_136 = true := by decide +kernel
def xi_0_137 : XIs := [(2262, .ifCond .ne 14, 3), (2276, .goto 692, 3), (2279, .aload_n 1, 1), (2280, .aload_n 0, 1)]
set_option maxRecDepth 100000 in
theorem xi_ok0_137 : xi_ok code xi_0_137 = true := by decide +kernel
def xi_0_138 : XIs := [(2281, .iload 4, 2), (2283, .iconst 1, 1), (2284, .iadd, 1), (2285, .iaload, 1)]
set_option maxRecDepth 100000 in
theorem xi_ok0_138 : xi_ok code xi_0_138 = true := by decide +kernel
def xi_0_139 : XIs := [(2286, .aload_n 3, 1), (2287, .invokestatic 262, 3), (2290, .istore 5, 2), (2292, .aload_n 2, 1)]
set_option maxRecDepth 100000 in
theorem xi_ok0_139 : xi_ok code xi_0_139 = true := by decide +kernel
def xi_0_140 : XIs := [(2293, .aload_n 0, 1), (2294, .iload 4, 2), (2296, .iconst 1, 1), (2297, .iadd, 1)]
set_option maxRecDepth 100000 in
theorem xi_ok0_140 : xi_ok code xi_0_140 = true := by decide +kernel
def xi_0_141 : XIs := [(2298, .iaload, 1), (2299, .invokevirtual 264, 3), (2302, .istore 6, 2), (2304, .aload_n 2, 1)]
set_option maxRecDepth 100000 in
theorem xi_ok0_141 : xi_ok code xi_0_141 = true := by decide +kernel
def xi_0_142 : XIs := [(2305, .invokevirtual 151, 3), (2308, .iload 5, 2), (2310, .if_icmp .eq 5, 3), (2315, .iload 5, 2)]
set_option maxRecDepth 100000 in
theorem xi_ok0_142 : xi_ok code xi_0_142 = true := by decide +kernel
def xi_0_143 : XIs := [(2317, .ifCond .ne 22, 3), (2339, .goto 629, 3), (2342, .aload_n 1, 1), (2343, .invokevirtual 265, 3)]
set_option maxRecDepth 100000 in
theorem xi_ok0_143 : xi_ok code xi_0_143 = true := by decide +kernel
def xi_0_144 : XIs := [(2346, .aload_n 2, 1), (2347, .invokevirtual 268, 3), (2350, .if_icmp .eq 618, 3), (2355, .aload_n 1, 1)]
set_option maxRecDepth 100000 in
theorem xi_ok0_144 : xi_ok code xi_0_144 = true := by decide +kernel
def xi_0_145 : XIs := [(2356, .aload_n 0, 1), (2357, .iload 4, 2), (2359, .iconst 1, 1), (2360, .iadd, 1)]
set_option maxRecDepth 100000 in
theorem xi_ok0_145 : xi_ok code xi_0_145 = true := by decide +kernel
def xi_0_146 : XIs := [(2361, .iaload, 1), (2362, .aload_n 0, 1), (2363, .iload 4, 2), (2365, .iconst 2, 1)]
set_option maxRecDepth 100000 in
theorem xi_ok0_146 : xi_ok code xi_0_146 = true := by decide +kernel
def xi_0_147 : XIs := [(2366, .iadd, 1), (2367, .iaload, 1), (2368, .aload_n 3, 1), (2369, .invokestatic 269, 3)]
set_option maxRecDepth 100000 in
theorem xi_ok0_147 : xi_ok code xi_0_147 = true := by decide +kernel
def xi_0_148 : XIs := [(2372, .istore 5, 2), (2374, .aload_n 2, 1), (2375, .aload_n 0, 1), (2376, .iload 4, 2)]
set_option maxRecDepth 100000 in
theorem xi_ok0_148 : xi_ok code xi_0_148 = true := by decide +kernel
def xi_0_149 : XIs := [(2378, .iconst 1, 1), (2379, .iadd, 1), (2380, .iaload, 1), (2381, .aload_n 0, 1)]
set_option maxRecDepth 100000 in
theorem xi_ok0_149 : xi_ok code xi_0_149 = true := by decide +kernel
def xi_0_150 : XIs := [(2382, .iload 4, 2), (2384, .iconst 2, 1), (2385, .iadd, 1), (2386, .iaload, 1)]
set_option maxRecDepth 100000 in
theorem xi_ok0_150 : xi_ok code xi_0_150 = true := by decide +kernel
def xi_0_151 : XIs := [(2387, .invokevirtual 271, 3), (2390, .lstore 6, 2), (2392, .aload_n 2, 1), (2393, .invokevirtual 151, 3)]
set_option maxRecDepth 100000 in
theorem xi_ok0_151 : xi_ok code xi_0_151 = true := by decide +kernel
def xi_0_152 : XIs := [(2396, .iload 5, 2), (2398, .if_icmp .eq 5, 3), (2403, .iload 5, 2), (2405, .ifCond .ne 14, 3)]
set_option maxRecDepth 100000 in
theorem xi_ok0_152 : xi_ok code xi_0_152 = true := by decide +kernel
def xi_0_153 : XIs := [(2419, .goto 549, 3), (2422, .aload_n 1, 1), (2423, .aload_n 0, 1), (2424, .iload 4, 2)]
set_option maxRecDepth 100000 in
theorem xi_ok0_153 : xi_ok code xi_0_153 = true := by decide +kernel
def xi_0_154 : XIs := [(2426, .iconst 1, 1), (2427, .iadd, 1), (2428, .iaload, 1), (2429, .aload_n 0, 1)]
set_option maxRecDepth 100000 in
theorem xi_ok0_154 : xi_ok code xi_0_154 = true := by decide +kernel
def xi_0_155 : XIs := [(2430, .iload 4, 2), (2432, .iconst 2, 1), (2433, .iadd, 1), (2434, .iaload, 1)]
set_option maxRecDepth 100000 in
theorem xi_ok0_155 : xi_ok code xi_0_155 = true := by decide +kernel
def xi_0_156 : XIs := [(2435, .aload_n 0, 1), (2436, .iload 4, 2), (2438, .iconst 3, 1), (2439, .iadd, 1)]
set_option maxRecDepth 100000 in
theorem xi_ok0_156 : xi_ok code xi_0_156 = true := by decide +kernel
def xi_0_157 : XIs := [(2440, .iaload, 1), (2441, .aload_n 0, 1), (2442, .iload 4, 2), (2444, .iconst 4, 1)]
set_option maxRecDepth 100000 in
theorem xi_ok0_157 : xi_ok code xi_0_157 = true := by decide +kernel
def xi_0_158 : XIs := [(2445, .iadd, 1), (2446, .iaload, 1), (2447, .aload_n 3, 1), (2448, .invokestatic 272, 3)]
set_option maxRecDepth 100000 in
theorem xi_ok0_158 : xi_ok code xi_0_158 = true := by decide +kernel
def xi_0_159 : XIs := [(2451, .istore 5, 2), (2453, .aload_n 2, 1), (2454, .aload_n 0, 1), (2455, .iload 4, 2)]
set_option maxRecDepth 100000 in
theorem xi_ok0_159 : xi_ok code xi_0_159 = true := by decide +kernel
def xi_0_160 : XIs := [(2457, .iconst 1, 1), (2458, .iadd, 1), (2459, .iaload, 1), (2460, .aload_n 0, 1)]
set_option maxRecDepth 100000 in
theorem xi_ok0_160 : xi_ok code xi_0_160 = true := by decide +kernel
def xi_0_161 : XIs := [(2461, .iload 4, 2), (2463, .iconst 2, 1), (2464, .iadd, 1), (2465, .iaload, 1)]
set_option maxRecDepth 100000 in
theorem xi_ok0_161 : xi_ok code xi_0_161 = true := by decide +kernel
