def xi_0_188 : XIs := [(2355, .aload_n 1, 1), (2356, .aload_n 0, 1), (2357, .iload 4, 2), (2359, .iconst 1, 1)]
set_option maxRecDepth 100000 in
theorem xi_ok0_188 : xi_ok code xi_0_188 = true := by decide +kernel
def xi_0_189 : XIs := [(2360, .iadd, 1), (2361, .iaload, 1), (2362, .aload_n 0, 1), (2363, .iload 4, 2)]
set_option maxRecDepth 100000 in
theorem xi_ok0_189 : xi_ok code xi_0_189 = true := by decide +kernel
def xi_0_190 : XIs := [(2365, .iconst 2, 1), (2366, .iadd, 1), (2367, .iaload, 1), (2368, .aload_n 3, 1)]
set_option maxRecDepth 100000 in
theorem xi_ok0_190 : xi_ok code xi_0_190 = true := by decide +kernel
def xi_0_191 : XIs := [(2369, .invokestatic 269, 3), (2372, .istore 5, 2), (2374, .aload_n 2, 1), (2375, .aload_n 0, 1)]
set_option maxRecDepth 100000 in
theorem xi_ok0_191 : xi_ok code xi_0_191 = true := by decide +kernel
def xi_0_192 : XIs := [(2376, .iload 4, 2), (2378, .iconst 1, 1), (2379, .iadd, 1), (2380, .iaload, 1)]
set_option maxRecDepth 100000 in
theorem xi_ok0_192 : xi_ok code xi_0_192 = true := by decide +kernel
def xi_0_193 : XIs := [(2381, .aload_n 0, 1), (2382, .iload 4, 2), (2384, .iconst 2, 1), (2385, .iadd, 1)]
set_option maxRecDepth 100000 in
theorem xi_ok0_193 : xi_ok code xi_0_193 = true := by decide +kernel
def xi_0_194 : XIs := [(2386, .iaload, 1), (2387, .invokevirtual 271, 3), (2390, .lstore 6, 2), (2392, .aload_n 2, 1)]
set_option maxRecDepth 100000 in
theorem xi_ok0_194 : xi_ok code xi_0_194 = true := by decide +kernel
def xi_0_195 : XIs := [(2393, .invokevirtual 151, 3), (2396, .iload 5, 2), (2398, .if_icmp .eq 5, 3), (2401, .iconst 0, 1)]
set_option maxRecDepth 100000 in
theorem xi_ok0_195 : xi_ok code xi_0_195 = true := by decide +kernel
def xi_0_196 : XIs := [(2402, .ireturn, 1), (2403, .iload 5, 2), (2405, .ifCond .ne 14, 3), (2408, .aload_n 3, 1)]
set_option maxRecDepth 100000 in
theorem xi_ok0_196 : xi_ok code xi_0_196 = true := by decide +kernel
def xi_0_197 : XIs := [(2409, .iconst 0, 1), (2410, .laload, 1), (2411, .lload 6, 2), (2413, .lcmp, 1)]
set_option maxRecDepth 100000 in
theorem xi_ok0_197 : xi_ok code xi_0_197 = true := by decide +kernel
def xi_0_198 : XIs := [(2414, .ifCond .eq 5, 3), (2417, .iconst 0, 1), (2418, .ireturn, 1), (2419, .goto 549, 3)]
set_option maxRecDepth 100000 in
theorem xi_ok0_198 : xi_ok code xi_0_198 = true := by decide +kernel
def xi_0_199 : XIs := [(2422, .aload_n 1, 1), (2423, .aload_n 0, 1), (2424, .iload 4, 2), (2426, .iconst 1, 1)]
set_option maxRecDepth 100000 in
theorem xi_ok0_199 : xi_ok code xi_0_199 = true := by decide +kernel
def xi_0_200 : XIs := [(2427, .iadd, 1), (2428, .iaload, 1), (2429, .aload_n 0, 1), (2430, .iload 4, 2)]
set_option maxRecDepth 100000 in
theorem xi_ok0_200 : xi_ok code xi_0_200 = true := by decide +kernel
def xi_0_201 : XIs := [(2432, .iconst 2, 1), (2433, .iadd, 1), (2434, .iaload, 1), (2435, .aload_n 0, 1)]
set_option maxRecDepth 100000 in
theorem xi_ok0_201 : xi_ok code xi_0_201 = true := by decide +kernel
def xi_0_202 : XIs := [(2436, .iload 4, 2), (2438, .iconst 3, 1), (2439, .iadd, 1), (2440, .iaload, 1)]
set_option maxRecDepth 100000 in
theorem xi_ok0_202 : xi_ok code xi_0_202 = true := by decide +kernel
def xi_0_203 : XIs := [(2441, .aload_n 0, 1), (2442, .iload 4, 2), (2444, .iconst 4, 1), (2445, .iadd, 1)]
set_option maxRecDepth 100000 in
theorem xi_ok0_203 : xi_ok code xi_0_203 = true := by decide +kernel
def xi_0_204 : XIs := [(2446, .iaload, 1), (2447, .aload_n 3, 1), (2448, .invokestatic 272, 3), (2451, .istore 5, 2)]
set_option maxRecDepth 100000 in
theorem xi_ok0_204 : xi_ok code xi_0_204 = true := by decide +kernel
def xi_0_205 : XIs := [(2453, .aload_n 2, 1), (2454, .aload_n 0, 1), (2455, .iload 4, 2), (2457, .iconst 1, 1)]
set_option maxRecDepth 100000 in
theorem xi_ok0_205 : xi_ok code xi_0_205 = true := by decide +kernel
def xi_0_206 : XIs := [(2458, .iadd, 1), (2459, .iaload, 1), (2460, .aload_n 0, 1), (2461, .iload 4, 2)]
set_option maxRecDepth 100000 in
theorem xi_ok0_206 : xi_ok code xi_0_206 = true := by decide +kernel
def xi_0_207 : XIs := [(2463, .iconst 2, 1), (2464, .iadd, 1), (2465, .iaload, 1), (2466, .aload_n 0, 1)]
set_option maxRecDepth 100000 in
theorem xi_ok0_207 : xi_ok code xi_0_207 = true := by decide +kernel
def xi_0_208 : XIs := [(2467, .iload 4, 2), (2469, .iconst 3, 1), (2470, .iadd, 1), (2471, .iaload, 1)]
set_option maxRecDepth 100000 in
theorem xi_ok0_208 : xi_ok code xi_0_208 = true := by decide +kernel
def xi_0_209 : XIs := [(2472, .aload_n 0, 1), (2473, .iload 4, 2), (2475, .iconst 4, 1), (2476, .iadd, 1)]
set_option maxRecDepth 100000 in
theorem xi_ok0_209 : xi_ok code xi_0_209 = true := by decide +kernel
def xi_0_210 : XIs := [(2477, .iaload, 1), (2478, .invokevirtual 274, 3), (2481, .istore 6, 2), (2483, .aload_n 2, 1)]
set_option maxRecDepth 100000 in
theorem xi_ok0_210 : xi_ok code xi_0_210 = true := by decide +kernel
def xi_0_211 : XIs := [(2484, .invokevirtual 151, 3), (2487, .iload 5, 2), (2489, .if_icmp .eq 5, 3), (2492, .iconst 0, 1)]
set_option maxRecDepth 100000 in
theorem xi_ok0_211 : xi_ok code xi_0_211 = true := by decide +kernel
def xi_0_212 : XIs := [(2493, .ireturn, 1), (2494, .iload 5, 2), (2496, .ifCond .ne 15, 3), (2499, .aload_n 3, 1)]
set_option maxRecDepth 100000 in
theorem xi_ok0_212 : xi_ok code xi_0_212 = true := by decide +kernel
def xi_0_213 : XIs := [(2500, .iconst 0, 1), (2501, .laload, 1), (2502, .iload 6, 2), (2504, .i2l, 1)]
set_option maxRecDepth 100000 in
theorem xi_ok0_213 : xi_ok code xi_0_213 = true := by decide +kernel
