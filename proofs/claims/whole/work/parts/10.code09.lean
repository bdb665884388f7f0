def xi_0_214 : XIs := [(2505, .lcmp, 1), (2506, .ifCond .eq 5, 3), (2509, .iconst 0, 1), (2510, .ireturn, 1)]
set_option maxRecDepth 100000 in
theorem xi_ok0_214 : xi_ok code xi_0_214 = true := by decide +kernel
def xi_0_215 : XIs := [(2511, .goto 457, 3), (2514, .aload_n 1, 1), (2515, .aload_n 0, 1), (2516, .iload 4, 2)]
set_option maxRecDepth 100000 in
theorem xi_ok0_215 : xi_ok code xi_0_215 = true := by decide +kernel
def xi_0_216 : XIs := [(2518, .iconst 1, 1), (2519, .iadd, 1), (2520, .iaload, 1), (2521, .aload_n 3, 1)]
set_option maxRecDepth 100000 in
theorem xi_ok0_216 : xi_ok code xi_0_216 = true := by decide +kernel
def xi_0_217 : XIs := [(2522, .invokestatic 275, 3), (2525, .istore 5, 2), (2527, .aload_n 2, 1), (2528, .aload_n 0, 1)]
set_option maxRecDepth 100000 in
theorem xi_ok0_217 : xi_ok code xi_0_217 = true := by decide +kernel
def xi_0_218 : XIs := [(2529, .iload 4, 2), (2531, .iconst 1, 1), (2532, .iadd, 1), (2533, .iaload, 1)]
set_option maxRecDepth 100000 in
theorem xi_ok0_218 : xi_ok code xi_0_218 = true := by decide +kernel
def xi_0_219 : XIs := [(2534, .invokevirtual 277, 3), (2537, .istore 6, 2), (2539, .aload_n 2, 1), (2540, .invokevirtual 151, 3)]
set_option maxRecDepth 100000 in
theorem xi_ok0_219 : xi_ok code xi_0_219 = true := by decide +kernel
def xi_0_220 : XIs := [(2543, .iload 5, 2), (2545, .if_icmp .eq 5, 3), (2548, .iconst 0, 1), (2549, .ireturn, 1)]
set_option maxRecDepth 100000 in
theorem xi_ok0_220 : xi_ok code xi_0_220 = true := by decide +kernel
def xi_0_221 : XIs := [(2550, .iload 5, 2), (2552, .ifCond .ne 15, 3), (2555, .aload_n 3, 1), (2556, .iconst 0, 1)]
set_option maxRecDepth 100000 in
theorem xi_ok0_221 : xi_ok code xi_0_221 = true := by decide +kernel
def xi_0_222 : XIs := [(2557, .laload, 1), (2558, .iload 6, 2), (2560, .i2l, 1), (2561, .lcmp, 1)]
set_option maxRecDepth 100000 in
theorem xi_ok0_222 : xi_ok code xi_0_222 = true := by decide +kernel
def xi_0_223 : XIs := [(2562, .ifCond .eq 5, 3), (2565, .iconst 0, 1), (2566, .ireturn, 1), (2567, .goto 401, 3)]
set_option maxRecDepth 100000 in
theorem xi_ok0_223 : xi_ok code xi_0_223 = true := by decide +kernel
def xi_0_224 : XIs := [(2570, .aload_n 1, 1), (2571, .invokevirtual 278, 3), (2574, .aload_n 2, 1), (2575, .invokevirtual 282, 3)]
set_option maxRecDepth 100000 in
theorem xi_ok0_224 : xi_ok code xi_0_224 = true := by decide +kernel
def xi_0_225 : XIs := [(2578, .lcmp, 1), (2579, .ifCond .eq 389, 3), (2582, .iconst 0, 1), (2583, .ireturn, 1)]
set_option maxRecDepth 100000 in
theorem xi_ok0_225 : xi_ok code xi_0_225 = true := by decide +kernel
def xi_0_226 : XIs := [(2584, .aload_n 1, 1), (2585, .aload_n 0, 1), (2586, .iload 4, 2), (2588, .iconst 1, 1)]
set_option maxRecDepth 100000 in
theorem xi_ok0_226 : xi_ok code xi_0_226 = true := by decide +kernel
def xi_0_227 : XIs := [(2589, .iadd, 1), (2590, .iaload, 1), (2591, .aload_n 3, 1), (2592, .invokestatic 283, 3)]
set_option maxRecDepth 100000 in
theorem xi_ok0_227 : xi_ok code xi_0_227 = true := by decide +kernel
def xi_0_228 : XIs := [(2595, .istore 5, 2), (2597, .aload_n 2, 1), (2598, .aload_n 0, 1), (2599, .iload 4, 2)]
set_option maxRecDepth 100000 in
theorem xi_ok0_228 : xi_ok code xi_0_228 = true := by decide +kernel
def xi_0_229 : XIs := [(2601, .iconst 1, 1), (2602, .iadd, 1), (2603, .iaload, 1), (2604, .invokevirtual 285, 3)]
set_option maxRecDepth 100000 in
theorem xi_ok0_229 : xi_ok code xi_0_229 = true := by decide +kernel
def xi_0_230 : XIs := [(2607, .lstore 6, 2), (2609, .aload_n 2, 1), (2610, .invokevirtual 151, 3), (2613, .iload 5, 2)]
set_option maxRecDepth 100000 in
theorem xi_ok0_230 : xi_ok code xi_0_230 = true := by decide +kernel
def xi_0_231 : XIs := [(2615, .if_icmp .eq 5, 3), (2618, .iconst 0, 1), (2619, .ireturn, 1), (2620, .iload 5, 2)]
set_option maxRecDepth 100000 in
theorem xi_ok0_231 : xi_ok code xi_0_231 = true := by decide +kernel
def xi_0_232 : XIs := [(2622, .ifCond .ne 14, 3), (2625, .aload_n 3, 1), (2626, .iconst 0, 1), (2627, .laload, 1)]
set_option maxRecDepth 100000 in
theorem xi_ok0_232 : xi_ok code xi_0_232 = true := by decide +kernel
def xi_0_233 : XIs := [(2628, .lload 6, 2), (2630, .lcmp, 1), (2631, .ifCond .eq 5, 3), (2634, .iconst 0, 1)]
set_option maxRecDepth 100000 in
theorem xi_ok0_233 : xi_ok code xi_0_233 = true := by decide +kernel
def xi_0_234 : XIs := [(2635, .ireturn, 1), (2636, .goto 332, 3), (2639, .aload_n 1, 1), (2640, .invokevirtual 286, 3)]
set_option maxRecDepth 100000 in
theorem xi_ok0_234 : xi_ok code xi_0_234 = true := by decide +kernel
def xi_0_235 : XIs := [(2643, .aload_n 2, 1), (2644, .invokevirtual 289, 3), (2647, .if_icmp .eq 321, 3), (2650, .iconst 0, 1)]
set_option maxRecDepth 100000 in
theorem xi_ok0_235 : xi_ok code xi_0_235 = true := by decide +kernel
def xi_0_236 : XIs := [(2651, .ireturn, 1), (2652, .aload_n 1, 1), (2653, .aload_n 0, 1), (2654, .iload 4, 2)]
set_option maxRecDepth 100000 in
theorem xi_ok0_236 : xi_ok code xi_0_236 = true := by decide +kernel
def xi_0_237 : XIs := [(2656, .iconst 1, 1), (2657, .iadd, 1), (2658, .iaload, 1), (2659, .aload_n 0, 1)]
set_option maxRecDepth 100000 in
theorem xi_ok0_237 : xi_ok code xi_0_237 = true := by decide +kernel
def xi_0_238 : XIs := [(2660, .iload 4, 2), (2662, .iconst 2, 1), (2663, .iadd, 1), (2664, .iaload, 1)]
set_option maxRecDepth 100000 in
theorem xi_ok0_238 : xi_ok code xi_0_238 = true := by decide +kernel
