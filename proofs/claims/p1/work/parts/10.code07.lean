def xi_0_162 : XIs := [(2466, .aload_n 0, 1), (2467, .iload 4, 2), (2469, .iconst 3, 1), (2470, .iadd, 1)]
set_option maxRecDepth 100000 in
theorem xi_ok0_162 : xi_ok code xi_0_162 = true := by decide +kernel
def xi_0_163 : XIs := [(2471, .iaload, 1), (2472, .aload_n 0, 1), (2473, .iload 4, 2), (2475, .iconst 4, 1)]
set_option maxRecDepth 100000 in
theorem xi_ok0_163 : xi_ok code xi_0_163 = true := by decide +kernel
def xi_0_164 : XIs := [(2476, .iadd, 1), (2477, .iaload, 1), (2478, .invokevirtual 274, 3), (2481, .istore 6, 2)]
set_option maxRecDepth 100000 in
theorem xi_ok0_164 : xi_ok code xi_0_164 = true := by decide +kernel
def xi_0_165 : XIs := [(2483, .aload_n 2, 1), (2484, .invokevirtual 151, 3), (2487, .iload 5, 2), (2489, .if_icmp .eq 5, 3)]
set_option maxRecDepth 100000 in
theorem xi_ok0_165 : xi_ok code xi_0_165 = true := by decide +kernel
def xi_0_166 : XIs := [(2494, .iload 5, 2), (2496, .ifCond .ne 15, 3), (2511, .goto 457, 3), (2514, .aload_n 1, 1)]
set_option maxRecDepth 100000 in
theorem xi_ok0_166 : xi_ok code xi_0_166 = true := by decide +kernel
def xi_0_167 : XIs := [(2515, .aload_n 0, 1), (2516, .iload 4, 2), (2518, .iconst 1, 1), (2519, .iadd, 1)]
set_option maxRecDepth 100000 in
theorem xi_ok0_167 : xi_ok code xi_0_167 = true := by decide +kernel
def xi_0_168 : XIs := [(2520, .iaload, 1), (2521, .aload_n 3, 1), (2522, .invokestatic 275, 3), (2525, .istore 5, 2)]
set_option maxRecDepth 100000 in
theorem xi_ok0_168 : xi_ok code xi_0_168 = true := by decide +kernel
def xi_0_169 : XIs := [(2527, .aload_n 2, 1), (2528, .aload_n 0, 1), (2529, .iload 4, 2), (2531, .iconst 1, 1)]
set_option maxRecDepth 100000 in
theorem xi_ok0_169 : xi_ok code xi_0_169 = true := by decide +kernel
def xi_0_170 : XIs := [(2532, .iadd, 1), (2533, .iaload, 1), (2534, .invokevirtual 277, 3), (2537, .istore 6, 2)]
set_option maxRecDepth 100000 in
theorem xi_ok0_170 : xi_ok code xi_0_170 = true := by decide +kernel
def xi_0_171 : XIs := [(2539, .aload_n 2, 1), (2540, .invokevirtual 151, 3), (2543, .iload 5, 2), (2545, .if_icmp .eq 5, 3)]
set_option maxRecDepth 100000 in
theorem xi_ok0_171 : xi_ok code xi_0_171 = true := by decide +kernel
def xi_0_172 : XIs := [(2550, .iload 5, 2), (2552, .ifCond .ne 15, 3), (2567, .goto 401, 3), (2570, .aload_n 1, 1)]
set_option maxRecDepth 100000 in
theorem xi_ok0_172 : xi_ok code xi_0_172 = true := by decide +kernel
def xi_0_173 : XIs := [(2571, .invokevirtual 278, 3), (2574, .aload_n 2, 1), (2575, .invokevirtual 282, 3), (2578, .lcmp, 1)]
set_option maxRecDepth 100000 in
theorem xi_ok0_173 : xi_ok code xi_0_173 = true := by decide +kernel
def xi_0_174 : XIs := [(2579, .ifCond .eq 389, 3), (2584, .aload_n 1, 1), (2585, .aload_n 0, 1), (2586, .iload 4, 2)]
set_option maxRecDepth 100000 in
theorem xi_ok0_174 : xi_ok code xi_0_174 = true := by decide +kernel
def xi_0_175 : XIs := [(2588, .iconst 1, 1), (2589, .iadd, 1), (2590, .iaload, 1), (2591, .aload_n 3, 1)]
set_option maxRecDepth 100000 in
theorem xi_ok0_175 : xi_ok code xi_0_175 = true := by decide +kernel
def xi_0_176 : XIs := [(2592, .invokestatic 283, 3), (2595, .istore 5, 2), (2597, .aload_n 2, 1), (2598, .aload_n 0, 1)]
set_option maxRecDepth 100000 in
theorem xi_ok0_176 : xi_ok code xi_0_176 = true := by decide +kernel
def xi_0_177 : XIs := [(2599, .iload 4, 2), (2601, .iconst 1, 1), (2602, .iadd, 1), (2603, .iaload, 1)]
set_option maxRecDepth 100000 in
theorem xi_ok0_177 : xi_ok code xi_0_177 = true := by decide +kernel
def xi_0_178 : XIs := [(2604, .invokevirtual 285, 3), (2607, .lstore 6, 2), (2609, .aload_n 2, 1), (2610, .invokevirtual 151, 3)]
set_option maxRecDepth 100000 in
theorem xi_ok0_178 : xi_ok code xi_0_178 = true := by decide +kernel
def xi_0_179 : XIs := [(2613, .iload 5, 2), (2615, .if_icmp .eq 5, 3), (2620, .iload 5, 2), (2622, .ifCond .ne 14, 3)]
set_option maxRecDepth 100000 in
theorem xi_ok0_179 : xi_ok code xi_0_179 = true := by decide +kernel
def xi_0_180 : XIs := [(2625, .aload_n 3, 1), (2626, .iconst 0, 1), (2627, .laload, 1), (2628, .lload 6, 2)]
set_option maxRecDepth 100000 in
theorem xi_ok0_180 : xi_ok code xi_0_180 = true := by decide +kernel
def xi_0_181 : XIs := [(2630, .lcmp, 1), (2631, .ifCond .eq 5, 3), (2636, .goto 332, 3), (2639, .aload_n 1, 1)]
set_option maxRecDepth 100000 in
theorem xi_ok0_181 : xi_ok code xi_0_181 = true := by decide +kernel
def xi_0_182 : XIs := [(2640, .invokevirtual 286, 3), (2643, .aload_n 2, 1), (2644, .invokevirtual 289, 3), (2647, .if_icmp .eq 321, 3)]
set_option maxRecDepth 100000 in
theorem xi_ok0_182 : xi_ok code xi_0_182 = true := by decide +kernel
def xi_0_183 : XIs := [(2652, .aload_n 1, 1), (2653, .aload_n 0, 1), (2654, .iload 4, 2), (2656, .iconst 1, 1)]
set_option maxRecDepth 100000 in
theorem xi_ok0_183 : xi_ok code xi_0_183 = true := by decide +kernel
def xi_0_184 : XIs := [(2657, .iadd, 1), (2658, .iaload, 1), (2659, .aload_n 0, 1), (2660, .iload 4, 2)]
set_option maxRecDepth 100000 in
theorem xi_ok0_184 : xi_ok code xi_0_184 = true := by decide +kernel
def xi_0_185 : XIs := [(2662, .iconst 2, 1), (2663, .iadd, 1), (2664, .iaload, 1), (2665, .aload_n 3, 1)]
set_option maxRecDepth 100000 in
theorem xi_ok0_185 : xi_ok code xi_0_185 = true := by decide +kernel
def xi_0_186 : XIs := [(2666, .invokestatic 290, 3), (2669, .istore 5, 2), (2671, .aload_n 2, 1), (2672, .aload_n 0, 1)]
set_option maxRecDepth 100000 in
theorem xi_ok0_186 : xi_ok code xi_0_186 = true := by decide +kernel
