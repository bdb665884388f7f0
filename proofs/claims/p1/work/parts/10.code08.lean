def xi_0_187 : XIs := [(2673, .iload 4, 2), (2675, .iconst 1, 1), (2676, .iadd, 1), (2677, .iaload, 1)]
set_option maxRecDepth 100000 in
theorem xi_ok0_187 : xi_ok code xi_0_187 = true := by decide +kernel
def xi_0_188 : XIs := [(2678, .aload_n 0, 1), (2679, .iload 4, 2), (2681, .iconst 2, 1), (2682, .iadd, 1)]
set_option maxRecDepth 100000 in
theorem xi_ok0_188 : xi_ok code xi_0_188 = true := by decide +kernel
def xi_0_189 : XIs := [(2683, .iaload, 1), (2684, .invokevirtual 292, 3), (2687, .istore 6, 2), (2689, .aload_n 2, 1)]
set_option maxRecDepth 100000 in
theorem xi_ok0_189 : xi_ok code xi_0_189 = true := by decide +kernel
def xi_0_190 : XIs := [(2690, .invokevirtual 151, 3), (2693, .iload 5, 2), (2695, .if_icmp .eq 5, 3), (2700, .iload 5, 2)]
set_option maxRecDepth 100000 in
theorem xi_ok0_190 : xi_ok code xi_0_190 = true := by decide +kernel
def xi_0_191 : XIs := [(2702, .ifCond .ne 15, 3), (2717, .goto 251, 3), (2720, .aload_n 1, 1), (2721, .invokevirtual 293, 3)]
set_option maxRecDepth 100000 in
theorem xi_ok0_191 : xi_ok code xi_0_191 = true := by decide +kernel
def xi_0_192 : XIs := [(2724, .aload_n 2, 1), (2725, .invokevirtual 296, 3), (2728, .if_icmp .eq 240, 3), (2733, .aload_n 1, 1)]
set_option maxRecDepth 100000 in
theorem xi_ok0_192 : xi_ok code xi_0_192 = true := by decide +kernel
def xi_0_193 : XIs := [(2734, .aload_n 0, 1), (2735, .iload 4, 2), (2737, .iconst 1, 1), (2738, .iadd, 1)]
set_option maxRecDepth 100000 in
theorem xi_ok0_193 : xi_ok code xi_0_193 = true := by decide +kernel
def xi_0_194 : XIs := [(2739, .iaload, 1), (2740, .aload_n 0, 1), (2741, .iload 4, 2), (2743, .iconst 2, 1)]
set_option maxRecDepth 100000 in
theorem xi_ok0_194 : xi_ok code xi_0_194 = true := by decide +kernel
def xi_0_195 : XIs := [(2744, .iadd, 1), (2745, .iaload, 1), (2746, .aload_n 0, 1), (2747, .iload 4, 2)]
set_option maxRecDepth 100000 in
theorem xi_ok0_195 : xi_ok code xi_0_195 = true := by decide +kernel
def xi_0_196 : XIs := [(2749, .iconst 3, 1), (2750, .iadd, 1), (2751, .iaload, 1), (2752, .aload_n 0, 1)]
set_option maxRecDepth 100000 in
theorem xi_ok0_196 : xi_ok code xi_0_196 = true := by decide +kernel
def xi_0_197 : XIs := [(2753, .iload 4, 2), (2755, .iconst 4, 1), (2756, .iadd, 1), (2757, .iaload, 1)]
set_option maxRecDepth 100000 in
theorem xi_ok0_197 : xi_ok code xi_0_197 = true := by decide +kernel
def xi_0_198 : XIs := [(2758, .i2l, 1), (2759, .bipush 32, 2), (2761, .lshl, 1), (2762, .aload_n 0, 1)]
set_option maxRecDepth 100000 in
theorem xi_ok0_198 : xi_ok code xi_0_198 = true := by decide +kernel
def xi_0_199 : XIs := [(2763, .iload 4, 2), (2765, .iconst 5, 1), (2766, .iadd, 1), (2767, .iaload, 1)]
set_option maxRecDepth 100000 in
theorem xi_ok0_199 : xi_ok code xi_0_199 = true := by decide +kernel
def xi_0_200 : XIs := [(2768, .i2l, 1), (2769, .ldc2_w 297, 3), (2772, .land, 1), (2773, .lor, 1)]
set_option maxRecDepth 100000 in
theorem xi_ok0_200 : xi_ok code xi_0_200 = true := by decide +kernel
def xi_0_201 : XIs := [(2774, .aload_n 3, 1), (2775, .invokestatic 299, 3), (2778, .istore 5, 2), (2780, .aload_n 2, 1)]
set_option maxRecDepth 100000 in
theorem xi_ok0_201 : xi_ok code xi_0_201 = true := by decide +kernel
def xi_0_202 : XIs := [(2781, .aload_n 0, 1), (2782, .iload 4, 2), (2784, .iconst 1, 1), (2785, .iadd, 1)]
set_option maxRecDepth 100000 in
theorem xi_ok0_202 : xi_ok code xi_0_202 = true := by decide +kernel
def xi_0_203 : XIs := [(2786, .iaload, 1), (2787, .aload_n 0, 1), (2788, .iload 4, 2), (2790, .iconst 2, 1)]
set_option maxRecDepth 100000 in
theorem xi_ok0_203 : xi_ok code xi_0_203 = true := by decide +kernel
def xi_0_204 : XIs := [(2791, .iadd, 1), (2792, .iaload, 1), (2793, .aload_n 0, 1), (2794, .iload 4, 2)]
set_option maxRecDepth 100000 in
theorem xi_ok0_204 : xi_ok code xi_0_204 = true := by decide +kernel
def xi_0_205 : XIs := [(2796, .iconst 3, 1), (2797, .iadd, 1), (2798, .iaload, 1), (2799, .aload_n 0, 1)]
set_option maxRecDepth 100000 in
theorem xi_ok0_205 : xi_ok code xi_0_205 = true := by decide +kernel
def xi_0_206 : XIs := [(2800, .iload 4, 2), (2802, .iconst 4, 1), (2803, .iadd, 1), (2804, .iaload, 1)]
set_option maxRecDepth 100000 in
theorem xi_ok0_206 : xi_ok code xi_0_206 = true := by decide +kernel
def xi_0_207 : XIs := [(2805, .i2l, 1), (2806, .bipush 32, 2), (2808, .lshl, 1), (2809, .aload_n 0, 1)]
set_option maxRecDepth 100000 in
theorem xi_ok0_207 : xi_ok code xi_0_207 = true := by decide +kernel
def xi_0_208 : XIs := [(2810, .iload 4, 2), (2812, .iconst 5, 1), (2813, .iadd, 1), (2814, .iaload, 1)]
set_option maxRecDepth 100000 in
theorem xi_ok0_208 : xi_ok code xi_0_208 = true := by decide +kernel
def xi_0_209 : XIs := [(2815, .i2l, 1), (2816, .ldc2_w 297, 3), (2819, .land, 1), (2820, .lor, 1)]
set_option maxRecDepth 100000 in
theorem xi_ok0_209 : xi_ok code xi_0_209 = true := by decide +kernel
