def xi_0_239 : XIs := [(2665, .aload_n 3, 1), (2666, .invokestatic 290, 3), (2669, .istore 5, 2), (2671, .aload_n 2, 1)]
set_option maxRecDepth 100000 in
theorem xi_ok0_239 : xi_ok code xi_0_239 = true := by decide +kernel
def xi_0_240 : XIs := [(2672, .aload_n 0, 1), (2673, .iload 4, 2), (2675, .iconst 1, 1), (2676, .iadd, 1)]
set_option maxRecDepth 100000 in
theorem xi_ok0_240 : xi_ok code xi_0_240 = true := by decide +kernel
def xi_0_241 : XIs := [(2677, .iaload, 1), (2678, .aload_n 0, 1), (2679, .iload 4, 2), (2681, .iconst 2, 1)]
set_option maxRecDepth 100000 in
theorem xi_ok0_241 : xi_ok code xi_0_241 = true := by decide +kernel
def xi_0_242 : XIs := [(2682, .iadd, 1), (2683, .iaload, 1), (2684, .invokevirtual 292, 3), (2687, .istore 6, 2)]
set_option maxRecDepth 100000 in
theorem xi_ok0_242 : xi_ok code xi_0_242 = true := by decide +kernel
def xi_0_243 : XIs := [(2689, .aload_n 2, 1), (2690, .invokevirtual 151, 3), (2693, .iload 5, 2), (2695, .if_icmp .eq 5, 3)]
set_option maxRecDepth 100000 in
theorem xi_ok0_243 : xi_ok code xi_0_243 = true := by decide +kernel
def xi_0_244 : XIs := [(2698, .iconst 0, 1), (2699, .ireturn, 1), (2700, .iload 5, 2), (2702, .ifCond .ne 15, 3)]
set_option maxRecDepth 100000 in
theorem xi_ok0_244 : xi_ok code xi_0_244 = true := by decide +kernel
def xi_0_245 : XIs := [(2705, .aload_n 3, 1), (2706, .iconst 0, 1), (2707, .laload, 1), (2708, .iload 6, 2)]
set_option maxRecDepth 100000 in
theorem xi_ok0_245 : xi_ok code xi_0_245 = true := by decide +kernel
def xi_0_246 : XIs := [(2710, .i2l, 1), (2711, .lcmp, 1), (2712, .ifCond .eq 5, 3), (2715, .iconst 0, 1)]
set_option maxRecDepth 100000 in
theorem xi_ok0_246 : xi_ok code xi_0_246 = true := by decide +kernel
def xi_0_247 : XIs := [(2716, .ireturn, 1), (2717, .goto 251, 3), (2720, .aload_n 1, 1), (2721, .invokevirtual 293, 3)]
set_option maxRecDepth 100000 in
theorem xi_ok0_247 : xi_ok code xi_0_247 = true := by decide +kernel
def xi_0_248 : XIs := [(2724, .aload_n 2, 1), (2725, .invokevirtual 296, 3), (2728, .if_icmp .eq 240, 3), (2731, .iconst 0, 1)]
set_option maxRecDepth 100000 in
theorem xi_ok0_248 : xi_ok code xi_0_248 = true := by decide +kernel
def xi_0_249 : XIs := [(2732, .ireturn, 1), (2733, .aload_n 1, 1), (2734, .aload_n 0, 1), (2735, .iload 4, 2)]
set_option maxRecDepth 100000 in
theorem xi_ok0_249 : xi_ok code xi_0_249 = true := by decide +kernel
def xi_0_250 : XIs := [(2737, .iconst 1, 1), (2738, .iadd, 1), (2739, .iaload, 1), (2740, .aload_n 0, 1)]
set_option maxRecDepth 100000 in
theorem xi_ok0_250 : xi_ok code xi_0_250 = true := by decide +kernel
def xi_0_251 : XIs := [(2741, .iload 4, 2), (2743, .iconst 2, 1), (2744, .iadd, 1), (2745, .iaload, 1)]
set_option maxRecDepth 100000 in
theorem xi_ok0_251 : xi_ok code xi_0_251 = true := by decide +kernel
def xi_0_252 : XIs := [(2746, .aload_n 0, 1), (2747, .iload 4, 2), (2749, .iconst 3, 1), (2750, .iadd, 1)]
set_option maxRecDepth 100000 in
theorem xi_ok0_252 : xi_ok code xi_0_252 = true := by decide +kernel
def xi_0_253 : XIs := [(2751, .iaload, 1), (2752, .aload_n 0, 1), (2753, .iload 4, 2), (2755, .iconst 4, 1)]
set_option maxRecDepth 100000 in
theorem xi_ok0_253 : xi_ok code xi_0_253 = true := by decide +kernel
def xi_0_254 : XIs := [(2756, .iadd, 1), (2757, .iaload, 1), (2758, .i2l, 1), (2759, .bipush 32, 2)]
set_option maxRecDepth 100000 in
theorem xi_ok0_254 : xi_ok code xi_0_254 = true := by decide +kernel
def xi_0_255 : XIs := [(2761, .lshl, 1), (2762, .aload_n 0, 1), (2763, .iload 4, 2), (2765, .iconst 5, 1)]
set_option maxRecDepth 100000 in
theorem xi_ok0_255 : xi_ok code xi_0_255 = true := by decide +kernel
def xi_0_256 : XIs := [(2766, .iadd, 1), (2767, .iaload, 1), (2768, .i2l, 1), (2769, .ldc2_w 297, 3)]
set_option maxRecDepth 100000 in
theorem xi_ok0_256 : xi_ok code xi_0_256 = true := by decide +kernel
def xi_0_257 : XIs := [(2772, .land, 1), (2773, .lor, 1), (2774, .aload_n 3, 1), (2775, .invokestatic 299, 3)]
set_option maxRecDepth 100000 in
theorem xi_ok0_257 : xi_ok code xi_0_257 = true := by decide +kernel
def xi_0_258 : XIs := [(2778, .istore 5, 2), (2780, .aload_n 2, 1), (2781, .aload_n 0, 1), (2782, .iload 4, 2)]
set_option maxRecDepth 100000 in
theorem xi_ok0_258 : xi_ok code xi_0_258 = true := by decide +kernel
def xi_0_259 : XIs := [(2784, .iconst 1, 1), (2785, .iadd, 1), (2786, .iaload, 1), (2787, .aload_n 0, 1)]
set_option maxRecDepth 100000 in
theorem xi_ok0_259 : xi_ok code xi_0_259 = true := by decide +kernel
def xi_0_260 : XIs := [(2788, .iload 4, 2), (2790, .iconst 2, 1), (2791, .iadd, 1), (2792, .iaload, 1)]
set_option maxRecDepth 100000 in
theorem xi_ok0_260 : xi_ok code xi_0_260 = true := by decide +kernel
def xi_0_261 : XIs := [(2793, .aload_n 0, 1), (2794, .iload 4, 2), (2796, .iconst 3, 1), (2797, .iadd, 1)]
set_option maxRecDepth 100000 in
theorem xi_ok0_261 : xi_ok code xi_0_261 = true := by decide +kernel
