def xi_0_262 : XIs := [(2798, .iaload, 1), (2799, .aload_n 0, 1), (2800, .iload 4, 2), (2802, .iconst 4, 1)]
set_option maxRecDepth 100000 in
theorem xi_ok0_262 : xi_ok code xi_0_262 = true := by decide +kernel
def xi_0_263 : XIs := [(2803, .iadd, 1), (2804, .iaload, 1), (2805, .i2l, 1), (2806, .bipush 32, 2)]
set_option maxRecDepth 100000 in
theorem xi_ok0_263 : xi_ok code xi_0_263 = true := by decide +kernel
def xi_0_264 : XIs := [(2808, .lshl, 1), (2809, .aload_n 0, 1), (2810, .iload 4, 2), (2812, .iconst 5, 1)]
set_option maxRecDepth 100000 in
theorem xi_ok0_264 : xi_ok code xi_0_264 = true := by decide +kernel
def xi_0_265 : XIs := [(2813, .iadd, 1), (2814, .iaload, 1), (2815, .i2l, 1), (2816, .ldc2_w 297, 3)]
set_option maxRecDepth 100000 in
theorem xi_ok0_265 : xi_ok code xi_0_265 = true := by decide +kernel
def xi_0_266 : XIs := [(2819, .land, 1), (2820, .lor, 1), (2821, .invokevirtual 302, 3), (2824, .istore 6, 2)]
set_option maxRecDepth 100000 in
theorem xi_ok0_266 : xi_ok code xi_0_266 = true := by decide +kernel
def xi_0_267 : XIs := [(2826, .aload_n 2, 1), (2827, .invokevirtual 151, 3), (2830, .iload 5, 2), (2832, .if_icmp .eq 5, 3)]
set_option maxRecDepth 100000 in
theorem xi_ok0_267 : xi_ok code xi_0_267 = true := by decide +kernel
def xi_0_268 : XIs := [(2835, .iconst 0, 1), (2836, .ireturn, 1), (2837, .iload 5, 2), (2839, .ifCond .ne 15, 3)]
set_option maxRecDepth 100000 in
theorem xi_ok0_268 : xi_ok code xi_0_268 = true := by decide +kernel
def xi_0_269 : XIs := [(2842, .aload_n 3, 1), (2843, .iconst 0, 1), (2844, .laload, 1), (2845, .iload 6, 2)]
set_option maxRecDepth 100000 in
theorem xi_ok0_269 : xi_ok code xi_0_269 = true := by decide +kernel
def xi_0_270 : XIs := [(2847, .i2l, 1), (2848, .lcmp, 1), (2849, .ifCond .eq 5, 3), (2852, .iconst 0, 1)]
set_option maxRecDepth 100000 in
theorem xi_ok0_270 : xi_ok code xi_0_270 = true := by decide +kernel
def xi_0_271 : XIs := [(2853, .ireturn, 1), (2854, .goto 114, 3), (2857, .aload_n 1, 1), (2858, .aload_n 0, 1)]
set_option maxRecDepth 100000 in
theorem xi_ok0_271 : xi_ok code xi_0_271 = true := by decide +kernel
def xi_0_272 : XIs := [(2859, .iload 4, 2), (2861, .iconst 1, 1), (2862, .iadd, 1), (2863, .iaload, 1)]
set_option maxRecDepth 100000 in
theorem xi_ok0_272 : xi_ok code xi_0_272 = true := by decide +kernel
def xi_0_273 : XIs := [(2864, .aload_n 3, 1), (2865, .invokestatic 303, 3), (2868, .istore 5, 2), (2870, .aload_n 2, 1)]
set_option maxRecDepth 100000 in
theorem xi_ok0_273 : xi_ok code xi_0_273 = true := by decide +kernel
def xi_0_274 : XIs := [(2871, .aload_n 0, 1), (2872, .iload 4, 2), (2874, .iconst 1, 1), (2875, .iadd, 1)]
set_option maxRecDepth 100000 in
theorem xi_ok0_274 : xi_ok code xi_0_274 = true := by decide +kernel
def xi_0_275 : XIs := [(2876, .iaload, 1), (2877, .invokevirtual 305, 3), (2880, .lstore 6, 2), (2882, .aload_n 2, 1)]
set_option maxRecDepth 100000 in
theorem xi_ok0_275 : xi_ok code xi_0_275 = true := by decide +kernel
def xi_0_276 : XIs := [(2883, .invokevirtual 151, 3), (2886, .iload 5, 2), (2888, .if_icmp .eq 5, 3), (2891, .iconst 0, 1)]
set_option maxRecDepth 100000 in
theorem xi_ok0_276 : xi_ok code xi_0_276 = true := by decide +kernel
def xi_0_277 : XIs := [(2892, .ireturn, 1), (2893, .iload 5, 2), (2895, .ifCond .ne 14, 3), (2898, .aload_n 3, 1)]
set_option maxRecDepth 100000 in
theorem xi_ok0_277 : xi_ok code xi_0_277 = true := by decide +kernel
def xi_0_278 : XIs := [(2899, .iconst 0, 1), (2900, .laload, 1), (2901, .lload 6, 2), (2903, .lcmp, 1)]
set_option maxRecDepth 100000 in
theorem xi_ok0_278 : xi_ok code xi_0_278 = true := by decide +kernel
def xi_0_279 : XIs := [(2904, .ifCond .eq 5, 3), (2907, .iconst 0, 1), (2908, .ireturn, 1), (2909, .goto 59, 3)]
set_option maxRecDepth 100000 in
theorem xi_ok0_279 : xi_ok code xi_0_279 = true := by decide +kernel
def xi_0_280 : XIs := [(2912, .aload_n 1, 1), (2913, .aload_n 0, 1), (2914, .iload 4, 2), (2916, .iconst 1, 1)]
set_option maxRecDepth 100000 in
theorem xi_ok0_280 : xi_ok code xi_0_280 = true := by decide +kernel
def xi_0_281 : XIs := [(2917, .iadd, 1), (2918, .iaload, 1), (2919, .aload_n 3, 1), (2920, .invokestatic 306, 3)]
set_option maxRecDepth 100000 in
theorem xi_ok0_281 : xi_ok code xi_0_281 = true := by decide +kernel
def xi_0_282 : XIs := [(2923, .istore 5, 2), (2925, .aload_n 2, 1), (2926, .aload_n 0, 1), (2927, .iload 4, 2)]
set_option maxRecDepth 100000 in
theorem xi_ok0_282 : xi_ok code xi_0_282 = true := by decide +kernel
def xi_0_283 : XIs := [(2929, .iconst 1, 1), (2930, .iadd, 1), (2931, .iaload, 1), (2932, .invokevirtual 308, 3)]
set_option maxRecDepth 100000 in
theorem xi_ok0_283 : xi_ok code xi_0_283 = true := by decide +kernel
