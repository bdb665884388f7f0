def xi_0_162 : XIs := [(2170, .aload_n 0, 1), (2171, .iload 4, 2), (2173, .iconst 1, 1), (2174, .iadd, 1), (2175, .iaload, 1)]
set_option maxRecDepth 100000 in
theorem xi_ok0_162 : xi_ok code xi_0_162 = true := by decide +kernel
def xi_0_163 : XIs := [(2176, .aload_n 3, 1), (2177, .invokestatic 256, 3), (2180, .istore 5, 2), (2182, .aload_n 2, 1), (2183, .aload_n 0, 1)]
set_option maxRecDepth 100000 in
theorem xi_ok0_163 : xi_ok code xi_0_163 = true := by decide +kernel
def xi_0_164 : XIs := [(2184, .iload 4, 2), (2186, .iconst 1, 1), (2187, .iadd, 1), (2188, .iaload, 1), (2189, .invokevirtual 258, 3)]
set_option maxRecDepth 100000 in
theorem xi_ok0_164 : xi_ok code xi_0_164 = true := by decide +kernel
def xi_0_165 : XIs := [(2192, .lstore 6, 2), (2194, .aload_n 2, 1), (2195, .invokevirtual 151, 3), (2198, .iload 5, 2), (2200, .if_icmp .eq 5, 3)]
set_option maxRecDepth 100000 in
theorem xi_ok0_165 : xi_ok code xi_0_165 = true := by decide +kernel
def xi_0_166 : XIs := [(2203, .iconst 0, 1), (2204, .ireturn, 1), (2205, .iload 5, 2), (2207, .ifCond .ne 14, 3), (2210, .aload_n 3, 1)]
set_option maxRecDepth 100000 in
theorem xi_ok0_166 : xi_ok code xi_0_166 = true := by decide +kernel
def xi_0_167 : XIs := [(2211, .iconst 0, 1), (2212, .laload, 1), (2213, .lload 6, 2), (2215, .lcmp, 1), (2216, .ifCond .eq 5, 3)]
set_option maxRecDepth 100000 in
theorem xi_ok0_167 : xi_ok code xi_0_167 = true := by decide +kernel
def xi_0_168 : XIs := [(2219, .iconst 0, 1), (2220, .ireturn, 1), (2221, .goto 747, 3), (2224, .aload_n 1, 1), (2225, .aload_n 0, 1)]
set_option maxRecDepth 100000 in
theorem xi_ok0_168 : xi_ok code xi_0_168 = true := by decide +kernel
def xi_0_169 : XIs := [(2226, .iload 4, 2), (2228, .iconst 1, 1), (2229, .iadd, 1), (2230, .iaload, 1), (2231, .aload_n 3, 1)]
set_option maxRecDepth 100000 in
theorem xi_ok0_169 : xi_ok code xi_0_169 = true := by decide +kernel
def xi_0_170 : XIs := [(2232, .invokestatic 259, 3), (2235, .istore 5, 2), (2237, .aload_n 2, 1), (2238, .aload_n 0, 1)]
set_option maxRecDepth 100000 in
theorem xi_ok0_170 : xi_ok code xi_0_170 = true := by decide +kernel
def xi_0_171 : XIs := [(2239, .iload 4, 2), (2241, .iconst 1, 1), (2242, .iadd, 1), (2243, .iaload, 1)]
set_option maxRecDepth 100000 in
theorem xi_ok0_171 : xi_ok code xi_0_171 = true := by decide +kernel
def xi_0_172 : XIs := [(2244, .invokevirtual 261, 3), (2247, .lstore 6, 2), (2249, .aload_n 2, 1), (2250, .invokevirtual 151, 3)]
set_option maxRecDepth 100000 in
theorem xi_ok0_172 : xi_ok code xi_0_172 = true := by decide +kernel
def xi_0_173 : XIs := [(2253, .iload 5, 2), (2255, .if_icmp .eq 5, 3), (2258, .iconst 0, 1), (2259, .ireturn, 1)]
set_option maxRecDepth 100000 in
theorem xi_ok0_173 : xi_ok code xi_0_173 = true := by decide +kernel
def xi_0_174 : XIs := [(2260, .iload 5, 2), (2262, .ifCond .ne 14, 3), (2265, .aload_n 3, 1), (2266, .iconst 0, 1)]
set_option maxRecDepth 100000 in
theorem xi_ok0_174 : xi_ok code xi_0_174 = true := by decide +kernel
def xi_0_175 : XIs := [(2267, .laload, 1), (2268, .lload 6, 2), (2270, .lcmp, 1), (2271, .ifCond .eq 5, 3)]
set_option maxRecDepth 100000 in
theorem xi_ok0_175 : xi_ok code xi_0_175 = true := by decide +kernel
def xi_0_176 : XIs := [(2274, .iconst 0, 1), (2275, .ireturn, 1), (2276, .goto 692, 3), (2279, .aload_n 1, 1)]
set_option maxRecDepth 100000 in
theorem xi_ok0_176 : xi_ok code xi_0_176 = true := by decide +kernel
def xi_0_177 : XIs := [(2280, .aload_n 0, 1), (2281, .iload 4, 2), (2283, .iconst 1, 1), (2284, .iadd, 1)]
set_option maxRecDepth 100000 in
theorem xi_ok0_177 : xi_ok code xi_0_177 = true := by decide +kernel
def xi_0_178 : XIs := [(2285, .iaload, 1), (2286, .aload_n 3, 1), (2287, .invokestatic 262, 3), (2290, .istore 5, 2)]
set_option maxRecDepth 100000 in
theorem xi_ok0_178 : xi_ok code xi_0_178 = true := by decide +kernel
def xi_0_179 : XIs := [(2292, .aload_n 2, 1), (2293, .aload_n 0, 1), (2294, .iload 4, 2), (2296, .iconst 1, 1)]
set_option maxRecDepth 100000 in
theorem xi_ok0_179 : xi_ok code xi_0_179 = true := by decide +kernel
def xi_0_180 : XIs := [(2297, .iadd, 1), (2298, .iaload, 1), (2299, .invokevirtual 264, 3), (2302, .istore 6, 2)]
set_option maxRecDepth 100000 in
theorem xi_ok0_180 : xi_ok code xi_0_180 = true := by decide +kernel
def xi_0_181 : XIs := [(2304, .aload_n 2, 1), (2305, .invokevirtual 151, 3), (2308, .iload 5, 2), (2310, .if_icmp .eq 5, 3)]
set_option maxRecDepth 100000 in
theorem xi_ok0_181 : xi_ok code xi_0_181 = true := by decide +kernel
def xi_0_182 : XIs := [(2313, .iconst 0, 1), (2314, .ireturn, 1), (2315, .iload 5, 2), (2317, .ifCond .ne 22, 3)]
set_option maxRecDepth 100000 in
theorem xi_ok0_182 : xi_ok code xi_0_182 = true := by decide +kernel
def xi_0_183 : XIs := [(2320, .aload_n 3, 1), (2321, .iconst 0, 1), (2322, .laload, 1), (2323, .iload 6, 2)]
set_option maxRecDepth 100000 in
theorem xi_ok0_183 : xi_ok code xi_0_183 = true := by decide +kernel
def xi_0_184 : XIs := [(2325, .ifCond .eq 7, 3), (2328, .lconst 1, 1), (2329, .goto 4, 3), (2332, .lconst 0, 1)]
set_option maxRecDepth 100000 in
theorem xi_ok0_184 : xi_ok code xi_0_184 = true := by decide +kernel
def xi_0_185 : XIs := [(2333, .lcmp, 1), (2334, .ifCond .eq 5, 3), (2337, .iconst 0, 1), (2338, .ireturn, 1)]
set_option maxRecDepth 100000 in
theorem xi_ok0_185 : xi_ok code xi_0_185 = true := by decide +kernel
def xi_0_186 : XIs := [(2339, .goto 629, 3), (2342, .aload_n 1, 1), (2343, .invokevirtual 265, 3), (2346, .aload_n 2, 1)]
set_option maxRecDepth 100000 in
theorem xi_ok0_186 : xi_ok code xi_0_186 = true := by decide +kernel
def xi_0_187 : XIs := [(2347, .invokevirtual 268, 3), (2350, .if_icmp .eq 618, 3), (2353, .iconst 0, 1), (2354, .ireturn, 1)]
set_option maxRecDepth 100000 in
theorem xi_ok0_187 : xi_ok code xi_0_187 = true := by decide +kernel
