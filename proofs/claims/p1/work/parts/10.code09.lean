def xi_0_210 : XIs := [(2821, .invokevirtual 302, 3), (2824, .istore 6, 2), (2826, .aload_n 2, 1), (2827, .invokevirtual 151, 3)]
set_option maxRecDepth 100000 in
theorem xi_ok0_210 : xi_ok code xi_0_210 = true := by decide +kernel
def xi_0_211 : XIs := [(2830, .iload 5, 2), (2832, .if_icmp .eq 5, 3), (2837, .iload 5, 2), (2839, .ifCond .ne 15, 3)]
set_option maxRecDepth 100000 in
theorem xi_ok0_211 : xi_ok code xi_0_211 = true := by decide +kernel
def xi_0_212 : XIs := [(2842, .aload_n 3, 1), (2843, .iconst 0, 1), (2844, .laload, 1), (2845, .iload 6, 2)]
set_option maxRecDepth 100000 in
theorem xi_ok0_212 : xi_ok code xi_0_212 = true := by decide +kernel
def xi_0_213 : XIs := [(2847, .i2l, 1), (2848, .lcmp, 1), (2849, .ifCond .eq 5, 3), (2854, .goto 114, 3)]
set_option maxRecDepth 100000 in
theorem xi_ok0_213 : xi_ok code xi_0_213 = true := by decide +kernel
def xi_0_214 : XIs := [(2857, .aload_n 1, 1), (2858, .aload_n 0, 1), (2859, .iload 4, 2), (2861, .iconst 1, 1)]
set_option maxRecDepth 100000 in
theorem xi_ok0_214 : xi_ok code xi_0_214 = true := by decide +kernel
def xi_0_215 : XIs := [(2862, .iadd, 1), (2863, .iaload, 1), (2864, .aload_n 3, 1), (2865, .invokestatic 303, 3)]
set_option maxRecDepth 100000 in
theorem xi_ok0_215 : xi_ok code xi_0_215 = true := by decide +kernel
def xi_0_216 : XIs := [(2868, .istore 5, 2), (2870, .aload_n 2, 1), (2871, .aload_n 0, 1), (2872, .iload 4, 2)]
set_option maxRecDepth 100000 in
theorem xi_ok0_216 : xi_ok code xi_0_216 = true := by decide +kernel
def xi_0_217 : XIs := [(2874, .iconst 1, 1), (2875, .iadd, 1), (2876, .iaload, 1), (2877, .invokevirtual 305, 3)]
set_option maxRecDepth 100000 in
theorem xi_ok0_217 : xi_ok code xi_0_217 = true := by decide +kernel
def xi_0_218 : XIs := [(2880, .lstore 6, 2), (2882, .aload_n 2, 1), (2883, .invokevirtual 151, 3), (2886, .iload 5, 2)]
set_option maxRecDepth 100000 in
theorem xi_ok0_218 : xi_ok code xi_0_218 = true := by decide +kernel
def xi_0_219 : XIs := [(2888, .if_icmp .eq 5, 3), (2893, .iload 5, 2), (2895, .ifCond .ne 14, 3), (2909, .goto 59, 3)]
set_option maxRecDepth 100000 in
theorem xi_ok0_219 : xi_ok code xi_0_219 = true := by decide +kernel
def xi_0_220 : XIs := [(2912, .aload_n 1, 1), (2913, .aload_n 0, 1), (2914, .iload 4, 2), (2916, .iconst 1, 1)]
set_option maxRecDepth 100000 in
theorem xi_ok0_220 : xi_ok code xi_0_220 = true := by decide +kernel
def xi_0_221 : XIs := [(2917, .iadd, 1), (2918, .iaload, 1), (2919, .aload_n 3, 1), (2920, .invokestatic 306, 3)]
set_option maxRecDepth 100000 in
theorem xi_ok0_221 : xi_ok code xi_0_221 = true := by decide +kernel
def xi_0_222 : XIs := [(2923, .istore 5, 2), (2925, .aload_n 2, 1), (2926, .aload_n 0, 1), (2927, .iload 4, 2)]
set_option maxRecDepth 100000 in
theorem xi_ok0_222 : xi_ok code xi_0_222 = true := by decide +kernel
def xi_0_223 : XIs := [(2929, .iconst 1, 1), (2930, .iadd, 1), (2931, .iaload, 1), (2932, .invokevirtual 308, 3)]
set_option maxRecDepth 100000 in
theorem xi_ok0_223 : xi_ok code xi_0_223 = true := by decide +kernel
def xi_0_224 : XIs := [(2935, .istore 6, 2), (2937, .aload_n 2, 1), (2938, .invokevirtual 151, 3), (2941, .iload 5, 2)]
set_option maxRecDepth 100000 in
theorem xi_ok0_224 : xi_ok code xi_0_224 = true := by decide +kernel
def xi_0_225 : XIs := [(2943, .if_icmp .eq 5, 3), (2948, .iload 5, 2), (2950, .ifCond .ne 15, 3), (2953, .aload_n 3, 1)]
set_option maxRecDepth 100000 in
theorem xi_ok0_225 : xi_ok code xi_0_225 = true := by decide +kernel
def xi_0_226 : XIs := [(2954, .iconst 0, 1), (2955, .laload, 1), (2956, .iload 6, 2), (2958, .i2l, 1)]
set_option maxRecDepth 100000 in
theorem xi_ok0_226 : xi_ok code xi_0_226 = true := by decide +kernel
def xi_0_227 : XIs := [(2959, .lcmp, 1), (2960, .ifCond .eq 5, 3), (2965, .goto 3, 3), (2968, .iinc 4 6, 3)]
set_option maxRecDepth 100000 in
theorem xi_ok0_227 : xi_ok code xi_0_227 = true := by decide +kernel
def xi_0_228 : XIs := [(2971, .goto (-2948), 3), (2974, .iconst 1, 1), (2975, .ireturn, 1)]
set_option maxRecDepth 100000 in
theorem xi_ok0_228 : xi_ok code xi_0_228 = true := by decide +kernel
def xi_0 (pc : Nat) : XIs := cond (Nat.blt pc 2040) (cond (Nat.blt pc 1383) (cond (Nat.blt pc 909) (cond (Nat.blt pc 610) (cond (Nat.blt pc 371) (cond (Nat.blt pc 285) (cond (Nat.blt pc 27) (xi_0_0) (cond (Nat.blt pc 252) (xi_0_1) (xi_0_2))) (cond (Nat.blt pc 329) (cond (Nat.blt pc 310) (xi_0_3) (xi_0_4)) (cond (Nat.blt pc 350) (xi_0_5) (xi_0_6)))) (cond (Nat.blt pc 479) (cond (Nat.blt pc 415) (xi_0_7) (cond (Nat.blt pc 460) (xi_0_8) (xi_0_9))) (cond (Nat.blt pc 545) (cond (Nat.blt pc 501) (xi_0_10) (xi_0_11)) (cond (Nat.blt pc 566) (xi_0_12) (xi_0_13))))) (cond (Nat.blt pc 770) (cond (Nat.blt pc 688) (cond (Nat.blt pc 633) (xi_0_14) (cond (Nat.blt pc 664) (xi_0_15) (xi_0_16))) (cond (Nat.blt pc 737) (cond (Nat.blt pc 713) (xi_0_17) (xi_0_18)) (cond (Nat.blt pc 753) (xi_0_19) (xi_0_20)))) (cond (Nat.blt pc 836) (cond (Nat.blt pc 797) (xi_0_21) (cond (Nat.blt pc 814) (xi_0_22) (xi_0_23))) (cond (Nat.blt pc 881) (cond (Nat.blt pc 866) (xi_0_24) (xi_0_25)) (cond (Nat.blt pc 893) (xi_0_26) (xi_0_27)))))) (cond (Nat.blt pc 1168) (cond (Nat.blt pc 1049) (cond (Nat.blt pc 979) (cond (Nat.blt pc 942) (xi_0_28) (cond (Nat.blt pc 956) (xi_0_29) (xi_0_30))) (cond (Nat.blt pc 1020) (cond (Nat.blt pc 997) (xi_0_31) (xi_0_32)) (cond (Nat.blt pc 1033) (xi_0_33) (xi_0_34)))) (cond (Nat.blt pc 1102) (cond (Nat.blt pc 1066) (xi_0_35) (cond (Nat.blt pc 1089) (xi_0_36) (xi_0_37))) (cond (Nat.blt pc 1147) (cond (Nat.blt pc 1116) (xi_0_38) (xi_0_39)) (cond (Nat.blt pc 1156) (xi_0_40) (xi_0_41))))) (cond (Nat.blt pc 1270) (cond (Nat.blt pc 1221) (cond (Nat.blt pc 1180) (xi_0_42) (cond (Nat.blt pc 1211) (xi_0_43) (xi_0_44))) (cond (Nat.blt pc 1242) (cond (Nat.blt pc 1230) (xi_0_45) (xi_0_46)) (cond (Nat.blt pc 1252) (xi_0_47) (xi_0_48)))) (cond (Nat.blt pc 1322) (cond (Nat.blt pc 1303) (cond (Nat.blt pc 1295) (xi_0_49) (xi_0_50)) (cond (Nat.blt pc 1314) (xi_0_51) (xi_0_52))) (cond (Nat.blt pc 1364) (cond (Nat.blt pc 1340) (xi_0_53) (xi_0_54)) (cond (Nat.blt pc 1372) (xi_0_55) (xi_0_56))))))) (cond (Nat.blt pc 1755) (cond (Nat.blt pc 1548) (cond (Nat.blt pc 1469) (cond (Nat.blt pc 1433) (cond (Nat.blt pc 1393) (xi_0_57) (cond (Nat.blt pc 1423) (xi_0_58) (xi_0_59))) (cond (Nat.blt pc 1450) (cond (Nat.blt pc 1442) (xi_0_60) (xi_0_61)) (cond (Nat.blt pc 1461) (xi_0_62) (xi_0_63)))) (cond (Nat.blt pc 1515) (cond (Nat.blt pc 1477) (xi_0_64) (cond (Nat.blt pc 1487) (xi_0_65) (xi_0_66))) (cond (Nat.blt pc 1531) (cond (Nat.blt pc 1524) (xi_0_67) (xi_0_68)) (cond (Nat.blt pc 1541) (xi_0_69) (xi_0_70))))) (cond (Nat.blt pc 1657) (cond (Nat.blt pc 1594) (cond (Nat.blt pc 1559) (xi_0_71) (cond (Nat.blt pc 1587) (xi_0_72) (xi_0_73))) (cond (Nat.blt pc 1615) (cond (Nat.blt pc 1604) (xi_0_74) (xi_0_75)) (cond (Nat.blt pc 1650) (xi_0_76) (xi_0_77)))) (cond (Nat.blt pc 1713) (cond (Nat.blt pc 1667) (xi_0_78) (cond (Nat.blt pc 1678) (xi_0_79) (xi_0_80))) (cond (Nat.blt pc 1730) (cond (Nat.blt pc 1720) (xi_0_81) (xi_0_82)) (cond (Nat.blt pc 1741) (xi_0_83) (xi_0_84)))))) (cond (Nat.blt pc 1897) (cond (Nat.blt pc 1835) (cond (Nat.blt pc 1785) (cond (Nat.blt pc 1768) (xi_0_85) (cond (Nat.blt pc 1775) (xi_0_86) (xi_0_87))) (cond (Nat.blt pc 1806) (cond (Nat.blt pc 1793) (xi_0_88) (xi_0_89)) (cond (Nat.blt pc 1828) (xi_0_90) (xi_0_91)))) (cond (Nat.blt pc 1865) (cond (Nat.blt pc 1842) (xi_0_92) (cond (Nat.blt pc 1850) (xi_0_93) (xi_0_94))) (cond (Nat.blt pc 1882) (cond (Nat.blt pc 1871) (xi_0_95) (xi_0_96)) (cond (Nat.blt pc 1888) (xi_0_97) (xi_0_98))))) (cond (Nat.blt pc 1966) (cond (Nat.blt pc 1940) (cond (Nat.blt pc 1905) (xi_0_99) (cond (Nat.blt pc 1918) (xi_0_100) (xi_0_101))) (cond (Nat.blt pc 1953) (cond (Nat.blt pc 1946) (xi_0_102) (xi_0_103)) (cond (Nat.blt pc 1960) (xi_0_104) (xi_0_105)))) (cond (Nat.blt pc 2014) (cond (Nat.blt pc 2000) (cond (Nat.blt pc 1974) (xi_0_106) (xi_0_107)) (cond (Nat.blt pc 2008) (xi_0_108) (xi_0_109))) (cond (Nat.blt pc 2028) (cond (Nat.blt pc 2020) (xi_0_110) (xi_0_111)) (cond (Nat.blt pc 2034) (xi_0_112) (xi_0_113)))))))) (cond (Nat.blt pc 2539) (cond (Nat.blt pc 2305) (cond (Nat.blt pc 2184) (cond (Nat.blt pc 2116) (cond (Nat.blt pc 2090) (cond (Nat.blt pc 2046) (xi_0_114) (cond (Nat.blt pc 2056) (xi_0_115) (xi_0_116))) (cond (Nat.blt pc 2102) (cond (Nat.blt pc 2096) (xi_0_117) (xi_0_118)) (cond (Nat.blt pc 2108) (xi_0_119) (xi_0_120)))) (cond (Nat.blt pc 2134) (cond (Nat.blt pc 2122) (xi_0_121) (cond (Nat.blt pc 2128) (xi_0_122) (xi_0_123))) (cond (Nat.blt pc 2170) (cond (Nat.blt pc 2145) (xi_0_124) (xi_0_125)) (cond (Nat.blt pc 2176) (xi_0_126) (xi_0_127))))) (cond (Nat.blt pc 2243) (cond (Nat.blt pc 2213) (cond (Nat.blt pc 2192) (xi_0_128) (cond (Nat.blt pc 2205) (xi_0_129) (xi_0_130))) (cond (Nat.blt pc 2231) (cond (Nat.blt pc 2225) (xi_0_131) (xi_0_132)) (cond (Nat.blt pc 2238) (xi_0_133) (xi_0_134)))) (cond (Nat.blt pc 2281) (cond (Nat.blt pc 2250) (xi_0_135) (cond (Nat.blt pc 2262) (xi_0_136) (xi_0_137))) (cond (Nat.blt pc 2293) (cond (Nat.blt pc 2286) (xi_0_138) (xi_0_139)) (cond (Nat.blt pc 2298) (xi_0_140) (xi_0_141)))))) (cond (Nat.blt pc 2435) (cond (Nat.blt pc 2378) (cond (Nat.blt pc 2356) (cond (Nat.blt pc 2317) (xi_0_142) (cond (Nat.blt pc 2346) (xi_0_143) (xi_0_144))) (cond (Nat.blt pc 2366) (cond (Nat.blt pc 2361) (xi_0_145) (xi_0_146)) (cond (Nat.blt pc 2372) (xi_0_147) (xi_0_148)))) (cond (Nat.blt pc 2396) (cond (Nat.blt pc 2382) (xi_0_149) (cond (Nat.blt pc 2387) (xi_0_150) (xi_0_151))) (cond (Nat.blt pc 2426) (cond (Nat.blt pc 2419) (xi_0_152) (xi_0_153)) (cond (Nat.blt pc 2430) (xi_0_154) (xi_0_155))))) (cond (Nat.blt pc 2471) (cond (Nat.blt pc 2451) (cond (Nat.blt pc 2440) (xi_0_156) (cond (Nat.blt pc 2445) (xi_0_157) (xi_0_158))) (cond (Nat.blt pc 2461) (cond (Nat.blt pc 2457) (xi_0_159) (xi_0_160)) (cond (Nat.blt pc 2466) (xi_0_161) (xi_0_162)))) (cond (Nat.blt pc 2515) (cond (Nat.blt pc 2483) (cond (Nat.blt pc 2476) (xi_0_163) (xi_0_164)) (cond (Nat.blt pc 2494) (xi_0_165) (xi_0_166))) (cond (Nat.blt pc 2527) (cond (Nat.blt pc 2520) (xi_0_167) (xi_0_168)) (cond (Nat.blt pc 2532) (xi_0_169) (xi_0_170))))))) (cond (Nat.blt pc 2768) (cond (Nat.blt pc 2662) (cond (Nat.blt pc 2604) (cond (Nat.blt pc 2579) (cond (Nat.blt pc 2550) (xi_0_171) (cond (Nat.blt pc 2571) (xi_0_172) (xi_0_173))) (cond (Nat.blt pc 2592) (cond (Nat.blt pc 2588) (xi_0_174) (xi_0_175)) (cond (Nat.blt pc 2599) (xi_0_176) (xi_0_177)))) (cond (Nat.blt pc 2630) (cond (Nat.blt pc 2613) (xi_0_178) (cond (Nat.blt pc 2625) (xi_0_179) (xi_0_180))) (cond (Nat.blt pc 2652) (cond (Nat.blt pc 2640) (xi_0_181) (xi_0_182)) (cond (Nat.blt pc 2657) (xi_0_183) (xi_0_184))))) (cond (Nat.blt pc 2724) (cond (Nat.blt pc 2678) (cond (Nat.blt pc 2666) (xi_0_185) (cond (Nat.blt pc 2673) (xi_0_186) (xi_0_187))) (cond (Nat.blt pc 2690) (cond (Nat.blt pc 2683) (xi_0_188) (xi_0_189)) (cond (Nat.blt pc 2702) (xi_0_190) (xi_0_191)))) (cond (Nat.blt pc 2749) (cond (Nat.blt pc 2739) (cond (Nat.blt pc 2734) (xi_0_192) (xi_0_193)) (cond (Nat.blt pc 2744) (xi_0_194) (xi_0_195))) (cond (Nat.blt pc 2758) (cond (Nat.blt pc 2753) (xi_0_196) (xi_0_197)) (cond (Nat.blt pc 2763) (xi_0_198) (xi_0_199)))))) (cond (Nat.blt pc 2857) (cond (Nat.blt pc 2805) (cond (Nat.blt pc 2786) (cond (Nat.blt pc 2774) (xi_0_200) (cond (Nat.blt pc 2781) (xi_0_201) (xi_0_202))) (cond (Nat.blt pc 2796) (cond (Nat.blt pc 2791) (xi_0_203) (xi_0_204)) (cond (Nat.blt pc 2800) (xi_0_205) (xi_0_206)))) (cond (Nat.blt pc 2821) (cond (Nat.blt pc 2810) (xi_0_207) (cond (Nat.blt pc 2815) (xi_0_208) (xi_0_209))) (cond (Nat.blt pc 2842) (cond (Nat.blt pc 2830) (xi_0_210) (xi_0_211)) (cond (Nat.blt pc 2847) (xi_0_212) (xi_0_213))))) (cond (Nat.blt pc 2917) (cond (Nat.blt pc 2874) (cond (Nat.blt pc 2862) (xi_0_214) (cond (Nat.blt pc 2868) (xi_0_215) (xi_0_216))) (cond (Nat.blt pc 2888) (cond (Nat.blt pc 2880) (xi_0_217) (xi_0_218)) (cond (Nat.blt pc 2912) (xi_0_219) (xi_0_220)))) (cond (Nat.blt pc 2943) (cond (Nat.blt pc 2929) (cond (Nat.blt pc 2923) (xi_0_221) (xi_0_222)) (cond (Nat.blt pc 2935) (xi_0_223) (xi_0_224))) (cond (Nat.blt pc 2959) (cond (Nat.blt pc 2954) (xi_0_225) (xi_0_226)) (cond (Nat.blt pc 2971) (xi_0_227) (xi_0_228))))))))
theorem xi_ok0 (pc : Nat) : xi_ok code (xi_0 pc) = true := xi_c (xi_c (xi_c (xi_c (xi_c (xi_c (xi_c (xi_ok0_0) (xi_c (xi_ok0_1) (xi_ok0_2))) (xi_c (xi_c (xi_ok0_3) (xi_ok0_4)) (xi_c (xi_ok0_5) (xi_ok0_6)))) (xi_c (xi_c (xi_ok0_7) (xi_c (xi_ok0_8) (xi_ok0_9))) (xi_c (xi_c (xi_ok0_10) (xi_ok0_11)) (xi_c (xi_ok0_12) (xi_ok0_13))))) (xi_c (xi_c (xi_c (xi_ok0_14) (xi_c (xi_ok0_15) (xi_ok0_16))) (xi_c (xi_c (xi_ok0_17) (xi_ok0_18)) (xi_c (xi_ok0_19) (xi_ok0_20)))) (xi_c (xi_c (xi_ok0_21) (xi_c (xi_ok0_22) (xi_ok0_23))) (xi_c (xi_c (xi_ok0_24) (xi_ok0_25)) (xi_c (xi_ok0_26) (xi_ok0_27)))))) (xi_c (xi_c (xi_c (xi_c (xi_ok0_28) (xi_c (xi_ok0_29) (xi_ok0_30))) (xi_c (xi_c (xi_ok0_31) (xi_ok0_32)) (xi_c (xi_ok0_33) (xi_ok0_34)))) (xi_c (xi_c (xi_ok0_35) (xi_c (xi_ok0_36) (xi_ok0_37))) (xi_c (xi_c (xi_ok0_38) (xi_ok0_39)) (xi_c (xi_ok0_40) (xi_ok0_41))))) (xi_c (xi_c (xi_c (xi_ok0_42) (xi_c (xi_ok0_43) (xi_ok0_44))) (xi_c (xi_c (xi_ok0_45) (xi_ok0_46)) (xi_c (xi_ok0_47) (xi_ok0_48)))) (xi_c (xi_c (xi_c (xi_ok0_49) (xi_ok0_50)) (xi_c (xi_ok0_51) (xi_ok0_52))) (xi_c (xi_c (xi_ok0_53) (xi_ok0_54)) (xi_c (xi_ok0_55) (xi_ok0_56))))))) (xi_c (xi_c (xi_c (xi_c (xi_c (xi_ok0_57) (xi_c (xi_ok0_58) (xi_ok0_59))) (xi_c (xi_c (xi_ok0_60) (xi_ok0_61)) (xi_c (xi_ok0_62) (xi_ok0_63)))) (xi_c (xi_c (xi_ok0_64) (xi_c (xi_ok0_65) (xi_ok0_66))) (xi_c (xi_c (xi_ok0_67) (xi_ok0_68)) (xi_c (xi_ok0_69) (xi_ok0_70))))) (xi_c (xi_c (xi_c (xi_ok0_71) (xi_c (xi_ok0_72) (xi_ok0_73))) (xi_c (xi_c (xi_ok0_74) (xi_ok0_75)) (xi_c (xi_ok0_76) (xi_ok0_77)))) (xi_c (xi_c (xi_ok0_78) (xi_c (xi_ok0_79) (xi_ok0_80))) (xi_c (xi_c (xi_ok0_81) (xi_ok0_82)) (xi_c (xi_ok0_83) (xi_ok0_84)))))) (xi_c (xi_c (xi_c (xi_c (xi_ok0_85) (xi_c (xi_ok0_86) (xi_ok0_87))) (xi_c (xi_c (xi_ok0_88) (xi_ok0_89)) (xi_c (xi_ok0_90) (xi_ok0_91)))) (xi_c (xi_c (xi_ok0_92) (xi_c (xi_ok0_93) (xi_ok0_94))) (xi_c (xi_c (xi_ok0_95) (xi_ok0_96)) (xi_c (xi_ok0_97) (xi_ok0_98))))) (xi_c (xi_c (xi_c (xi_ok0_99) (xi_c (xi_ok0_100) (xi_ok0_101))) (xi_c (xi_c (xi_ok0_102) (xi_ok0_103)) (xi_c (xi_ok0_104) (xi_ok0_105)))) (xi_c (xi_c (xi_c (xi_ok0_106) (xi_ok0_107)) (xi_c (xi_ok0_108) (xi_ok0_109))) (xi_c (xi_c (xi_ok0_110) (xi_ok0_111)) (xi_c (xi_ok0_112) (xi_ok0_113)))))))) (xi_c (xi_c (xi_c (xi_c (xi_c (xi_c (xi_ok0_114) (xi_c (xi_ok0_115) (xi_ok0_116))) (xi_c (xi_c (xi_ok0_117) (xi_ok0_118)) (xi_c (xi_ok0_119) (xi_ok0_120)))) (xi_c (xi_c (xi_ok0_121) (xi_c (xi_ok0_122) (xi_ok0_123))) (xi_c (xi_c (xi_ok0_124) (xi_ok0_125)) (xi_c (xi_ok0_126) (xi_ok0_127))))) (xi_c (xi_c (xi_c (xi_ok0_128) (xi_c (xi_ok0_129) (xi_ok0_130))) (xi_c (xi_c (xi_ok0_131) (xi_ok0_132)) (xi_c (xi_ok0_133) (xi_ok0_134)))) (xi_c (xi_c (xi_ok0_135) (xi_c (xi_ok0_136) (xi_ok0_137))) (xi_c (xi_c (xi_ok0_138) (xi_ok0_139)) (xi_c (xi_ok0_140) (xi_ok0_141)))))) (xi_c (xi_c (xi_c (xi_c (xi_ok0_142) (xi_c (xi_ok0_143) (xi_ok0_144))) (xi_c (xi_c (xi_ok0_145) (xi_ok0_146)) (xi_c (xi_ok0_147) (xi_ok0_148)))) (xi_c (xi_c (xi_ok0_149) (xi_c (xi_ok0_150) (xi_ok0_151))) (xi_c (xi_c (xi_ok0_152) (xi_ok0_153)) (xi_c (xi_ok0_154) (xi_ok0_155))))) (xi_c (xi_c (xi_c (xi_ok0_156) (xi_c (xi_ok0_157) (xi_ok0_158))) (xi_c (xi_c (xi_ok0_159) (xi_ok0_160)) (xi_c (xi_ok0_161) (xi_ok0_162)))) (xi_c (xi_c (xi_c (xi_ok0_163) (xi_ok0_164)) (xi_c (xi_ok0_165) (xi_ok0_166))) (xi_c (xi_c (xi_ok0_167) (xi_ok0_168)) (xi_c (xi_ok0_169) (xi_ok0_170))))))) (xi_c (xi_c (xi_c (xi_c (xi_c (xi_ok0_171) (xi_c (xi_ok0_172) (xi_ok0_173))) (xi_c (xi_c (xi_ok0_174) (xi_ok0_175)) (xi_c (xi_ok0_176) (xi_ok0_177)))) (xi_c (xi_c (xi_ok0_178) (xi_c (xi_ok0_179) (xi_ok0_180))) (xi_c (xi_c (xi_ok0_181) (xi_ok0_182)) (xi_c (xi_ok0_183) (xi_ok0_184))))) (xi_c (xi_c (xi_c (xi_ok0_185) (xi_c (xi_ok0_186) (xi_ok0_187))) (xi_c (xi_c (xi_ok0_188) (xi_ok0_189)) (xi_c (xi_ok0_190) (xi_ok0_191)))) (xi_c (xi_c (xi_c (xi_ok0_192) (xi_ok0_193)) (xi_c (xi_ok0_194) (xi_ok0_195))) (xi_c (xi_c (xi_ok0_196) (xi_ok0_197)) (xi_c (xi_ok0_198) (xi_ok0_199)))))) (xi_c (xi_c (xi_c (xi_c (xi_ok0_200) (xi_c (xi_ok0_201) (xi_ok0_202))) (xi_c (xi_c (xi_ok0_203) (xi_ok0_204)) (xi_c (xi_ok0_205) (xi_ok0_206)))) (xi_c (xi_c (xi_ok0_207) (xi_c (xi_ok0_208) (xi_ok0_209))) (xi_c (xi_c (xi_ok0_210) (xi_ok0_211)) (xi_c (xi_ok0_212) (xi_ok0_213))))) (xi_c (xi_c (xi_c (xi_ok0_214) (xi_c (xi_ok0_215) (xi_ok0_216))) (xi_c (xi_c (xi_ok0_217) (xi_ok0_218)) (xi_c (xi_ok0_219) (xi_ok0_220)))) (xi_c (xi_c (xi_c (xi_ok0_221) (xi_ok0_222)) (xi_c (xi_ok0_223) (xi_ok0_224))) (xi_c (xi_c (xi_ok0_225) (xi_ok0_226)) (xi_c (xi_ok0_227) (xi_ok0_228))))))))
def xi_1_0 : XIs := [(0, .aload_n 2, 1), (1, .iconst 0, 1), (2, .aload_n 0, 1), (3, .iload_n 1, 1), (4, .invokevirtual 7, 3), (7, .i2l, 1), (8, .lastore, 1), (9, .goto 9, 3), (12, .astore_n 3, 1), (13, .iconst 1, 1), (14, .ireturn, 1), (18, .iconst 0, 1), (19, .ireturn, 1)]
set_option maxRecDepth 100000 in
theorem xi_ok1_0 : xi_ok cL_node xi_1_0 = true := by decide +kernel
def xi_1 (pc : Nat) : XIs := xi_1_0
theorem xi_ok1 (pc : Nat) : xi_ok cL_node (xi_1 pc) = true := xi_ok1_0
def xi_2_0 : XIs := [(0, .aload 6, 2), (2, .iconst 0, 1), (3, .aload_n 0, 1), (4, .iload_n 1, 1), (5, .iload_n 2, 1), (6, .iload_n 3, 1), (7, .iload 4, 2), (9, .iload 5, 2), (11, .invokevirtual 17, 3), (19, .astore 7, 2), (21, .iconst 1, 1), (22, .ireturn, 1)]
set_option maxRecDepth 100000 in
theorem xi_ok2_0 : xi_ok cL_arc xi_2_0 = true := by decide +kernel
def xi_2 (pc : Nat) : XIs := xi_2_0
theorem xi_ok2 (pc : Nat) : xi_ok cL_arc (xi_2 pc) = true := xi_ok2_0
def xi_3_0 : XIs := [(0, .aload_n 2, 1), (1, .iconst 0, 1), (2, .aload_n 0, 1), (3, .iload_n 1, 1), (4, .invokevirtual 21, 3), (12, .astore_n 3, 1), (13, .iconst 1, 1), (14, .ireturn, 1)]
set_option maxRecDepth 100000 in
theorem xi_ok3_0 : xi_ok cL_take xi_3_0 = true := by decide +kernel
def xi_3 (pc : Nat) : XIs := xi_3_0
theorem xi_ok3 (pc : Nat) : xi_ok cL_take (xi_3 pc) = true := xi_ok3_0
def xi_4_0 : XIs := [(0, .aload 4, 2), (2, .iconst 0, 1), (3, .aload_n 0, 1), (4, .iload_n 1, 1), (5, .iload_n 2, 1), (6, .iload_n 3, 1), (7, .invokevirtual 24, 3), (15, .astore 5, 2), (17, .iconst 1, 1), (18, .ireturn, 1)]
set_option maxRecDepth 100000 in
theorem xi_ok4_0 : xi_ok cL_set xi_4_0 = true := by decide +kernel
def xi_4 (pc : Nat) : XIs := xi_4_0
theorem xi_ok4 (pc : Nat) : xi_ok cL_set (xi_4 pc) = true := xi_ok4_0
def xi_5_0 : XIs := [(0, .aload_n 3, 1), (1, .iconst 0, 1), (2, .aload_n 0, 1), (3, .iload_n 1, 1), (4, .iload_n 2, 1), (5, .invokevirtual 28, 3), (13, .astore 4, 2), (15, .iconst 1, 1), (16, .ireturn, 1)]
set_option maxRecDepth 100000 in
theorem xi_ok5_0 : xi_ok cL_label xi_5_0 = true := by decide +kernel
def xi_5 (pc : Nat) : XIs := xi_5_0
theorem xi_ok5 (pc : Nat) : xi_ok cL_label (xi_5 pc) = true := xi_ok5_0
def xi_6_0 : XIs := [(0, .aload_n 2, 1), (1, .iconst 0, 1), (2, .aload_n 0, 1), (3, .iload_n 1, 1), (4, .invokevirtual 32, 3), (7, .i2l, 1), (8, .lastore, 1), (9, .goto 6, 3), (12, .astore_n 3, 1), (13, .iconst 1, 1), (14, .ireturn, 1), (15, .iconst 0, 1), (16, .ireturn, 1)]
set_option maxRecDepth 100000 in
theorem xi_ok6_0 : xi_ok cL_view xi_6_0 = true := by decide +kernel
def xi_6 (pc : Nat) : XIs := xi_6_0
theorem xi_ok6 (pc : Nat) : xi_ok cL_view (xi_6 pc) = true := xi_ok6_0
def xi_7_0 : XIs := [(0, .aload_n 2, 1), (1, .iconst 0, 1), (2, .aload_n 0, 1), (3, .iload_n 1, 1), (4, .invokevirtual 35, 3), (7, .i2l, 1), (8, .lastore, 1), (9, .goto 6, 3), (12, .astore_n 3, 1), (13, .iconst 1, 1), (14, .ireturn, 1), (15, .iconst 0, 1), (16, .ireturn, 1)]
set_option maxRecDepth 100000 in
theorem xi_ok7_0 : xi_ok cL_size xi_7_0 = true := by decide +kernel
def xi_7 (pc : Nat) : XIs := xi_7_0
theorem xi_ok7 (pc : Nat) : xi_ok cL_size (xi_7 pc) = true := xi_ok7_0
def xi_8_0 : XIs := [(0, .aload_n 3, 1), (1, .iconst 0, 1), (2, .aload_n 0, 1), (3, .iload_n 1, 1), (4, .iload_n 2, 1), (5, .invokevirtual 38, 3), (8, .lastore, 1), (9, .goto 7, 3), (12, .astore 4, 2), (14, .iconst 1, 1), (15, .ireturn, 1), (16, .iconst 0, 1), (17, .ireturn, 1)]
set_option maxRecDepth 100000 in
theorem xi_ok8_0 : xi_ok cL_told xi_8_0 = true := by decide +kernel
def xi_8 (pc : Nat) : XIs := xi_8_0
theorem xi_ok8 (pc : Nat) : xi_ok cL_told (xi_8 pc) = true := xi_ok8_0
def xi_9_0 : XIs := [(0, .aload_n 2, 1), (1, .iconst 0, 1), (2, .aload_n 0, 1), (3, .iload_n 1, 1), (4, .invokevirtual 42, 3), (12, .astore_n 3, 1), (13, .iconst 1, 1), (14, .ireturn, 1)]
set_option maxRecDepth 100000 in
theorem xi_ok9_0 : xi_ok cL_labelOf xi_9_0 = true := by decide +kernel
def xi_9 (pc : Nat) : XIs := xi_9_0
theorem xi_ok9 (pc : Nat) : xi_ok cL_labelOf (xi_9 pc) = true := xi_ok9_0
def xi_10_0 : XIs := [(0, .aload 4, 2), (2, .iconst 0, 1), (3, .aload_n 0, 1), (4, .iload_n 1, 1), (5, .iload_n 2, 1), (6, .iload_n 3, 1), (7, .invokevirtual 45, 3), (15, .astore 5, 2), (17, .iconst 1, 1), (18, .ireturn, 1)]
set_option maxRecDepth 100000 in
theorem xi_ok10_0 : xi_ok cL_arcAt xi_10_0 = true := by decide +kernel
def xi_10 (pc : Nat) : XIs := xi_10_0
theorem xi_ok10 (pc : Nat) : xi_ok cL_arcAt (xi_10 pc) = true := xi_ok10_0
def xi_11_0 : XIs := [(0, .aload_n 2, 1), (1, .iconst 0, 1), (2, .aload_n 0, 1), (3, .iload_n 1, 1), (4, .invokevirtual 48, 3), (7, .i2l, 1), (8, .lastore, 1), (9, .goto 9, 3), (12, .astore_n 3, 1), (13, .iconst 1, 1), (14, .ireturn, 1), (18, .iconst 0, 1), (19, .ireturn, 1)]
set_option maxRecDepth 100000 in
theorem xi_ok11_0 : xi_ok cL_type xi_11_0 = true := by decide +kernel
def xi_11 (pc : Nat) : XIs := xi_11_0
theorem xi_ok11 (pc : Nat) : xi_ok cL_type (xi_11 pc) = true := xi_ok11_0
def xi_12_0 : XIs := [(0, .aload_n 2, 1), (1, .iconst 0, 1), (2, .aload_n 0, 1), (3, .iload_n 1, 1), (4, .invokevirtual 51, 3), (7, .i2l, 1), (8, .lastore, 1), (9, .goto 6, 3), (12, .astore_n 3, 1), (13, .iconst 1, 1), (14, .ireturn, 1), (15, .iconst 0, 1), (16, .ireturn, 1)]
set_option maxRecDepth 100000 in
theorem xi_ok12_0 : xi_ok cL_fault xi_12_0 = true := by decide +kernel
def xi_12 (pc : Nat) : XIs := xi_12_0
theorem xi_ok12 (pc : Nat) : xi_ok cL_fault (xi_12 pc) = true := xi_ok12_0
def xi_13_0 : XIs := [(0, .aload_n 2, 1), (1, .iconst 0, 1), (2, .aload_n 0, 1), (3, .iload_n 1, 1), (4, .invokevirtual 54, 3), (12, .astore_n 3, 1), (13, .iconst 1, 1), (14, .ireturn, 1)]
set_option maxRecDepth 100000 in
theorem xi_ok13_0 : xi_ok cL_printed xi_13_0 = true := by decide +kernel
def xi_13 (pc : Nat) : XIs := xi_13_0
theorem xi_ok13 (pc : Nat) : xi_ok cL_printed (xi_13 pc) = true := xi_ok13_0
def xi_14_0 : XIs := [(0, .aload_n 3, 1), (1, .iconst 0, 1), (2, .aload_n 0, 1), (3, .iload_n 1, 1), (4, .iload_n 2, 1), (5, .invokevirtual 57, 3), (12, .astore 4, 2), (14, .iconst 1, 1), (15, .ireturn, 1)]
set_option maxRecDepth 100000 in
theorem xi_ok14_0 : xi_ok cL_distance xi_14_0 = true := by decide +kernel
def xi_14 (pc : Nat) : XIs := xi_14_0
theorem xi_ok14 (pc : Nat) : xi_ok cL_distance (xi_14 pc) = true := xi_ok14_0
def xi_15_0 : XIs := [(0, .aload 4, 2), (2, .iconst 0, 1), (3, .aload_n 0, 1), (4, .iload_n 1, 1), (5, .iload_n 2, 1), (6, .iload_n 3, 1), (7, .invokevirtual 60, 3), (15, .astore 5, 2), (17, .iconst 1, 1), (18, .ireturn, 1)]
set_option maxRecDepth 100000 in
theorem xi_ok15_0 : xi_ok cL_way xi_15_0 = true := by decide +kernel
def xi_15 (pc : Nat) : XIs := xi_15_0
theorem xi_ok15 (pc : Nat) : xi_ok cL_way (xi_15 pc) = true := xi_ok15_0
def xi_16_0 : XIs := [(0, .aload_n 3, 1), (1, .iconst 0, 1), (2, .aload_n 0, 1), (3, .iload_n 1, 1), (4, .iload_n 2, 1), (5, .invokevirtual 63, 3), (13, .astore 4, 2), (15, .iconst 1, 1), (16, .ireturn, 1)]
set_option maxRecDepth 100000 in
theorem xi_ok16_0 : xi_ok cL_width xi_16_0 = true := by decide +kernel
def xi_16 (pc : Nat) : XIs := xi_16_0
theorem xi_ok16 (pc : Nat) : xi_ok cL_width (xi_16 pc) = true := xi_ok16_0
def xi_17_0 : XIs := [(0, .aload_n 3, 1), (1, .iconst 0, 1), (2, .aload_n 0, 1), (3, .iload_n 1, 1), (4, .iload_n 2, 1), (5, .invokevirtual 66, 3), (13, .astore 4, 2), (15, .iconst 1, 1), (16, .ireturn, 1)]
set_option maxRecDepth 100000 in
theorem xi_ok17_0 : xi_ok cL_shorts xi_17_0 = true := by decide +kernel
def xi_17 (pc : Nat) : XIs := xi_17_0
theorem xi_ok17 (pc : Nat) : xi_ok cL_shorts (xi_17 pc) = true := xi_ok17_0
def xi_18_0 : XIs := [(0, .aload 5, 2), (2, .iconst 0, 1), (3, .aload_n 0, 1), (4, .iload_n 1, 1), (5, .iload_n 2, 1), (6, .iload_n 3, 1), (7, .iload 4, 2), (9, .invokevirtual 69, 3), (17, .astore 6, 2), (19, .iconst 1, 1), (20, .ireturn, 1)]
set_option maxRecDepth 100000 in
theorem xi_ok18_0 : xi_ok cL_shortArc xi_18_0 = true := by decide +kernel
def xi_18 (pc : Nat) : XIs := xi_18_0
theorem xi_ok18 (pc : Nat) : xi_ok cL_shortArc (xi_18 pc) = true := xi_ok18_0
def xi_19_0 : XIs := [(0, .aload_n 3, 1), (1, .iconst 0, 1), (2, .aload_n 0, 1), (3, .iload_n 1, 1), (4, .iload_n 2, 1), (5, .invokevirtual 73, 3), (13, .astore 4, 2), (15, .iconst 1, 1), (16, .ireturn, 1)]
set_option maxRecDepth 100000 in
theorem xi_ok19_0 : xi_ok cL_part xi_19_0 = true := by decide +kernel
def xi_19 (pc : Nat) : XIs := xi_19_0
theorem xi_ok19 (pc : Nat) : xi_ok cL_part (xi_19 pc) = true := xi_ok19_0
def xi_20_0 : XIs := [(0, .aload_n 2, 1), (1, .iconst 0, 1), (2, .aload_n 0, 1), (3, .iload_n 1, 1), (4, .invokevirtual 76, 3), (19, .astore_n 3, 1), (20, .iconst 1, 1), (21, .ireturn, 1)]
set_option maxRecDepth 100000 in
theorem xi_ok20_0 : xi_ok cL_bridge xi_20_0 = true := by decide +kernel
def xi_20 (pc : Nat) : XIs := xi_20_0
theorem xi_ok20 (pc : Nat) : xi_ok cL_bridge (xi_20 pc) = true := xi_ok20_0
def xi_21_0 : XIs := [(0, .aload_n 2, 1), (1, .iconst 0, 1), (2, .aload_n 0, 1), (3, .iload_n 1, 1), (4, .invokevirtual 80, 3), (19, .astore_n 3, 1), (20, .iconst 1, 1), (21, .ireturn, 1)]
set_option maxRecDepth 100000 in
theorem xi_ok21_0 : xi_ok cL_cut xi_21_0 = true := by decide +kernel
def xi_21 (pc : Nat) : XIs := xi_21_0
theorem xi_ok21 (pc : Nat) : xi_ok cL_cut (xi_21 pc) = true := xi_ok21_0
def xi_22_0 : XIs := [(0, .aload_n 2, 1), (1, .iconst 0, 1), (2, .aload_n 0, 1), (3, .iload_n 1, 1), (4, .invokevirtual 83, 3), (7, .i2l, 1), (8, .lastore, 1), (9, .goto 6, 3), (12, .astore_n 3, 1), (13, .iconst 1, 1), (14, .ireturn, 1), (15, .iconst 0, 1), (16, .ireturn, 1)]
set_option maxRecDepth 100000 in
theorem xi_ok22_0 : xi_ok cL_order xi_22_0 = true := by decide +kernel
def xi_22 (pc : Nat) : XIs := xi_22_0
theorem xi_ok22 (pc : Nat) : xi_ok cL_order (xi_22 pc) = true := xi_ok22_0
def xi_23_0 : XIs := [(0, .aload_n 2, 1), (1, .iconst 0, 1), (2, .aload_n 0, 1), (3, .iload_n 1, 1), (4, .invokevirtual 86, 3), (12, .astore_n 3, 1), (13, .iconst 1, 1), (14, .ireturn, 1)]
set_option maxRecDepth 100000 in
theorem xi_ok23_0 : xi_ok cL_core xi_23_0 = true := by decide +kernel
def xi_23 (pc : Nat) : XIs := xi_23_0
theorem xi_ok23 (pc : Nat) : xi_ok cL_core (xi_23 pc) = true := xi_ok23_0
def xi_24_0 : XIs := [(0, .aload_n 2, 1), (1, .iconst 0, 1), (2, .aload_n 0, 1), (3, .iload_n 1, 1), (4, .invokevirtual 89, 3), (7, .i2l, 1), (8, .lastore, 1), (9, .goto 6, 3), (12, .astore_n 3, 1), (13, .iconst 1, 1), (14, .ireturn, 1), (15, .iconst 0, 1), (16, .ireturn, 1)]
set_option maxRecDepth 100000 in
theorem xi_ok24_0 : xi_ok cL_clique xi_24_0 = true := by decide +kernel
def xi_24 (pc : Nat) : XIs := xi_24_0
theorem xi_ok24 (pc : Nat) : xi_ok cL_clique (xi_24 pc) = true := xi_ok24_0
def xi_25_0 : XIs := [(0, .aload_n 2, 1), (1, .iconst 0, 1), (2, .aload_n 0, 1), (3, .iload_n 1, 1), (4, .invokevirtual 92, 3), (12, .astore_n 3, 1), (13, .iconst 1, 1), (14, .ireturn, 1)]
set_option maxRecDepth 100000 in
theorem xi_ok25_0 : xi_ok cL_colour xi_25_0 = true := by decide +kernel
def xi_25 (pc : Nat) : XIs := xi_25_0
theorem xi_ok25 (pc : Nat) : xi_ok cL_colour (xi_25 pc) = true := xi_ok25_0
def xi_26_0 : XIs := [(0, .aload_n 3, 1), (1, .iconst 0, 1), (2, .aload_n 0, 1), (3, .iload_n 1, 1), (4, .iload_n 2, 1), (5, .invokevirtual 95, 3), (12, .astore 4, 2), (14, .iconst 1, 1), (15, .ireturn, 1)]
set_option maxRecDepth 100000 in
theorem xi_ok26_0 : xi_ok cL_flow xi_26_0 = true := by decide +kernel
def xi_26 (pc : Nat) : XIs := xi_26_0
theorem xi_ok26 (pc : Nat) : xi_ok cL_flow (xi_26 pc) = true := xi_ok26_0
def xi_27_0 : XIs := [(0, .aload 4, 2), (2, .iconst 0, 1), (3, .aload_n 0, 1), (4, .iload_n 1, 1), (5, .iload_n 2, 1), (6, .iload_n 3, 1), (7, .invokevirtual 98, 3), (22, .astore 5, 2), (24, .iconst 1, 1), (25, .ireturn, 1)]
set_option maxRecDepth 100000 in
theorem xi_ok27_0 : xi_ok cL_side xi_27_0 = true := by decide +kernel
def xi_27 (pc : Nat) : XIs := xi_27_0
theorem xi_ok27 (pc : Nat) : xi_ok cL_side (xi_27 pc) = true := xi_ok27_0
def xi_28_0 : XIs := [(0, .aload 4, 2), (2, .iconst 0, 1), (3, .aload_n 0, 1), (4, .iload_n 1, 1), (5, .iload_n 2, 1), (6, .iload_n 3, 1), (7, .invokevirtual 102, 3), (14, .astore 5, 2), (16, .iconst 1, 1), (17, .ireturn, 1)]
set_option maxRecDepth 100000 in
theorem xi_ok28_0 : xi_ok cL_cost xi_28_0 = true := by decide +kernel
def xi_28 (pc : Nat) : XIs := xi_28_0
theorem xi_ok28 (pc : Nat) : xi_ok cL_cost (xi_28 pc) = true := xi_ok28_0
def xi_29_0 : XIs := [(0, .aload_n 2, 1), (1, .iconst 0, 1), (2, .aload_n 0, 1), (3, .iload_n 1, 1), (4, .invokevirtual 106, 3), (7, .lastore, 1), (8, .goto 6, 3), (11, .astore_n 3, 1), (12, .iconst 1, 1), (13, .ireturn, 1), (14, .iconst 0, 1), (15, .ireturn, 1)]
set_option maxRecDepth 100000 in
theorem xi_ok29_0 : xi_ok cL_pairing xi_29_0 = true := by decide +kernel
def xi_29 (pc : Nat) : XIs := xi_29_0
theorem xi_ok29 (pc : Nat) : xi_ok cL_pairing (xi_29 pc) = true := xi_ok29_0
def xi_30_0 : XIs := [(0, .aload_n 2, 1), (1, .iconst 0, 1), (2, .aload_n 0, 1), (3, .iload_n 1, 1), (4, .invokevirtual 110, 3), (11, .astore_n 3, 1), (12, .iconst 1, 1), (13, .ireturn, 1)]
set_option maxRecDepth 100000 in
theorem xi_ok30_0 : xi_ok cL_tree xi_30_0 = true := by decide +kernel
def xi_30 (pc : Nat) : XIs := xi_30_0
theorem xi_ok30 (pc : Nat) : xi_ok cL_tree (xi_30 pc) = true := xi_ok30_0
def xi_31_0 : XIs := [(0, .aload_n 2, 1), (1, .iconst 0, 1), (2, .aload_n 0, 1), (3, .iload_n 1, 1), (4, .invokevirtual 113, 3), (19, .astore_n 3, 1), (20, .iconst 1, 1), (21, .ireturn, 1)]
set_option maxRecDepth 100000 in
theorem xi_ok31_0 : xi_ok cL_span xi_31_0 = true := by decide +kernel
def xi_31 (pc : Nat) : XIs := xi_31_0
theorem xi_ok31 (pc : Nat) : xi_ok cL_span (xi_31 pc) = true := xi_ok31_0
def xi_32_0 : XIs := [(0, .aload_n 3, 1), (1, .iconst 0, 1), (2, .aload_n 0, 1), (3, .iload_n 1, 1), (4, .iload_n 2, 1), (5, .invokevirtual 116, 3), (12, .astore 4, 2), (14, .iconst 1, 1), (15, .ireturn, 1)]
set_option maxRecDepth 100000 in
theorem xi_ok32_0 : xi_ok cL_rank xi_32_0 = true := by decide +kernel
def xi_32 (pc : Nat) : XIs := xi_32_0
theorem xi_ok32 (pc : Nat) : xi_ok cL_rank (xi_32 pc) = true := xi_ok32_0
def xi_33_0 : XIs := [(0, .aload 5, 2), (2, .iconst 0, 1), (3, .aload_n 0, 1), (4, .iload_n 1, 1), (5, .iload_n 2, 1), (6, .iload_n 3, 1), (7, .iload 4, 2), (9, .invokevirtual 119, 3), (17, .astore 6, 2), (19, .iconst 1, 1), (20, .ireturn, 1)]
set_option maxRecDepth 100000 in
theorem xi_ok33_0 : xi_ok cL_shortest xi_33_0 = true := by decide +kernel
def xi_33 (pc : Nat) : XIs := xi_33_0
theorem xi_ok33 (pc : Nat) : xi_ok cL_shortest (xi_33 pc) = true := xi_ok33_0
def xi_34_0 : XIs := [(0, .aload_n 2, 1), (1, .iconst 0, 1), (2, .aload_n 0, 1), (3, .iload_n 1, 1), (4, .invokevirtual 122, 3), (12, .astore_n 3, 1), (13, .iconst 1, 1), (14, .ireturn, 1)]
set_option maxRecDepth 100000 in
theorem xi_ok34_0 : xi_ok cL_group xi_34_0 = true := by decide +kernel
def xi_34 (pc : Nat) : XIs := xi_34_0
theorem xi_ok34 (pc : Nat) : xi_ok cL_group (xi_34 pc) = true := xi_ok34_0
def xi_35_0 : XIs := [(0, .aload_n 2, 1), (1, .iconst 0, 1), (2, .aload_n 0, 1), (3, .iload_n 1, 1), (4, .invokevirtual 125, 3), (7, .lastore, 1), (8, .goto 6, 3), (11, .astore_n 3, 1), (12, .iconst 1, 1), (13, .ireturn, 1), (14, .iconst 0, 1), (15, .ireturn, 1)]
set_option maxRecDepth 100000 in
theorem xi_ok35_0 : xi_ok cL_figures xi_35_0 = true := by decide +kernel
def xi_35 (pc : Nat) : XIs := xi_35_0
theorem xi_ok35 (pc : Nat) : xi_ok cL_figures (xi_35 pc) = true := xi_ok35_0
def xi_36_0 : XIs := [(0, .aload_n 3, 1), (1, .iconst 0, 1), (2, .aload_n 0, 1), (3, .iload_n 1, 1), (4, .iload_n 2, 1), (5, .invokevirtual 128, 3), (13, .astore 4, 2), (15, .iconst 1, 1), (16, .ireturn, 1)]
set_option maxRecDepth 100000 in
theorem xi_ok36_0 : xi_ok cL_fits xi_36_0 = true := by decide +kernel
def xi_36 (pc : Nat) : XIs := xi_36_0
theorem xi_ok36 (pc : Nat) : xi_ok cL_fits (xi_36 pc) = true := xi_ok36_0
def xi_37_0 : XIs := [(0, .aload 6, 2), (2, .iconst 0, 1), (3, .aload_n 0, 1), (4, .iload_n 1, 1), (5, .iload_n 2, 1), (6, .iload_n 3, 1), (7, .lload 4, 2), (9, .invokevirtual 131, 3), (12, .i2l, 1), (13, .lastore, 1), (14, .goto 7, 3), (17, .astore 7, 2), (19, .iconst 1, 1), (20, .ireturn, 1), (21, .iconst 0, 1), (22, .ireturn, 1)]
set_option maxRecDepth 100000 in
theorem xi_ok37_0 : xi_ok cL_run xi_37_0 = true := by decide +kernel
def xi_37 (pc : Nat) : XIs := xi_37_0
theorem xi_ok37 (pc : Nat) : xi_ok cL_run (xi_37 pc) = true := xi_ok37_0
def xi_38_0 : XIs := [(0, .aload_n 2, 1), (1, .iconst 0, 1), (2, .aload_n 0, 1), (3, .iload_n 1, 1), (4, .invokevirtual 135, 3), (11, .astore_n 3, 1), (12, .iconst 1, 1), (13, .ireturn, 1)]
set_option maxRecDepth 100000 in
theorem xi_ok38_0 : xi_ok cL_state xi_38_0 = true := by decide +kernel
def xi_38 (pc : Nat) : XIs := xi_38_0
theorem xi_ok38 (pc : Nat) : xi_ok cL_state (xi_38 pc) = true := xi_ok38_0
def xi_39_0 : XIs := [(0, .aload_n 2, 1), (1, .iconst 0, 1), (2, .aload_n 0, 1), (3, .iload_n 1, 1), (4, .invokevirtual 138, 3), (7, .i2l, 1), (8, .lastore, 1), (9, .goto 6, 3), (12, .astore_n 3, 1), (13, .iconst 1, 1), (14, .ireturn, 1), (15, .iconst 0, 1), (16, .ireturn, 1)]
set_option maxRecDepth 100000 in
theorem xi_ok39_0 : xi_ok cL_letters xi_39_0 = true := by decide +kernel
def xi_39 (pc : Nat) : XIs := xi_39_0
theorem xi_ok39 (pc : Nat) : xi_ok cL_letters (xi_39 pc) = true := xi_ok39_0
def xi_40_0 : XIs := [(0, .aload_n 0, 1), (1, .invokespecial 3, 3), (4, .aload_n 0, 1), (5, .iconst (-1), 1), (6, .putfield 9, 3), (9, .aload_n 0, 1), (10, .iconst (-1), 1), (11, .putfield 15, 3), (14, .aload_n 0, 1), (15, .bipush 32, 2), (17, .newarray .int, 2), (19, .putfield 18, 3), (22, .aload_n 0, 1), (23, .bipush 32, 2), (25, .newarray .int, 2), (27, .putfield 22, 3)]
set_option maxRecDepth 100000 in
theorem xi_ok40_0 : xi_ok cX0_init xi_40_0 = true := by decide +kernel
def xi_40_1 : XIs := [(30, .aload_n 0, 1), (31, .bipush 32, 2), (33, .newarray .int, 2), (35, .putfield 25, 3), (38, .aload_n 0, 1), (39, .bipush 32, 2), (41, .newarray .int, 2), (43, .putfield 28, 3), (46, .return_, 1)]
set_option maxRecDepth 100000 in
theorem xi_ok40_1 : xi_ok cX0_init xi_40_1 = true := by decide +kernel
def xi_40 (pc : Nat) : XIs := cond (Nat.blt pc 30) (xi_40_0) (xi_40_1)
theorem xi_ok40 (pc : Nat) : xi_ok cX0_init (xi_40 pc) = true := xi_c (xi_ok40_0) (xi_ok40_1)
def xi_41_0 : XIs := [(0, .aload_n 0, 1), (1, .getfield 9, 3), (4, .aload_n 1, 1), (5, .getfield 31, 3), (8, .if_icmp .eq 34, 3), (11, .aload_n 0, 1), (12, .aload_n 1, 1), (13, .getfield 31, 3), (16, .putfield 9, 3), (19, .aload_n 1, 1), (20, .invokevirtual 36, 3), (23, .aload_n 0, 1), (24, .iconst 0, 1), (25, .putfield 39, 3), (28, .aload_n 0, 1), (29, .aload_n 1, 1)]
set_option maxRecDepth 100000 in
theorem xi_ok41_0 : xi_ok cX0_greatestClique xi_41_0 = true := by decide +kernel
def xi_41_1 : XIs := [(30, .getfield 42, 3), (33, .iconst 0, 1), (34, .aload_n 1, 1), (35, .invokevirtual 45, 3), (38, .iconst 0, 1), (39, .invokevirtual 49, 3), (42, .aload_n 0, 1), (43, .getfield 39, 3), (46, .ireturn, 1)]
set_option maxRecDepth 100000 in
theorem xi_ok41_1 : xi_ok cX0_greatestClique xi_41_1 = true := by decide +kernel
def xi_41 (pc : Nat) : XIs := cond (Nat.blt pc 30) (xi_41_0) (xi_41_1)
theorem xi_ok41 (pc : Nat) : xi_ok cX0_greatestClique (xi_41 pc) = true := xi_c (xi_ok41_0) (xi_ok41_1)
def xi_42_0 : XIs := [(0, .iload_n 2, 1), (1, .invokestatic 53, 3), (4, .istore 5, 2), (6, .iload 5, 2), (8, .aload_n 0, 1), (9, .getfield 39, 3), (12, .invokestatic 53, 3), (15, .if_icmp .le 8, 3), (23, .iload 4, 2), (25, .bipush 32, 2), (27, .if_icmp .lt 4, 3), (31, .iload_n 3, 1), (32, .istore 6, 2), (34, .iload 6, 2), (36, .ifCond .eq 63, 3), (99, .return_, 1)]
set_option maxRecDepth 100000 in
theorem xi_ok42_0 : xi_ok cX0_growClique xi_42_0 = true := by decide +kernel
def xi_42 (pc : Nat) : XIs := xi_42_0
theorem xi_ok42 (pc : Nat) : xi_ok cX0_growClique (xi_42 pc) = true := xi_ok42_0
def xi_43 (pc : Nat) : XIs := []
theorem xi_ok43 (pc : Nat) : xi_ok cX0_colourOf (xi_43 pc) = true := rfl
def xi_44 (pc : Nat) : XIs := []
theorem xi_ok44 (pc : Nat) : xi_ok cX0_makeColours (xi_44 pc) = true := rfl
def xi_45 (pc : Nat) : XIs := []
theorem xi_ok45 (pc : Nat) : xi_ok cX0_classOf (xi_45 pc) = true := rfl
def xi_46 (pc : Nat) : XIs := []
theorem xi_ok46 (pc : Nat) : xi_ok cX0_fill (xi_46 pc) = true := rfl
def xi_47 (pc : Nat) : XIs := []
theorem xi_ok47 (pc : Nat) : xi_ok cX0_fillPiece (xi_47 pc) = true := rfl
def xi_48 (pc : Nat) : XIs := []
theorem xi_ok48 (pc : Nat) : xi_ok cX0_besides (xi_48 pc) = true := rfl
def xi_49 (pc : Nat) : XIs := []
theorem xi_ok49 (pc : Nat) : xi_ok cX0_setAside (xi_49 pc) = true := rfl
def xi_50 (pc : Nat) : XIs := []
theorem xi_ok50 (pc : Nat) : xi_ok cX0_takeBack (xi_50 pc) = true := rfl
def xi_51 (pc : Nat) : XIs := []
theorem xi_ok51 (pc : Nat) : xi_ok cX0_freeColours (xi_51 pc) = true := rfl
def xi_52 (pc : Nat) : XIs := []
theorem xi_ok52 (pc : Nat) : xi_ok cX0_tightest (xi_52 pc) = true := rfl
def xi_53 (pc : Nat) : XIs := []
theorem xi_ok53 (pc : Nat) : xi_ok cX0_lessen (xi_53 pc) = true := rfl
def xi_54 (pc : Nat) : XIs := []
theorem xi_ok54 (pc : Nat) : xi_ok cX0_canLower (xi_54 pc) = true := rfl
def xi_55_0 : XIs := [(0, .aload_n 0, 1), (1, .invokespecial 5, 3), (4, .aload_n 0, 1), (5, .bipush 120, 2), (7, .newarray .int, 2), (9, .putfield 11, 3), (12, .aload_n 0, 1), (13, .iconst 1, 1), (14, .putfield 15, 3), (17, .aload_n 0, 1), (18, .iconst 2, 1), (19, .putfield 19, 3), (22, .aload_n 0, 1), (23, .bipush 120, 2), (25, .newarray .int, 2), (27, .putfield 22, 3)]
set_option maxRecDepth 100000 in
theorem xi_ok55_0 : xi_ok cX1_init xi_55_0 = true := by decide +kernel
def xi_55_1 : XIs := [(30, .aload_n 0, 1), (31, .bipush 120, 2), (33, .newarray .long, 2), (35, .putfield 25, 3), (38, .aload_n 0, 1), (39, .bipush 9, 2), (41, .newarray .long, 2), (43, .putfield 29, 3), (46, .aload_n 0, 1), (47, .bipush 32, 2), (49, .newarray .long, 2), (51, .putfield 32, 3), (54, .aload_n 0, 1), (55, .bipush 32, 2), (57, .newarray .long, 2), (59, .putfield 35, 3)]
set_option maxRecDepth 100000 in
theorem xi_ok55_1 : xi_ok cX1_init xi_55_1 = true := by decide +kernel
def xi_55_2 : XIs := [(62, .return_, 1)]
set_option maxRecDepth 100000 in
theorem xi_ok55_2 : xi_ok cX1_init xi_55_2 = true := by decide +kernel
def xi_55 (pc : Nat) : XIs := cond (Nat.blt pc 30) (xi_55_0) (cond (Nat.blt pc 62) (xi_55_1) (xi_55_2))
theorem xi_ok55 (pc : Nat) : xi_ok cX1_init (xi_55 pc) = true := xi_c (xi_ok55_0) (xi_c (xi_ok55_1) (xi_ok55_2))
def xi_56_0 : XIs := [(0, .aload_n 1, 1), (1, .invokevirtual 38, 3), (4, .aload_n 1, 1), (5, .getfield 43, 3), (8, .bipush 120, 2), (10, .if_icmp .le 11, 3), (21, .aload_n 0, 1), (22, .iconst 0, 1), (23, .putfield 50, 3), (26, .aload_n 1, 1), (27, .bipush 6, 2), (29, .iconst 0, 1), (30, .invokevirtual 53, 3), (33, .aload_n 0, 1), (34, .aload_n 1, 1), (35, .iconst 0, 1)]
set_option maxRecDepth 100000 in
theorem xi_ok56_0 : xi_ok cX1_adopt xi_56_0 = true := by decide +kernel
def xi_56_1 : XIs := [(36, .invokevirtual 57, 3), (39, .ifCond .ne 5, 3), (42, .iconst 0, 1), (43, .ireturn, 1)]
set_option maxRecDepth 100000 in
theorem xi_ok56_1 : xi_ok cX1_adopt xi_56_1 = true := by decide +kernel
def xi_56 (pc : Nat) : XIs := cond (Nat.blt pc 36) (xi_56_0) (xi_56_1)
theorem xi_ok56 (pc : Nat) : xi_ok cX1_adopt (xi_56 pc) = true := xi_c (xi_ok56_0) (xi_ok56_1)
def xi_57 (pc : Nat) : XIs := []
theorem xi_ok57 (pc : Nat) : xi_ok cX1_emit (xi_57 pc) = true := rfl
def xi_58_0 : XIs := [(0, .aload_n 0, 1), (1, .aload_n 1, 1), (2, .iload_n 2, 1), (3, .invokevirtual 77, 3), (6, .ifCond .ne 5, 3), (9, .iconst 0, 1), (10, .ireturn, 1)]
set_option maxRecDepth 100000 in
theorem xi_ok58_0 : xi_ok cX1_readExpression xi_58_0 = true := by decide +kernel
def xi_58 (pc : Nat) : XIs := xi_58_0
theorem xi_ok58 (pc : Nat) : xi_ok cX1_readExpression (xi_58 pc) = true := xi_ok58_0
def xi_59_0 : XIs := [(0, .aload_n 0, 1), (1, .aload_n 1, 1), (2, .iload_n 2, 1), (3, .invokevirtual 87, 3), (6, .ifCond .ne 5, 3), (9, .iconst 0, 1), (10, .ireturn, 1)]
set_option maxRecDepth 100000 in
theorem xi_ok59_0 : xi_ok cX1_readSum xi_59_0 = true := by decide +kernel
def xi_59 (pc : Nat) : XIs := xi_59_0
theorem xi_ok59 (pc : Nat) : xi_ok cX1_readSum (xi_59 pc) = true := xi_ok59_0
def xi_60_0 : XIs := [(0, .aload_n 0, 1), (1, .aload_n 1, 1), (2, .iload_n 2, 1), (3, .invokevirtual 90, 3), (6, .ifCond .ne 5, 3), (9, .iconst 0, 1), (10, .ireturn, 1)]
set_option maxRecDepth 100000 in
theorem xi_ok60_0 : xi_ok cX1_readProduct xi_60_0 = true := by decide +kernel
def xi_60 (pc : Nat) : XIs := xi_60_0
theorem xi_ok60 (pc : Nat) : xi_ok cX1_readProduct (xi_60 pc) = true := xi_ok60_0
def xi_61_0 : XIs := [(0, .aload_n 1, 1), (1, .getfield 68, 3), (4, .iconst 2, 1), (5, .if_icmp .eq 11, 3), (8, .aload_n 1, 1), (9, .getfield 68, 3), (12, .iconst 1, 1), (13, .if_icmp .ne 9, 3), (22, .aload_n 1, 1), (23, .bipush 45, 2), (25, .invokevirtual 61, 3), (28, .istore_n 3, 1), (29, .iload_n 3, 1), (30, .ifCond .ne 19, 3), (33, .aload_n 1, 1), (34, .bipush 40, 2)]
set_option maxRecDepth 100000 in
theorem xi_ok61_0 : xi_ok cX1_readFactor xi_61_0 = true := by decide +kernel
def xi_61_1 : XIs := [(36, .invokevirtual 61, 3), (39, .ifCond .ne 10, 3), (42, .aload_n 1, 1), (43, .iconst 2, 1), (44, .iconst 4, 1), (45, .invokevirtual 65, 3), (48, .ireturn, 1)]
set_option maxRecDepth 100000 in
theorem xi_ok61_1 : xi_ok cX1_readFactor xi_61_1 = true := by decide +kernel
def xi_61 (pc : Nat) : XIs := cond (Nat.blt pc 36) (xi_61_0) (xi_61_1)
theorem xi_ok61 (pc : Nat) : xi_ok cX1_readFactor (xi_61 pc) = true := xi_c (xi_ok61_0) (xi_ok61_1)
def xi_62 (pc : Nat) : XIs := []
theorem xi_ok62 (pc : Nat) : xi_ok cX1_readAtom (xi_62 pc) = true := rfl
def xi_63_0 : XIs := [(0, .aload_n 1, 1), (1, .invokevirtual 111, 3), (4, .aload_n 0, 1), (5, .aload_n 1, 1), (6, .getfield 116, 3), (9, .putfield 119, 3), (12, .aload_n 0, 1), (13, .getfield 35, 3), (16, .lconst 0, 1), (17, .invokestatic 120, 3), (20, .aload_n 0, 1), (21, .aload_n 1, 1), (22, .iconst 0, 1), (23, .invokevirtual 126, 3), (26, .pop, 1), (27, .iconst 1, 1)]
set_option maxRecDepth 100000 in
theorem xi_ok63_0 : xi_ok cX1_work xi_63_0 = true := by decide +kernel
def xi_63_1 : XIs := [(28, .istore_n 3, 1), (29, .iload_n 3, 1), (30, .iload_n 2, 1), (31, .if_icmp .gt 35, 3), (34, .aload_n 0, 1), (35, .getfield 32, 3), (38, .iconst 0, 1), (39, .aload_n 0, 1), (40, .getfield 35, 3), (43, .iconst 0, 1), (44, .bipush 32, 2), (46, .invokestatic 71, 3), (49, .aload_n 0, 1), (50, .aload_n 1, 1), (51, .iload_n 3, 1), (52, .invokevirtual 126, 3)]
set_option maxRecDepth 100000 in
theorem xi_ok63_1 : xi_ok cX1_work xi_63_1 = true := by decide +kernel
def xi_63_2 : XIs := [(55, .ifCond .ne 5, 3), (58, .iload_n 3, 1), (59, .ireturn, 1), (66, .iload_n 2, 1), (67, .ireturn, 1)]
set_option maxRecDepth 100000 in
theorem xi_ok63_2 : xi_ok cX1_work xi_63_2 = true := by decide +kernel
def xi_63 (pc : Nat) : XIs := cond (Nat.blt pc 28) (xi_63_0) (cond (Nat.blt pc 55) (xi_63_1) (xi_63_2))
theorem xi_ok63 (pc : Nat) : xi_ok cX1_work (xi_63 pc) = true := xi_c (xi_ok63_0) (xi_c (xi_ok63_1) (xi_ok63_2))
def xi_64_0 : XIs := [(0, .iconst 0, 1), (1, .istore_n 3, 1), (2, .iconst 0, 1), (3, .istore 4, 2), (5, .iload 4, 2), (7, .aload_n 1, 1), (8, .getfield 116, 3), (11, .if_icmp .ge 78, 3), (89, .iload_n 3, 1), (90, .ireturn, 1)]
set_option maxRecDepth 100000 in
theorem xi_ok64_0 : xi_ok cX1_doRound xi_64_0 = true := by decide +kernel
def xi_64 (pc : Nat) : XIs := xi_64_0
theorem xi_ok64 (pc : Nat) : xi_ok cX1_doRound (xi_64 pc) = true := xi_ok64_0
def xi_65 (pc : Nat) : XIs := []
theorem xi_ok65 (pc : Nat) : xi_ok cX1_look (xi_65 pc) = true := rfl
def xi_66 (pc : Nat) : XIs := []
theorem xi_ok66 (pc : Nat) : xi_ok cX1_compute (xi_66 pc) = true := rfl
def xi_67 (pc : Nat) : XIs := []
theorem xi_ok67 (pc : Nat) : xi_ok cX1_combine (xi_67 pc) = true := rfl
def xi_68 (pc : Nat) : XIs := []
theorem xi_ok68 (pc : Nat) : xi_ok cX1_times (xi_68 pc) = true := rfl
def xi_69 (pc : Nat) : XIs := []
theorem xi_ok69 (pc : Nat) : xi_ok cX1_clip (xi_69 pc) = true := rfl
def xi_70_0 : XIs := [(0, .aload_n 0, 1), (1, .iconst 0, 1), (2, .putfield 186, 3), (5, .aload_n 0, 1), (6, .iconst 0, 1), (7, .putfield 189, 3), (10, .aload_n 0, 1), (11, .iconst 0, 1), (12, .putfield 192, 3), (15, .aload_n 1, 1), (16, .iload_n 3, 1), (17, .invokestatic 195, 3), (20, .istore 7, 2), (22, .iconst 0, 1), (23, .istore 8, 2), (25, .iload 8, 2)]
set_option maxRecDepth 100000 in
theorem xi_ok70_0 : xi_ok cX1_post xi_70_0 = true := by decide +kernel
def xi_70_1 : XIs := [(27, .iload_n 2, 1), (28, .if_icmp .ge 56, 3), (31, .iload 7, 2), (33, .istore 9, 2), (35, .iconst 0, 1), (36, .istore 10, 2), (38, .iload 10, 2), (40, .ldc 110, 2), (42, .if_icmp .ge 36, 3), (45, .iload 9, 2), (47, .ifCond .le 31, 3), (78, .iinc 8 1, 3), (81, .goto (-56), 3), (84, .return_, 1)]
set_option maxRecDepth 100000 in
theorem xi_ok70_1 : xi_ok cX1_post xi_70_1 = true := by decide +kernel
def xi_70 (pc : Nat) : XIs := cond (Nat.blt pc 27) (xi_70_0) (xi_70_1)
theorem xi_ok70 (pc : Nat) : xi_ok cX1_post (xi_70 pc) = true := xi_c (xi_ok70_0) (xi_ok70_1)
def xi_71_0 : XIs := [(0, .iload_n 1, 1), (1, .iconst 1, 1), (2, .if_icmp .ge 5, 3), (7, .iconst 0, 1), (8, .istore_n 2, 1), (9, .iconst 0, 1), (10, .istore_n 3, 1), (11, .iload_n 3, 1), (12, .aload_n 0, 1), (13, .getfield 116, 3), (16, .if_icmp .ge 67, 3), (83, .iload_n 2, 1), (84, .ireturn, 1)]
set_option maxRecDepth 100000 in
theorem xi_ok71_0 : xi_ok cX1_lettersOf xi_71_0 = true := by decide +kernel
def xi_71 (pc : Nat) : XIs := xi_71_0
theorem xi_ok71 (pc : Nat) : xi_ok cX1_lettersOf (xi_71 pc) = true := xi_ok71_0
def xi_72 (pc : Nat) : XIs := []
theorem xi_ok72 (pc : Nat) : xi_ok cX1_sendAll (xi_72 pc) = true := rfl
def xi_73 (pc : Nat) : XIs := []
theorem xi_ok73 (pc : Nat) : xi_ok cX1_draw (xi_73 pc) = true := rfl
def xi_74_0 : XIs := [(0, .aload_n 0, 1), (1, .invokespecial 3, 3), (4, .aload_n 0, 1), (5, .iconst (-1), 1), (6, .putfield 9, 3), (9, .aload_n 0, 1), (10, .sipush 1024, 3), (13, .newarray .int, 2), (15, .putfield 15, 3), (18, .aload_n 0, 1), (19, .bipush 32, 2), (21, .newarray .int, 2), (23, .putfield 19, 3), (26, .aload_n 0, 1), (27, .bipush 32, 2), (29, .newarray .int, 2)]
set_option maxRecDepth 100000 in
theorem xi_ok74_0 : xi_ok cX2_init xi_74_0 = true := by decide +kernel
def xi_74_1 : XIs := [(31, .putfield 22, 3), (34, .aload_n 0, 1), (35, .sipush 160, 3), (38, .newarray .int, 2), (40, .putfield 25, 3), (43, .aload_n 0, 1), (44, .sipush 160, 3), (47, .newarray .int, 2), (49, .putfield 28, 3), (52, .aload_n 0, 1), (53, .sipush 160, 3), (56, .newarray .int, 2), (58, .putfield 31, 3), (61, .aload_n 0, 1), (62, .sipush 160, 3), (65, .newarray .int, 2)]
set_option maxRecDepth 100000 in
theorem xi_ok74_1 : xi_ok cX2_init xi_74_1 = true := by decide +kernel
def xi_74_2 : XIs := [(67, .putfield 34, 3), (70, .aload_n 0, 1), (71, .sipush 160, 3), (74, .newarray .int, 2), (76, .putfield 37, 3), (79, .aload_n 0, 1), (80, .bipush 32, 2), (82, .newarray .int, 2), (84, .putfield 40, 3), (87, .aload_n 0, 1), (88, .bipush 32, 2), (90, .newarray .long, 2), (92, .putfield 43, 3), (95, .aload_n 0, 1), (96, .iconst (-1), 1), (97, .putfield 47, 3)]
set_option maxRecDepth 100000 in
theorem xi_ok74_2 : xi_ok cX2_init xi_74_2 = true := by decide +kernel
def xi_74_3 : XIs := [(100, .return_, 1)]
set_option maxRecDepth 100000 in
theorem xi_ok74_3 : xi_ok cX2_init xi_74_3 = true := by decide +kernel
def xi_74 (pc : Nat) : XIs := cond (Nat.blt pc 67) (cond (Nat.blt pc 31) (xi_74_0) (xi_74_1)) (cond (Nat.blt pc 100) (xi_74_2) (xi_74_3))
theorem xi_ok74 (pc : Nat) : xi_ok cX2_init (xi_74 pc) = true := xi_c (xi_c (xi_ok74_0) (xi_ok74_1)) (xi_c (xi_ok74_2) (xi_ok74_3))
def xi_75 (pc : Nat) : XIs := []
theorem xi_ok75 (pc : Nat) : xi_ok cX2_greatest (xi_75 pc) = true := rfl
def xi_76 (pc : Nat) : XIs := []
theorem xi_ok76 (pc : Nat) : xi_ok cX2_openAll (xi_76 pc) = true := rfl
def xi_77 (pc : Nat) : XIs := []
theorem xi_ok77 (pc : Nat) : xi_ok cX2_reach (xi_77 pc) = true := rfl
def xi_78 (pc : Nat) : XIs := []
theorem xi_ok78 (pc : Nat) : xi_ok cX2_push (xi_78 pc) = true := rfl
def xi_79 (pc : Nat) : XIs := []
theorem xi_ok79 (pc : Nat) : xi_ok cX2_cheapest (xi_79 pc) = true := rfl
def xi_80 (pc : Nat) : XIs := []
theorem xi_ok80 (pc : Nat) : xi_ok cX2_layArcs (xi_80 pc) = true := rfl
def xi_81 (pc : Nat) : XIs := []
theorem xi_ok81 (pc : Nat) : xi_ok cX2_turnEarners (xi_81 pc) = true := rfl
def xi_82 (pc : Nat) : XIs := []
theorem xi_ok82 (pc : Nat) : xi_ok cX2_turn (xi_82 pc) = true := rfl
def xi_83 (pc : Nat) : XIs := []
theorem xi_ok83 (pc : Nat) : xi_ok cX2_carryAll (xi_83 pc) = true := rfl
def xi_84 (pc : Nat) : XIs := []
theorem xi_ok84 (pc : Nat) : xi_ok cX2_lay (xi_84 pc) = true := rfl
def xi_85_0 : XIs := [(0, .iconst 0, 1), (1, .istore_n 3, 1), (2, .iload_n 3, 1), (3, .iload_n 1, 1), (4, .if_icmp .ge 39, 3), (43, .aload_n 0, 1), (44, .iload_n 1, 1), (45, .iload_n 2, 1), (46, .invokevirtual 149, 3), (49, .iconst (-1), 1), (50, .istore_n 3, 1), (51, .iconst 0, 1), (52, .istore 4, 2), (54, .iload 4, 2), (56, .iload_n 1, 1), (57, .if_icmp .ge 60, 3)]
set_option maxRecDepth 100000 in
theorem xi_ok85_0 : xi_ok cX2_nearestLack xi_85_0 = true := by decide +kernel
def xi_85_1 : XIs := [(117, .iload_n 3, 1), (118, .ireturn, 1)]
set_option maxRecDepth 100000 in
theorem xi_ok85_1 : xi_ok cX2_nearestLack xi_85_1 = true := by decide +kernel
def xi_85 (pc : Nat) : XIs := cond (Nat.blt pc 117) (xi_85_0) (xi_85_1)
theorem xi_ok85 (pc : Nat) : xi_ok cX2_nearestLack (xi_85 pc) = true := xi_c (xi_ok85_0) (xi_ok85_1)
def xi_86_0 : XIs := [(0, .iconst 1, 1), (1, .istore_n 3, 1), (2, .iconst 0, 1), (3, .istore 4, 2), (5, .iload 4, 2), (7, .iload_n 1, 1), (8, .if_icmp .gt 43, 3), (11, .iload_n 3, 1), (12, .ifCond .eq 39, 3), (15, .iconst 0, 1), (16, .istore_n 3, 1), (17, .iconst 0, 1), (18, .istore 5, 2), (20, .iload 5, 2), (22, .aload_n 0, 1), (23, .getfield 136, 3)]
set_option maxRecDepth 100000 in
theorem xi_ok86_0 : xi_ok cX2_relaxAll xi_86_0 = true := by decide +kernel
def xi_86_1 : XIs := [(26, .if_icmp .ge 19, 3), (45, .iinc 4 1, 3), (48, .goto (-43), 3), (51, .return_, 1)]
set_option maxRecDepth 100000 in
theorem xi_ok86_1 : xi_ok cX2_relaxAll xi_86_1 = true := by decide +kernel
def xi_86 (pc : Nat) : XIs := cond (Nat.blt pc 26) (xi_86_0) (xi_86_1)
theorem xi_ok86 (pc : Nat) : xi_ok cX2_relaxAll (xi_86 pc) = true := xi_c (xi_ok86_0) (xi_ok86_1)
def xi_87 (pc : Nat) : XIs := []
theorem xi_ok87 (pc : Nat) : xi_ok cX2_relaxPipe (xi_87 pc) = true := rfl
def xi_88 (pc : Nat) : XIs := []
theorem xi_ok88 (pc : Nat) : xi_ok cX2_carryTo (xi_88 pc) = true := rfl
def xi_89_0 : XIs := [(0, .aload_n 0, 1), (1, .getfield 47, 3), (4, .aload_n 1, 1), (5, .getfield 50, 3), (8, .if_icmp .ne 4, 3), (12, .aload_n 0, 1), (13, .aload_n 1, 1), (14, .getfield 50, 3), (17, .putfield 47, 3), (20, .aload_n 0, 1), (21, .iconst 0, 1), (22, .putfield 167, 3), (25, .aload_n 0, 1), (26, .lconst 0, 1), (27, .putfield 170, 3), (30, .aload_n 0, 1)]
set_option maxRecDepth 100000 in
theorem xi_ok89_0 : xi_ok cX2_pair xi_89_0 = true := by decide +kernel
def xi_89_1 : XIs := [(31, .iconst 0, 1), (32, .putfield 136, 3), (35, .iconst 0, 1), (36, .istore_n 2, 1), (37, .iload_n 2, 1), (38, .aload_n 1, 1), (39, .getfield 125, 3), (42, .if_icmp .ge 28, 3), (70, .iconst 0, 1), (71, .istore_n 2, 1), (72, .iload_n 2, 1), (73, .aload_n 1, 1), (74, .getfield 84, 3), (77, .if_icmp .ge 100, 3), (177, .iconst 0, 1), (178, .istore_n 2, 1)]
set_option maxRecDepth 100000 in
theorem xi_ok89_1 : xi_ok cX2_pair xi_89_1 = true := by decide +kernel
def xi_89_2 : XIs := [(179, .iload_n 2, 1), (180, .bipush 32, 2), (182, .if_icmp .ge 49, 3), (185, .aload_n 0, 1), (186, .aload_n 1, 1), (187, .getfield 125, 3), (190, .iconst 1, 1), (191, .invokevirtual 155, 3), (194, .istore_n 3, 1), (195, .iload_n 3, 1), (196, .iconst (-1), 1), (197, .if_icmp .ne 4, 3), (200, .return_, 1)]
set_option maxRecDepth 100000 in
theorem xi_ok89_2 : xi_ok cX2_pair xi_89_2 = true := by decide +kernel
def xi_89 (pc : Nat) : XIs := cond (Nat.blt pc 31) (xi_89_0) (cond (Nat.blt pc 179) (xi_89_1) (xi_89_2))
theorem xi_ok89 (pc : Nat) : xi_ok cX2_pair (xi_89 pc) = true := xi_c (xi_ok89_0) (xi_c (xi_ok89_1) (xi_ok89_2))
