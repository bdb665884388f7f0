def xi_0_284 : XIs := [(2935, .istore 6, 2), (2937, .aload_n 2, 1), (2938, .invokevirtual 151, 3), (2941, .iload 5, 2)]
set_option maxRecDepth 100000 in
theorem xi_ok0_284 : xi_ok code xi_0_284 = true := by decide +kernel
def xi_0_285 : XIs := [(2943, .if_icmp .eq 5, 3), (2946, .iconst 0, 1), (2947, .ireturn, 1), (2948, .iload 5, 2)]
set_option maxRecDepth 100000 in
theorem xi_ok0_285 : xi_ok code xi_0_285 = true := by decide +kernel
def xi_0_286 : XIs := [(2950, .ifCond .ne 15, 3), (2953, .aload_n 3, 1), (2954, .iconst 0, 1), (2955, .laload, 1)]
set_option maxRecDepth 100000 in
theorem xi_ok0_286 : xi_ok code xi_0_286 = true := by decide +kernel
def xi_0_287 : XIs := [(2956, .iload 6, 2), (2958, .i2l, 1), (2959, .lcmp, 1), (2960, .ifCond .eq 5, 3)]
set_option maxRecDepth 100000 in
theorem xi_ok0_287 : xi_ok code xi_0_287 = true := by decide +kernel
def xi_0_288 : XIs := [(2963, .iconst 0, 1), (2964, .ireturn, 1), (2965, .goto 3, 3), (2968, .iinc 4 6, 3)]
set_option maxRecDepth 100000 in
theorem xi_ok0_288 : xi_ok code xi_0_288 = true := by decide +kernel
def xi_0_289 : XIs := [(2971, .goto (-2948), 3), (2974, .iconst 1, 1), (2975, .ireturn, 1)]
set_option maxRecDepth 100000 in
theorem xi_ok0_289 : xi_ok code xi_0_289 = true := by decide +kernel
def xi_0 (pc : Nat) : XIs := cond (Nat.blt pc 2039) (cond (Nat.blt pc 1401) (cond (Nat.blt pc 954) (cond (Nat.blt pc 631) (cond (Nat.blt pc 417) (cond (Nat.blt pc 305) (cond (Nat.blt pc 252) (cond (Nat.blt pc 27) (xi_0_0) (xi_0_1)) (cond (Nat.blt pc 280) (xi_0_2) (xi_0_3))) (cond (Nat.blt pc 345) (cond (Nat.blt pc 324) (xi_0_4) (xi_0_5)) (cond (Nat.blt pc 365) (xi_0_6) (cond (Nat.blt pc 392) (xi_0_7) (xi_0_8))))) (cond (Nat.blt pc 510) (cond (Nat.blt pc 467) (cond (Nat.blt pc 445) (xi_0_9) (xi_0_10)) (cond (Nat.blt pc 489) (xi_0_11) (xi_0_12))) (cond (Nat.blt pc 560) (cond (Nat.blt pc 537) (xi_0_13) (xi_0_14)) (cond (Nat.blt pc 586) (xi_0_15) (cond (Nat.blt pc 609) (xi_0_16) (xi_0_17)))))) (cond (Nat.blt pc 813) (cond (Nat.blt pc 721) (cond (Nat.blt pc 679) (cond (Nat.blt pc 655) (xi_0_18) (xi_0_19)) (cond (Nat.blt pc 697) (xi_0_20) (xi_0_21))) (cond (Nat.blt pc 757) (cond (Nat.blt pc 740) (xi_0_22) (xi_0_23)) (cond (Nat.blt pc 776) (xi_0_24) (cond (Nat.blt pc 796) (xi_0_25) (xi_0_26))))) (cond (Nat.blt pc 879) (cond (Nat.blt pc 848) (cond (Nat.blt pc 831) (xi_0_27) (xi_0_28)) (cond (Nat.blt pc 864) (xi_0_29) (xi_0_30))) (cond (Nat.blt pc 906) (cond (Nat.blt pc 892) (xi_0_31) (xi_0_32)) (cond (Nat.blt pc 924) (xi_0_33) (cond (Nat.blt pc 940) (xi_0_34) (xi_0_35))))))) (cond (Nat.blt pc 1207) (cond (Nat.blt pc 1093) (cond (Nat.blt pc 1020) (cond (Nat.blt pc 988) (cond (Nat.blt pc 972) (xi_0_36) (xi_0_37)) (cond (Nat.blt pc 1005) (xi_0_38) (xi_0_39))) (cond (Nat.blt pc 1049) (cond (Nat.blt pc 1033) (xi_0_40) (xi_0_41)) (cond (Nat.blt pc 1064) (xi_0_42) (cond (Nat.blt pc 1079) (xi_0_43) (xi_0_44))))) (cond (Nat.blt pc 1147) (cond (Nat.blt pc 1122) (cond (Nat.blt pc 1106) (xi_0_45) (xi_0_46)) (cond (Nat.blt pc 1134) (xi_0_47) (xi_0_48))) (cond (Nat.blt pc 1168) (cond (Nat.blt pc 1156) (xi_0_49) (xi_0_50)) (cond (Nat.blt pc 1180) (xi_0_51) (cond (Nat.blt pc 1196) (xi_0_52) (xi_0_53)))))) (cond (Nat.blt pc 1304) (cond (Nat.blt pc 1249) (cond (Nat.blt pc 1228) (cond (Nat.blt pc 1218) (xi_0_54) (xi_0_55)) (cond (Nat.blt pc 1240) (xi_0_56) (xi_0_57))) (cond (Nat.blt pc 1276) (cond (Nat.blt pc 1263) (xi_0_58) (xi_0_59)) (cond (Nat.blt pc 1286) (xi_0_60) (cond (Nat.blt pc 1296) (xi_0_61) (xi_0_62))))) (cond (Nat.blt pc 1349) (cond (Nat.blt pc 1325) (cond (Nat.blt pc 1315) (xi_0_63) (xi_0_64)) (cond (Nat.blt pc 1338) (xi_0_65) (xi_0_66))) (cond (Nat.blt pc 1369) (cond (Nat.blt pc 1360) (xi_0_67) (xi_0_68)) (cond (Nat.blt pc 1379) (xi_0_69) (cond (Nat.blt pc 1388) (xi_0_70) (xi_0_71)))))))) (cond (Nat.blt pc 1748) (cond (Nat.blt pc 1572) (cond (Nat.blt pc 1487) (cond (Nat.blt pc 1442) (cond (Nat.blt pc 1423) (cond (Nat.blt pc 1413) (xi_0_72) (xi_0_73)) (cond (Nat.blt pc 1433) (xi_0_74) (xi_0_75))) (cond (Nat.blt pc 1461) (cond (Nat.blt pc 1450) (xi_0_76) (xi_0_77)) (cond (Nat.blt pc 1469) (xi_0_78) (cond (Nat.blt pc 1477) (xi_0_79) (xi_0_80))))) (cond (Nat.blt pc 1525) (cond (Nat.blt pc 1508) (cond (Nat.blt pc 1498) (xi_0_81) (xi_0_82)) (cond (Nat.blt pc 1518) (xi_0_83) (xi_0_84))) (cond (Nat.blt pc 1542) (cond (Nat.blt pc 1532) (xi_0_85) (xi_0_86)) (cond (Nat.blt pc 1549) (xi_0_87) (cond (Nat.blt pc 1561) (xi_0_88) (xi_0_89)))))) (cond (Nat.blt pc 1657) (cond (Nat.blt pc 1606) (cond (Nat.blt pc 1590) (cond (Nat.blt pc 1581) (xi_0_90) (xi_0_91)) (cond (Nat.blt pc 1599) (xi_0_92) (xi_0_93))) (cond (Nat.blt pc 1629) (cond (Nat.blt pc 1620) (xi_0_94) (xi_0_95)) (cond (Nat.blt pc 1640) (xi_0_96) (cond (Nat.blt pc 1650) (xi_0_97) (xi_0_98))))) (cond (Nat.blt pc 1699) (cond (Nat.blt pc 1678) (cond (Nat.blt pc 1667) (xi_0_99) (xi_0_100)) (cond (Nat.blt pc 1690) (xi_0_101) (xi_0_102))) (cond (Nat.blt pc 1718) (cond (Nat.blt pc 1709) (xi_0_103) (xi_0_104)) (cond (Nat.blt pc 1727) (xi_0_105) (cond (Nat.blt pc 1737) (xi_0_106) (xi_0_107))))))) (cond (Nat.blt pc 1897) (cond (Nat.blt pc 1826) (cond (Nat.blt pc 1785) (cond (Nat.blt pc 1768) (cond (Nat.blt pc 1758) (xi_0_108) (xi_0_109)) (cond (Nat.blt pc 1775) (xi_0_110) (xi_0_111))) (cond (Nat.blt pc 1803) (cond (Nat.blt pc 1793) (xi_0_112) (xi_0_113)) (cond (Nat.blt pc 1811) (xi_0_114) (cond (Nat.blt pc 1819) (xi_0_115) (xi_0_116))))) (cond (Nat.blt pc 1859) (cond (Nat.blt pc 1841) (cond (Nat.blt pc 1832) (xi_0_117) (xi_0_118)) (cond (Nat.blt pc 1849) (xi_0_119) (xi_0_120))) (cond (Nat.blt pc 1875) (cond (Nat.blt pc 1867) (xi_0_121) (xi_0_122)) (cond (Nat.blt pc 1882) (xi_0_123) (cond (Nat.blt pc 1888) (xi_0_124) (xi_0_125)))))) (cond (Nat.blt pc 1965) (cond (Nat.blt pc 1931) (cond (Nat.blt pc 1915) (cond (Nat.blt pc 1905) (xi_0_126) (xi_0_127)) (cond (Nat.blt pc 1923) (xi_0_128) (xi_0_129))) (cond (Nat.blt pc 1944) (cond (Nat.blt pc 1938) (xi_0_130) (xi_0_131)) (cond (Nat.blt pc 1950) (xi_0_132) (cond (Nat.blt pc 1959) (xi_0_133) (xi_0_134))))) (cond (Nat.blt pc 2007) (cond (Nat.blt pc 1983) (cond (Nat.blt pc 1973) (xi_0_135) (xi_0_136)) (cond (Nat.blt pc 1991) (xi_0_137) (cond (Nat.blt pc 1999) (xi_0_138) (xi_0_139)))) (cond (Nat.blt pc 2019) (cond (Nat.blt pc 2013) (xi_0_140) (xi_0_141)) (cond (Nat.blt pc 2026) (xi_0_142) (cond (Nat.blt pc 2033) (xi_0_143) (xi_0_144))))))))) (cond (Nat.blt pc 2522) (cond (Nat.blt pc 2304) (cond (Nat.blt pc 2176) (cond (Nat.blt pc 2108) (cond (Nat.blt pc 2071) (cond (Nat.blt pc 2053) (cond (Nat.blt pc 2045) (xi_0_145) (xi_0_146)) (cond (Nat.blt pc 2063) (xi_0_147) (xi_0_148))) (cond (Nat.blt pc 2090) (cond (Nat.blt pc 2081) (xi_0_149) (xi_0_150)) (cond (Nat.blt pc 2096) (xi_0_151) (cond (Nat.blt pc 2102) (xi_0_152) (xi_0_153))))) (cond (Nat.blt pc 2134) (cond (Nat.blt pc 2122) (cond (Nat.blt pc 2116) (xi_0_154) (xi_0_155)) (cond (Nat.blt pc 2128) (xi_0_156) (xi_0_157))) (cond (Nat.blt pc 2155) (cond (Nat.blt pc 2145) (xi_0_158) (xi_0_159)) (cond (Nat.blt pc 2161) (xi_0_160) (cond (Nat.blt pc 2170) (xi_0_161) (xi_0_162)))))) (cond (Nat.blt pc 2244) (cond (Nat.blt pc 2211) (cond (Nat.blt pc 2192) (cond (Nat.blt pc 2184) (xi_0_163) (xi_0_164)) (cond (Nat.blt pc 2203) (xi_0_165) (xi_0_166))) (cond (Nat.blt pc 2226) (cond (Nat.blt pc 2219) (xi_0_167) (xi_0_168)) (cond (Nat.blt pc 2232) (xi_0_169) (cond (Nat.blt pc 2239) (xi_0_170) (xi_0_171))))) (cond (Nat.blt pc 2274) (cond (Nat.blt pc 2260) (cond (Nat.blt pc 2253) (xi_0_172) (xi_0_173)) (cond (Nat.blt pc 2267) (xi_0_174) (xi_0_175))) (cond (Nat.blt pc 2285) (cond (Nat.blt pc 2280) (xi_0_176) (xi_0_177)) (cond (Nat.blt pc 2292) (xi_0_178) (cond (Nat.blt pc 2297) (xi_0_179) (xi_0_180))))))) (cond (Nat.blt pc 2422) (cond (Nat.blt pc 2365) (cond (Nat.blt pc 2333) (cond (Nat.blt pc 2320) (cond (Nat.blt pc 2313) (xi_0_181) (xi_0_182)) (cond (Nat.blt pc 2325) (xi_0_183) (xi_0_184))) (cond (Nat.blt pc 2347) (cond (Nat.blt pc 2339) (xi_0_185) (xi_0_186)) (cond (Nat.blt pc 2355) (xi_0_187) (cond (Nat.blt pc 2360) (xi_0_188) (xi_0_189))))) (cond (Nat.blt pc 2386) (cond (Nat.blt pc 2376) (cond (Nat.blt pc 2369) (xi_0_190) (xi_0_191)) (cond (Nat.blt pc 2381) (xi_0_192) (xi_0_193))) (cond (Nat.blt pc 2402) (cond (Nat.blt pc 2393) (xi_0_194) (xi_0_195)) (cond (Nat.blt pc 2409) (xi_0_196) (cond (Nat.blt pc 2414) (xi_0_197) (xi_0_198)))))) (cond (Nat.blt pc 2467) (cond (Nat.blt pc 2441) (cond (Nat.blt pc 2432) (cond (Nat.blt pc 2427) (xi_0_199) (xi_0_200)) (cond (Nat.blt pc 2436) (xi_0_201) (xi_0_202))) (cond (Nat.blt pc 2453) (cond (Nat.blt pc 2446) (xi_0_203) (xi_0_204)) (cond (Nat.blt pc 2458) (xi_0_205) (cond (Nat.blt pc 2463) (xi_0_206) (xi_0_207))))) (cond (Nat.blt pc 2493) (cond (Nat.blt pc 2477) (cond (Nat.blt pc 2472) (xi_0_208) (xi_0_209)) (cond (Nat.blt pc 2484) (xi_0_210) (xi_0_211))) (cond (Nat.blt pc 2505) (cond (Nat.blt pc 2500) (xi_0_212) (xi_0_213)) (cond (Nat.blt pc 2511) (xi_0_214) (cond (Nat.blt pc 2518) (xi_0_215) (xi_0_216)))))))) (cond (Nat.blt pc 2751) (cond (Nat.blt pc 2643) (cond (Nat.blt pc 2584) (cond (Nat.blt pc 2550) (cond (Nat.blt pc 2534) (cond (Nat.blt pc 2529) (xi_0_217) (xi_0_218)) (cond (Nat.blt pc 2543) (xi_0_219) (xi_0_220))) (cond (Nat.blt pc 2562) (cond (Nat.blt pc 2557) (xi_0_221) (xi_0_222)) (cond (Nat.blt pc 2570) (xi_0_223) (cond (Nat.blt pc 2578) (xi_0_224) (xi_0_225))))) (cond (Nat.blt pc 2607) (cond (Nat.blt pc 2595) (cond (Nat.blt pc 2589) (xi_0_226) (xi_0_227)) (cond (Nat.blt pc 2601) (xi_0_228) (xi_0_229))) (cond (Nat.blt pc 2622) (cond (Nat.blt pc 2615) (xi_0_230) (xi_0_231)) (cond (Nat.blt pc 2628) (xi_0_232) (cond (Nat.blt pc 2635) (xi_0_233) (xi_0_234)))))) (cond (Nat.blt pc 2698) (cond (Nat.blt pc 2665) (cond (Nat.blt pc 2656) (cond (Nat.blt pc 2651) (xi_0_235) (xi_0_236)) (cond (Nat.blt pc 2660) (xi_0_237) (xi_0_238))) (cond (Nat.blt pc 2677) (cond (Nat.blt pc 2672) (xi_0_239) (xi_0_240)) (cond (Nat.blt pc 2682) (xi_0_241) (cond (Nat.blt pc 2689) (xi_0_242) (xi_0_243))))) (cond (Nat.blt pc 2724) (cond (Nat.blt pc 2710) (cond (Nat.blt pc 2705) (xi_0_244) (xi_0_245)) (cond (Nat.blt pc 2716) (xi_0_246) (xi_0_247))) (cond (Nat.blt pc 2737) (cond (Nat.blt pc 2732) (xi_0_248) (xi_0_249)) (cond (Nat.blt pc 2741) (xi_0_250) (cond (Nat.blt pc 2746) (xi_0_251) (xi_0_252))))))) (cond (Nat.blt pc 2853) (cond (Nat.blt pc 2798) (cond (Nat.blt pc 2772) (cond (Nat.blt pc 2761) (cond (Nat.blt pc 2756) (xi_0_253) (xi_0_254)) (cond (Nat.blt pc 2766) (xi_0_255) (xi_0_256))) (cond (Nat.blt pc 2784) (cond (Nat.blt pc 2778) (xi_0_257) (xi_0_258)) (cond (Nat.blt pc 2788) (xi_0_259) (cond (Nat.blt pc 2793) (xi_0_260) (xi_0_261))))) (cond (Nat.blt pc 2819) (cond (Nat.blt pc 2808) (cond (Nat.blt pc 2803) (xi_0_262) (xi_0_263)) (cond (Nat.blt pc 2813) (xi_0_264) (xi_0_265))) (cond (Nat.blt pc 2835) (cond (Nat.blt pc 2826) (xi_0_266) (xi_0_267)) (cond (Nat.blt pc 2842) (xi_0_268) (cond (Nat.blt pc 2847) (xi_0_269) (xi_0_270)))))) (cond (Nat.blt pc 2912) (cond (Nat.blt pc 2876) (cond (Nat.blt pc 2864) (cond (Nat.blt pc 2859) (xi_0_271) (xi_0_272)) (cond (Nat.blt pc 2871) (xi_0_273) (xi_0_274))) (cond (Nat.blt pc 2892) (cond (Nat.blt pc 2883) (xi_0_275) (xi_0_276)) (cond (Nat.blt pc 2899) (xi_0_277) (cond (Nat.blt pc 2904) (xi_0_278) (xi_0_279))))) (cond (Nat.blt pc 2943) (cond (Nat.blt pc 2923) (cond (Nat.blt pc 2917) (xi_0_280) (xi_0_281)) (cond (Nat.blt pc 2929) (xi_0_282) (cond (Nat.blt pc 2935) (xi_0_283) (xi_0_284)))) (cond (Nat.blt pc 2956) (cond (Nat.blt pc 2950) (xi_0_285) (xi_0_286)) (cond (Nat.blt pc 2963) (xi_0_287) (cond (Nat.blt pc 2971) (xi_0_288) (xi_0_289)))))))))
theorem xi_ok0 (pc : Nat) : xi_ok code (xi_0 pc) = true := xi_c (xi_c (xi_c (xi_c (xi_c (xi_c (xi_c (xi_c (xi_ok0_0) (xi_ok0_1)) (xi_c (xi_ok0_2) (xi_ok0_3))) (xi_c (xi_c (xi_ok0_4) (xi_ok0_5)) (xi_c (xi_ok0_6) (xi_c (xi_ok0_7) (xi_ok0_8))))) (xi_c (xi_c (xi_c (xi_ok0_9) (xi_ok0_10)) (xi_c (xi_ok0_11) (xi_ok0_12))) (xi_c (xi_c (xi_ok0_13) (xi_ok0_14)) (xi_c (xi_ok0_15) (xi_c (xi_ok0_16) (xi_ok0_17)))))) (xi_c (xi_c (xi_c (xi_c (xi_ok0_18) (xi_ok0_19)) (xi_c (xi_ok0_20) (xi_ok0_21))) (xi_c (xi_c (xi_ok0_22) (xi_ok0_23)) (xi_c (xi_ok0_24) (xi_c (xi_ok0_25) (xi_ok0_26))))) (xi_c (xi_c (xi_c (xi_ok0_27) (xi_ok0_28)) (xi_c (xi_ok0_29) (xi_ok0_30))) (xi_c (xi_c (xi_ok0_31) (xi_ok0_32)) (xi_c (xi_ok0_33) (xi_c (xi_ok0_34) (xi_ok0_35))))))) (xi_c (xi_c (xi_c (xi_c (xi_c (xi_ok0_36) (xi_ok0_37)) (xi_c (xi_ok0_38) (xi_ok0_39))) (xi_c (xi_c (xi_ok0_40) (xi_ok0_41)) (xi_c (xi_ok0_42) (xi_c (xi_ok0_43) (xi_ok0_44))))) (xi_c (xi_c (xi_c (xi_ok0_45) (xi_ok0_46)) (xi_c (xi_ok0_47) (xi_ok0_48))) (xi_c (xi_c (xi_ok0_49) (xi_ok0_50)) (xi_c (xi_ok0_51) (xi_c (xi_ok0_52) (xi_ok0_53)))))) (xi_c (xi_c (xi_c (xi_c (xi_ok0_54) (xi_ok0_55)) (xi_c (xi_ok0_56) (xi_ok0_57))) (xi_c (xi_c (xi_ok0_58) (xi_ok0_59)) (xi_c (xi_ok0_60) (xi_c (xi_ok0_61) (xi_ok0_62))))) (xi_c (xi_c (xi_c (xi_ok0_63) (xi_ok0_64)) (xi_c (xi_ok0_65) (xi_ok0_66))) (xi_c (xi_c (xi_ok0_67) (xi_ok0_68)) (xi_c (xi_ok0_69) (xi_c (xi_ok0_70) (xi_ok0_71)))))))) (xi_c (xi_c (xi_c (xi_c (xi_c (xi_c (xi_ok0_72) (xi_ok0_73)) (xi_c (xi_ok0_74) (xi_ok0_75))) (xi_c (xi_c (xi_ok0_76) (xi_ok0_77)) (xi_c (xi_ok0_78) (xi_c (xi_ok0_79) (xi_ok0_80))))) (xi_c (xi_c (xi_c (xi_ok0_81) (xi_ok0_82)) (xi_c (xi_ok0_83) (xi_ok0_84))) (xi_c (xi_c (xi_ok0_85) (xi_ok0_86)) (xi_c (xi_ok0_87) (xi_c (xi_ok0_88) (xi_ok0_89)))))) (xi_c (xi_c (xi_c (xi_c (xi_ok0_90) (xi_ok0_91)) (xi_c (xi_ok0_92) (xi_ok0_93))) (xi_c (xi_c (xi_ok0_94) (xi_ok0_95)) (xi_c (xi_ok0_96) (xi_c (xi_ok0_97) (xi_ok0_98))))) (xi_c (xi_c (xi_c (xi_ok0_99) (xi_ok0_100)) (xi_c (xi_ok0_101) (xi_ok0_102))) (xi_c (xi_c (xi_ok0_103) (xi_ok0_104)) (xi_c (xi_ok0_105) (xi_c (xi_ok0_106) (xi_ok0_107))))))) (xi_c (xi_c (xi_c (xi_c (xi_c (xi_ok0_108) (xi_ok0_109)) (xi_c (xi_ok0_110) (xi_ok0_111))) (xi_c (xi_c (xi_ok0_112) (xi_ok0_113)) (xi_c (xi_ok0_114) (xi_c (xi_ok0_115) (xi_ok0_116))))) (xi_c (xi_c (xi_c (xi_ok0_117) (xi_ok0_118)) (xi_c (xi_ok0_119) (xi_ok0_120))) (xi_c (xi_c (xi_ok0_121) (xi_ok0_122)) (xi_c (xi_ok0_123) (xi_c (xi_ok0_124) (xi_ok0_125)))))) (xi_c (xi_c (xi_c (xi_c (xi_ok0_126) (xi_ok0_127)) (xi_c (xi_ok0_128) (xi_ok0_129))) (xi_c (xi_c (xi_ok0_130) (xi_ok0_131)) (xi_c (xi_ok0_132) (xi_c (xi_ok0_133) (xi_ok0_134))))) (xi_c (xi_c (xi_c (xi_ok0_135) (xi_ok0_136)) (xi_c (xi_ok0_137) (xi_c (xi_ok0_138) (xi_ok0_139)))) (xi_c (xi_c (xi_ok0_140) (xi_ok0_141)) (xi_c (xi_ok0_142) (xi_c (xi_ok0_143) (xi_ok0_144))))))))) (xi_c (xi_c (xi_c (xi_c (xi_c (xi_c (xi_c (xi_ok0_145) (xi_ok0_146)) (xi_c (xi_ok0_147) (xi_ok0_148))) (xi_c (xi_c (xi_ok0_149) (xi_ok0_150)) (xi_c (xi_ok0_151) (xi_c (xi_ok0_152) (xi_ok0_153))))) (xi_c (xi_c (xi_c (xi_ok0_154) (xi_ok0_155)) (xi_c (xi_ok0_156) (xi_ok0_157))) (xi_c (xi_c (xi_ok0_158) (xi_ok0_159)) (xi_c (xi_ok0_160) (xi_c (xi_ok0_161) (xi_ok0_162)))))) (xi_c (xi_c (xi_c (xi_c (xi_ok0_163) (xi_ok0_164)) (xi_c (xi_ok0_165) (xi_ok0_166))) (xi_c (xi_c (xi_ok0_167) (xi_ok0_168)) (xi_c (xi_ok0_169) (xi_c (xi_ok0_170) (xi_ok0_171))))) (xi_c (xi_c (xi_c (xi_ok0_172) (xi_ok0_173)) (xi_c (xi_ok0_174) (xi_ok0_175))) (xi_c (xi_c (xi_ok0_176) (xi_ok0_177)) (xi_c (xi_ok0_178) (xi_c (xi_ok0_179) (xi_ok0_180))))))) (xi_c (xi_c (xi_c (xi_c (xi_c (xi_ok0_181) (xi_ok0_182)) (xi_c (xi_ok0_183) (xi_ok0_184))) (xi_c (xi_c (xi_ok0_185) (xi_ok0_186)) (xi_c (xi_ok0_187) (xi_c (xi_ok0_188) (xi_ok0_189))))) (xi_c (xi_c (xi_c (xi_ok0_190) (xi_ok0_191)) (xi_c (xi_ok0_192) (xi_ok0_193))) (xi_c (xi_c (xi_ok0_194) (xi_ok0_195)) (xi_c (xi_ok0_196) (xi_c (xi_ok0_197) (xi_ok0_198)))))) (xi_c (xi_c (xi_c (xi_c (xi_ok0_199) (xi_ok0_200)) (xi_c (xi_ok0_201) (xi_ok0_202))) (xi_c (xi_c (xi_ok0_203) (xi_ok0_204)) (xi_c (xi_ok0_205) (xi_c (xi_ok0_206) (xi_ok0_207))))) (xi_c (xi_c (xi_c (xi_ok0_208) (xi_ok0_209)) (xi_c (xi_ok0_210) (xi_ok0_211))) (xi_c (xi_c (xi_ok0_212) (xi_ok0_213)) (xi_c (xi_ok0_214) (xi_c (xi_ok0_215) (xi_ok0_216)))))))) (xi_c (xi_c (xi_c (xi_c (xi_c (xi_c (xi_ok0_217) (xi_ok0_218)) (xi_c (xi_ok0_219) (xi_ok0_220))) (xi_c (xi_c (xi_ok0_221) (xi_ok0_222)) (xi_c (xi_ok0_223) (xi_c (xi_ok0_224) (xi_ok0_225))))) (xi_c (xi_c (xi_c (xi_ok0_226) (xi_ok0_227)) (xi_c (xi_ok0_228) (xi_ok0_229))) (xi_c (xi_c (xi_ok0_230) (xi_ok0_231)) (xi_c (xi_ok0_232) (xi_c (xi_ok0_233) (xi_ok0_234)))))) (xi_c (xi_c (xi_c (xi_c (xi_ok0_235) (xi_ok0_236)) (xi_c (xi_ok0_237) (xi_ok0_238))) (xi_c (xi_c (xi_ok0_239) (xi_ok0_240)) (xi_c (xi_ok0_241) (xi_c (xi_ok0_242) (xi_ok0_243))))) (xi_c (xi_c (xi_c (xi_ok0_244) (xi_ok0_245)) (xi_c (xi_ok0_246) (xi_ok0_247))) (xi_c (xi_c (xi_ok0_248) (xi_ok0_249)) (xi_c (xi_ok0_250) (xi_c (xi_ok0_251) (xi_ok0_252))))))) (xi_c (xi_c (xi_c (xi_c (xi_c (xi_ok0_253) (xi_ok0_254)) (xi_c (xi_ok0_255) (xi_ok0_256))) (xi_c (xi_c (xi_ok0_257) (xi_ok0_258)) (xi_c (xi_ok0_259) (xi_c (xi_ok0_260) (xi_ok0_261))))) (xi_c (xi_c (xi_c (xi_ok0_262) (xi_ok0_263)) (xi_c (xi_ok0_264) (xi_ok0_265))) (xi_c (xi_c (xi_ok0_266) (xi_ok0_267)) (xi_c (xi_ok0_268) (xi_c (xi_ok0_269) (xi_ok0_270)))))) (xi_c (xi_c (xi_c (xi_c (xi_ok0_271) (xi_ok0_272)) (xi_c (xi_ok0_273) (xi_ok0_274))) (xi_c (xi_c (xi_ok0_275) (xi_ok0_276)) (xi_c (xi_ok0_277) (xi_c (xi_ok0_278) (xi_ok0_279))))) (xi_c (xi_c (xi_c (xi_ok0_280) (xi_ok0_281)) (xi_c (xi_ok0_282) (xi_c (xi_ok0_283) (xi_ok0_284)))) (xi_c (xi_c (xi_ok0_285) (xi_ok0_286)) (xi_c (xi_ok0_287) (xi_c (xi_ok0_288) (xi_ok0_289)))))))))
def xi_1_0 : XIs := [(0, .aload_n 2, 1), (1, .iconst 0, 1), (2, .aload_n 0, 1), (3, .iload_n 1, 1), (4, .invokevirtual 7, 3), (7, .i2l, 1), (8, .lastore, 1), (9, .goto 9, 3), (12, .astore_n 3, 1), (13, .iconst 1, 1), (14, .ireturn, 1), (15, .astore_n 3, 1), (16, .iconst 2, 1), (17, .ireturn, 1), (18, .iconst 0, 1), (19, .ireturn, 1)]
set_option maxRecDepth 100000 in
theorem xi_ok1_0 : xi_ok cL_node xi_1_0 = true := by decide +kernel
def xi_1 (pc : Nat) : XIs := xi_1_0
theorem xi_ok1 (pc : Nat) : xi_ok cL_node (xi_1 pc) = true := xi_ok1_0
def xi_2_0 : XIs := [(0, .aload 6, 2), (2, .iconst 0, 1), (3, .aload_n 0, 1), (4, .iload_n 1, 1), (5, .iload_n 2, 1), (6, .iload_n 3, 1), (7, .iload 4, 2), (9, .iload 5, 2), (11, .invokevirtual 17, 3), (14, .i2l, 1), (15, .lastore, 1), (16, .goto 11, 3), (19, .astore 7, 2), (21, .iconst 1, 1), (22, .ireturn, 1), (23, .astore 7, 2)]
set_option maxRecDepth 100000 in
theorem xi_ok2_0 : xi_ok cL_arc xi_2_0 = true := by decide +kernel
def xi_2_1 : XIs := [(25, .iconst 2, 1), (26, .ireturn, 1), (27, .iconst 0, 1), (28, .ireturn, 1)]
set_option maxRecDepth 100000 in
theorem xi_ok2_1 : xi_ok cL_arc xi_2_1 = true := by decide +kernel
def xi_2 (pc : Nat) : XIs := cond (Nat.blt pc 25) (xi_2_0) (xi_2_1)
theorem xi_ok2 (pc : Nat) : xi_ok cL_arc (xi_2 pc) = true := xi_c (xi_ok2_0) (xi_ok2_1)
def xi_3_0 : XIs := [(0, .aload_n 2, 1), (1, .iconst 0, 1), (2, .aload_n 0, 1), (3, .iload_n 1, 1), (4, .invokevirtual 21, 3), (7, .i2l, 1), (8, .lastore, 1), (9, .goto 9, 3), (12, .astore_n 3, 1), (13, .iconst 1, 1), (14, .ireturn, 1), (15, .astore_n 3, 1), (16, .iconst 2, 1), (17, .ireturn, 1), (18, .iconst 0, 1), (19, .ireturn, 1)]
set_option maxRecDepth 100000 in
theorem xi_ok3_0 : xi_ok cL_take xi_3_0 = true := by decide +kernel
def xi_3 (pc : Nat) : XIs := xi_3_0
theorem xi_ok3 (pc : Nat) : xi_ok cL_take (xi_3 pc) = true := xi_ok3_0
def xi_4_0 : XIs := [(0, .aload 4, 2), (2, .iconst 0, 1), (3, .aload_n 0, 1), (4, .iload_n 1, 1), (5, .iload_n 2, 1), (6, .iload_n 3, 1), (7, .invokevirtual 24, 3), (10, .i2l, 1), (11, .lastore, 1), (12, .goto 11, 3), (15, .astore 5, 2), (17, .iconst 1, 1), (18, .ireturn, 1), (19, .astore 5, 2), (21, .iconst 2, 1), (22, .ireturn, 1)]
set_option maxRecDepth 100000 in
theorem xi_ok4_0 : xi_ok cL_set xi_4_0 = true := by decide +kernel
def xi_4_1 : XIs := [(23, .iconst 0, 1), (24, .ireturn, 1)]
set_option maxRecDepth 100000 in
theorem xi_ok4_1 : xi_ok cL_set xi_4_1 = true := by decide +kernel
def xi_4 (pc : Nat) : XIs := cond (Nat.blt pc 23) (xi_4_0) (xi_4_1)
theorem xi_ok4 (pc : Nat) : xi_ok cL_set (xi_4 pc) = true := xi_c (xi_ok4_0) (xi_ok4_1)
def xi_5_0 : XIs := [(0, .aload_n 3, 1), (1, .iconst 0, 1), (2, .aload_n 0, 1), (3, .iload_n 1, 1), (4, .iload_n 2, 1), (5, .invokevirtual 28, 3), (8, .i2l, 1), (9, .lastore, 1), (10, .goto 11, 3), (13, .astore 4, 2), (15, .iconst 1, 1), (16, .ireturn, 1), (17, .astore 4, 2), (19, .iconst 2, 1), (20, .ireturn, 1), (21, .iconst 0, 1)]
set_option maxRecDepth 100000 in
theorem xi_ok5_0 : xi_ok cL_label xi_5_0 = true := by decide +kernel
def xi_5_1 : XIs := [(22, .ireturn, 1)]
set_option maxRecDepth 100000 in
theorem xi_ok5_1 : xi_ok cL_label xi_5_1 = true := by decide +kernel
def xi_5 (pc : Nat) : XIs := cond (Nat.blt pc 22) (xi_5_0) (xi_5_1)
theorem xi_ok5 (pc : Nat) : xi_ok cL_label (xi_5 pc) = true := xi_c (xi_ok5_0) (xi_ok5_1)
def xi_6_0 : XIs := [(0, .aload_n 2, 1), (1, .iconst 0, 1), (2, .aload_n 0, 1), (3, .iload_n 1, 1), (4, .invokevirtual 32, 3), (7, .i2l, 1), (8, .lastore, 1), (9, .goto 6, 3), (12, .astore_n 3, 1), (13, .iconst 1, 1), (14, .ireturn, 1), (15, .iconst 0, 1), (16, .ireturn, 1)]
set_option maxRecDepth 100000 in
theorem xi_ok6_0 : xi_ok cL_view xi_6_0 = true := by decide +kernel
def xi_6 (pc : Nat) : XIs := xi_6_0
theorem xi_ok6 (pc : Nat) : xi_ok cL_view (xi_6 pc) = true := xi_ok6_0
def xi_7_0 : XIs := [(0, .aload_n 2, 1), (1, .iconst 0, 1), (2, .aload_n 0, 1), (3, .iload_n 1, 1), (4, .invokevirtual 35, 3), (7, .i2l, 1), (8, .lastore, 1), (9, .goto 6, 3), (12, .astore_n 3, 1), (13, .iconst 1, 1), (14, .ireturn, 1), (15, .iconst 0, 1), (16, .ireturn, 1)]
set_option maxRecDepth 100000 in
theorem xi_ok7_0 : xi_ok cL_size xi_7_0 = true := by decide +kernel
def xi_7 (pc : Nat) : XIs := xi_7_0
theorem xi_ok7 (pc : Nat) : xi_ok cL_size (xi_7 pc) = true := xi_ok7_0
def xi_8_0 : XIs := [(0, .aload_n 3, 1), (1, .iconst 0, 1), (2, .aload_n 0, 1), (3, .iload_n 1, 1), (4, .iload_n 2, 1), (5, .invokevirtual 38, 3), (8, .lastore, 1), (9, .goto 7, 3), (12, .astore 4, 2), (14, .iconst 1, 1), (15, .ireturn, 1), (16, .iconst 0, 1), (17, .ireturn, 1)]
set_option maxRecDepth 100000 in
theorem xi_ok8_0 : xi_ok cL_told xi_8_0 = true := by decide +kernel
def xi_8 (pc : Nat) : XIs := xi_8_0
theorem xi_ok8 (pc : Nat) : xi_ok cL_told (xi_8 pc) = true := xi_ok8_0
def xi_9_0 : XIs := [(0, .aload_n 2, 1), (1, .iconst 0, 1), (2, .aload_n 0, 1), (3, .iload_n 1, 1), (4, .invokevirtual 42, 3), (7, .i2l, 1), (8, .lastore, 1), (9, .goto 6, 3), (12, .astore_n 3, 1), (13, .iconst 1, 1), (14, .ireturn, 1), (15, .iconst 0, 1), (16, .ireturn, 1)]
set_option maxRecDepth 100000 in
theorem xi_ok9_0 : xi_ok cL_labelOf xi_9_0 = true := by decide +kernel
def xi_9 (pc : Nat) : XIs := xi_9_0
theorem xi_ok9 (pc : Nat) : xi_ok cL_labelOf (xi_9 pc) = true := xi_ok9_0
def xi_10_0 : XIs := [(0, .aload 4, 2), (2, .iconst 0, 1), (3, .aload_n 0, 1), (4, .iload_n 1, 1), (5, .iload_n 2, 1), (6, .iload_n 3, 1), (7, .invokevirtual 45, 3), (10, .i2l, 1), (11, .lastore, 1), (12, .goto 7, 3), (15, .astore 5, 2), (17, .iconst 1, 1), (18, .ireturn, 1), (19, .iconst 0, 1), (20, .ireturn, 1)]
set_option maxRecDepth 100000 in
theorem xi_ok10_0 : xi_ok cL_arcAt xi_10_0 = true := by decide +kernel
def xi_10 (pc : Nat) : XIs := xi_10_0
theorem xi_ok10 (pc : Nat) : xi_ok cL_arcAt (xi_10 pc) = true := xi_ok10_0
def xi_11_0 : XIs := [(0, .aload_n 2, 1), (1, .iconst 0, 1), (2, .aload_n 0, 1), (3, .iload_n 1, 1), (4, .invokevirtual 48, 3), (7, .i2l, 1), (8, .lastore, 1), (9, .goto 9, 3), (12, .astore_n 3, 1), (13, .iconst 1, 1), (14, .ireturn, 1), (15, .astore_n 3, 1), (16, .iconst 2, 1), (17, .ireturn, 1), (18, .iconst 0, 1), (19, .ireturn, 1)]
set_option maxRecDepth 100000 in
theorem xi_ok11_0 : xi_ok cL_type xi_11_0 = true := by decide +kernel
def xi_11 (pc : Nat) : XIs := xi_11_0
theorem xi_ok11 (pc : Nat) : xi_ok cL_type (xi_11 pc) = true := xi_ok11_0
def xi_12_0 : XIs := [(0, .aload_n 2, 1), (1, .iconst 0, 1), (2, .aload_n 0, 1), (3, .iload_n 1, 1), (4, .invokevirtual 51, 3), (7, .i2l, 1), (8, .lastore, 1), (9, .goto 6, 3), (12, .astore_n 3, 1), (13, .iconst 1, 1), (14, .ireturn, 1), (15, .iconst 0, 1), (16, .ireturn, 1)]
set_option maxRecDepth 100000 in
theorem xi_ok12_0 : xi_ok cL_fault xi_12_0 = true := by decide +kernel
def xi_12 (pc : Nat) : XIs := xi_12_0
theorem xi_ok12 (pc : Nat) : xi_ok cL_fault (xi_12 pc) = true := xi_ok12_0
def xi_13_0 : XIs := [(0, .aload_n 2, 1), (1, .iconst 0, 1), (2, .aload_n 0, 1), (3, .iload_n 1, 1), (4, .invokevirtual 54, 3), (7, .i2l, 1), (8, .lastore, 1), (9, .goto 6, 3), (12, .astore_n 3, 1), (13, .iconst 1, 1), (14, .ireturn, 1), (15, .iconst 0, 1), (16, .ireturn, 1)]
set_option maxRecDepth 100000 in
theorem xi_ok13_0 : xi_ok cL_printed xi_13_0 = true := by decide +kernel
def xi_13 (pc : Nat) : XIs := xi_13_0
theorem xi_ok13 (pc : Nat) : xi_ok cL_printed (xi_13 pc) = true := xi_ok13_0
def xi_14_0 : XIs := [(0, .aload_n 3, 1), (1, .iconst 0, 1), (2, .aload_n 0, 1), (3, .iload_n 1, 1), (4, .iload_n 2, 1), (5, .invokevirtual 57, 3), (8, .lastore, 1), (9, .goto 7, 3), (12, .astore 4, 2), (14, .iconst 1, 1), (15, .ireturn, 1), (16, .iconst 0, 1), (17, .ireturn, 1)]
set_option maxRecDepth 100000 in
theorem xi_ok14_0 : xi_ok cL_distance xi_14_0 = true := by decide +kernel
def xi_14 (pc : Nat) : XIs := xi_14_0
theorem xi_ok14 (pc : Nat) : xi_ok cL_distance (xi_14 pc) = true := xi_ok14_0
def xi_15_0 : XIs := [(0, .aload 4, 2), (2, .iconst 0, 1), (3, .aload_n 0, 1), (4, .iload_n 1, 1), (5, .iload_n 2, 1), (6, .iload_n 3, 1), (7, .invokevirtual 60, 3), (10, .i2l, 1), (11, .lastore, 1), (12, .goto 7, 3), (15, .astore 5, 2), (17, .iconst 1, 1), (18, .ireturn, 1), (19, .iconst 0, 1), (20, .ireturn, 1)]
set_option maxRecDepth 100000 in
theorem xi_ok15_0 : xi_ok cL_way xi_15_0 = true := by decide +kernel
def xi_15 (pc : Nat) : XIs := xi_15_0
theorem xi_ok15 (pc : Nat) : xi_ok cL_way (xi_15 pc) = true := xi_ok15_0
def xi_16_0 : XIs := [(0, .aload_n 3, 1), (1, .iconst 0, 1), (2, .aload_n 0, 1), (3, .iload_n 1, 1), (4, .iload_n 2, 1), (5, .invokevirtual 63, 3), (8, .i2l, 1), (9, .lastore, 1), (10, .goto 7, 3), (13, .astore 4, 2), (15, .iconst 1, 1), (16, .ireturn, 1), (17, .iconst 0, 1), (18, .ireturn, 1)]
set_option maxRecDepth 100000 in
theorem xi_ok16_0 : xi_ok cL_width xi_16_0 = true := by decide +kernel
def xi_16 (pc : Nat) : XIs := xi_16_0
theorem xi_ok16 (pc : Nat) : xi_ok cL_width (xi_16 pc) = true := xi_ok16_0
def xi_17_0 : XIs := [(0, .aload_n 3, 1), (1, .iconst 0, 1), (2, .aload_n 0, 1), (3, .iload_n 1, 1), (4, .iload_n 2, 1), (5, .invokevirtual 66, 3), (8, .i2l, 1), (9, .lastore, 1), (10, .goto 7, 3), (13, .astore 4, 2), (15, .iconst 1, 1), (16, .ireturn, 1), (17, .iconst 0, 1), (18, .ireturn, 1)]
set_option maxRecDepth 100000 in
theorem xi_ok17_0 : xi_ok cL_shorts xi_17_0 = true := by decide +kernel
def xi_17 (pc : Nat) : XIs := xi_17_0
theorem xi_ok17 (pc : Nat) : xi_ok cL_shorts (xi_17 pc) = true := xi_ok17_0
def xi_18_0 : XIs := [(0, .aload 5, 2), (2, .iconst 0, 1), (3, .aload_n 0, 1), (4, .iload_n 1, 1), (5, .iload_n 2, 1), (6, .iload_n 3, 1), (7, .iload 4, 2), (9, .invokevirtual 69, 3), (12, .i2l, 1), (13, .lastore, 1), (14, .goto 7, 3), (17, .astore 6, 2), (19, .iconst 1, 1), (20, .ireturn, 1), (21, .iconst 0, 1), (22, .ireturn, 1)]
set_option maxRecDepth 100000 in
theorem xi_ok18_0 : xi_ok cL_shortArc xi_18_0 = true := by decide +kernel
def xi_18 (pc : Nat) : XIs := xi_18_0
theorem xi_ok18 (pc : Nat) : xi_ok cL_shortArc (xi_18 pc) = true := xi_ok18_0
def xi_19_0 : XIs := [(0, .aload_n 3, 1), (1, .iconst 0, 1), (2, .aload_n 0, 1), (3, .iload_n 1, 1), (4, .iload_n 2, 1), (5, .invokevirtual 73, 3), (8, .i2l, 1), (9, .lastore, 1), (10, .goto 7, 3), (13, .astore 4, 2), (15, .iconst 1, 1), (16, .ireturn, 1), (17, .iconst 0, 1), (18, .ireturn, 1)]
set_option maxRecDepth 100000 in
theorem xi_ok19_0 : xi_ok cL_part xi_19_0 = true := by decide +kernel
def xi_19 (pc : Nat) : XIs := xi_19_0
theorem xi_ok19 (pc : Nat) : xi_ok cL_part (xi_19 pc) = true := xi_ok19_0
def xi_20_0 : XIs := [(0, .aload_n 2, 1), (1, .iconst 0, 1), (2, .aload_n 0, 1), (3, .iload_n 1, 1), (4, .invokevirtual 76, 3), (7, .ifCond .eq 7, 3), (10, .lconst 1, 1), (11, .goto 4, 3), (14, .lconst 0, 1), (15, .lastore, 1), (16, .goto 6, 3), (19, .astore_n 3, 1), (20, .iconst 1, 1), (21, .ireturn, 1), (22, .iconst 0, 1), (23, .ireturn, 1)]
set_option maxRecDepth 100000 in
theorem xi_ok20_0 : xi_ok cL_bridge xi_20_0 = true := by decide +kernel
def xi_20 (pc : Nat) : XIs := xi_20_0
theorem xi_ok20 (pc : Nat) : xi_ok cL_bridge (xi_20 pc) = true := xi_ok20_0
def xi_21_0 : XIs := [(0, .aload_n 2, 1), (1, .iconst 0, 1), (2, .aload_n 0, 1), (3, .iload_n 1, 1), (4, .invokevirtual 80, 3), (7, .ifCond .eq 7, 3), (10, .lconst 1, 1), (11, .goto 4, 3), (14, .lconst 0, 1), (15, .lastore, 1), (16, .goto 6, 3), (19, .astore_n 3, 1), (20, .iconst 1, 1), (21, .ireturn, 1), (22, .iconst 0, 1), (23, .ireturn, 1)]
set_option maxRecDepth 100000 in
theorem xi_ok21_0 : xi_ok cL_cut xi_21_0 = true := by decide +kernel
def xi_21 (pc : Nat) : XIs := xi_21_0
theorem xi_ok21 (pc : Nat) : xi_ok cL_cut (xi_21 pc) = true := xi_ok21_0
def xi_22_0 : XIs := [(0, .aload_n 2, 1), (1, .iconst 0, 1), (2, .aload_n 0, 1), (3, .iload_n 1, 1), (4, .invokevirtual 83, 3), (7, .i2l, 1), (8, .lastore, 1), (9, .goto 6, 3), (12, .astore_n 3, 1), (13, .iconst 1, 1), (14, .ireturn, 1), (15, .iconst 0, 1), (16, .ireturn, 1)]
set_option maxRecDepth 100000 in
theorem xi_ok22_0 : xi_ok cL_order xi_22_0 = true := by decide +kernel
def xi_22 (pc : Nat) : XIs := xi_22_0
theorem xi_ok22 (pc : Nat) : xi_ok cL_order (xi_22 pc) = true := xi_ok22_0
def xi_23_0 : XIs := [(0, .aload_n 2, 1), (1, .iconst 0, 1), (2, .aload_n 0, 1), (3, .iload_n 1, 1), (4, .invokevirtual 86, 3), (7, .i2l, 1), (8, .lastore, 1), (9, .goto 6, 3), (12, .astore_n 3, 1), (13, .iconst 1, 1), (14, .ireturn, 1), (15, .iconst 0, 1), (16, .ireturn, 1)]
set_option maxRecDepth 100000 in
theorem xi_ok23_0 : xi_ok cL_core xi_23_0 = true := by decide +kernel
def xi_23 (pc : Nat) : XIs := xi_23_0
theorem xi_ok23 (pc : Nat) : xi_ok cL_core (xi_23 pc) = true := xi_ok23_0
def xi_24_0 : XIs := [(0, .aload_n 2, 1), (1, .iconst 0, 1), (2, .aload_n 0, 1), (3, .iload_n 1, 1), (4, .invokevirtual 89, 3), (7, .i2l, 1), (8, .lastore, 1), (9, .goto 6, 3), (12, .astore_n 3, 1), (13, .iconst 1, 1), (14, .ireturn, 1), (15, .iconst 0, 1), (16, .ireturn, 1)]
set_option maxRecDepth 100000 in
theorem xi_ok24_0 : xi_ok cL_clique xi_24_0 = true := by decide +kernel
def xi_24 (pc : Nat) : XIs := xi_24_0
theorem xi_ok24 (pc : Nat) : xi_ok cL_clique (xi_24 pc) = true := xi_ok24_0
def xi_25_0 : XIs := [(0, .aload_n 2, 1), (1, .iconst 0, 1), (2, .aload_n 0, 1), (3, .iload_n 1, 1), (4, .invokevirtual 92, 3), (7, .i2l, 1), (8, .lastore, 1), (9, .goto 6, 3), (12, .astore_n 3, 1), (13, .iconst 1, 1), (14, .ireturn, 1), (15, .iconst 0, 1), (16, .ireturn, 1)]
set_option maxRecDepth 100000 in
theorem xi_ok25_0 : xi_ok cL_colour xi_25_0 = true := by decide +kernel
def xi_25 (pc : Nat) : XIs := xi_25_0
theorem xi_ok25 (pc : Nat) : xi_ok cL_colour (xi_25 pc) = true := xi_ok25_0
def xi_26_0 : XIs := [(0, .aload_n 3, 1), (1, .iconst 0, 1), (2, .aload_n 0, 1), (3, .iload_n 1, 1), (4, .iload_n 2, 1), (5, .invokevirtual 95, 3), (8, .lastore, 1), (9, .goto 7, 3), (12, .astore 4, 2), (14, .iconst 1, 1), (15, .ireturn, 1), (16, .iconst 0, 1), (17, .ireturn, 1)]
set_option maxRecDepth 100000 in
theorem xi_ok26_0 : xi_ok cL_flow xi_26_0 = true := by decide +kernel
def xi_26 (pc : Nat) : XIs := xi_26_0
theorem xi_ok26 (pc : Nat) : xi_ok cL_flow (xi_26 pc) = true := xi_ok26_0
def xi_27_0 : XIs := [(0, .aload 4, 2), (2, .iconst 0, 1), (3, .aload_n 0, 1), (4, .iload_n 1, 1), (5, .iload_n 2, 1), (6, .iload_n 3, 1), (7, .invokevirtual 98, 3), (10, .ifCond .eq 7, 3), (13, .lconst 1, 1), (14, .goto 4, 3), (17, .lconst 0, 1), (18, .lastore, 1), (19, .goto 7, 3), (22, .astore 5, 2), (24, .iconst 1, 1), (25, .ireturn, 1)]
set_option maxRecDepth 100000 in
theorem xi_ok27_0 : xi_ok cL_side xi_27_0 = true := by decide +kernel
def xi_27_1 : XIs := [(26, .iconst 0, 1), (27, .ireturn, 1)]
set_option maxRecDepth 100000 in
theorem xi_ok27_1 : xi_ok cL_side xi_27_1 = true := by decide +kernel
def xi_27 (pc : Nat) : XIs := cond (Nat.blt pc 26) (xi_27_0) (xi_27_1)
theorem xi_ok27 (pc : Nat) : xi_ok cL_side (xi_27 pc) = true := xi_c (xi_ok27_0) (xi_ok27_1)
def xi_28_0 : XIs := [(0, .aload 4, 2), (2, .iconst 0, 1), (3, .aload_n 0, 1), (4, .iload_n 1, 1), (5, .iload_n 2, 1), (6, .iload_n 3, 1), (7, .invokevirtual 102, 3), (10, .lastore, 1), (11, .goto 7, 3), (14, .astore 5, 2), (16, .iconst 1, 1), (17, .ireturn, 1), (18, .iconst 0, 1), (19, .ireturn, 1)]
set_option maxRecDepth 100000 in
theorem xi_ok28_0 : xi_ok cL_cost xi_28_0 = true := by decide +kernel
def xi_28 (pc : Nat) : XIs := xi_28_0
theorem xi_ok28 (pc : Nat) : xi_ok cL_cost (xi_28 pc) = true := xi_ok28_0
def xi_29_0 : XIs := [(0, .aload_n 2, 1), (1, .iconst 0, 1), (2, .aload_n 0, 1), (3, .iload_n 1, 1), (4, .invokevirtual 106, 3), (7, .lastore, 1), (8, .goto 6, 3), (11, .astore_n 3, 1), (12, .iconst 1, 1), (13, .ireturn, 1), (14, .iconst 0, 1), (15, .ireturn, 1)]
set_option maxRecDepth 100000 in
theorem xi_ok29_0 : xi_ok cL_pairing xi_29_0 = true := by decide +kernel
def xi_29 (pc : Nat) : XIs := xi_29_0
theorem xi_ok29 (pc : Nat) : xi_ok cL_pairing (xi_29 pc) = true := xi_ok29_0
def xi_30_0 : XIs := [(0, .aload_n 2, 1), (1, .iconst 0, 1), (2, .aload_n 0, 1), (3, .iload_n 1, 1), (4, .invokevirtual 110, 3), (7, .lastore, 1), (8, .goto 6, 3), (11, .astore_n 3, 1), (12, .iconst 1, 1), (13, .ireturn, 1), (14, .iconst 0, 1), (15, .ireturn, 1)]
set_option maxRecDepth 100000 in
theorem xi_ok30_0 : xi_ok cL_tree xi_30_0 = true := by decide +kernel
def xi_30 (pc : Nat) : XIs := xi_30_0
theorem xi_ok30 (pc : Nat) : xi_ok cL_tree (xi_30 pc) = true := xi_ok30_0
def xi_31_0 : XIs := [(0, .aload_n 2, 1), (1, .iconst 0, 1), (2, .aload_n 0, 1), (3, .iload_n 1, 1), (4, .invokevirtual 113, 3), (7, .ifCond .eq 7, 3), (10, .lconst 1, 1), (11, .goto 4, 3), (14, .lconst 0, 1), (15, .lastore, 1), (16, .goto 6, 3), (19, .astore_n 3, 1), (20, .iconst 1, 1), (21, .ireturn, 1), (22, .iconst 0, 1), (23, .ireturn, 1)]
set_option maxRecDepth 100000 in
theorem xi_ok31_0 : xi_ok cL_span xi_31_0 = true := by decide +kernel
def xi_31 (pc : Nat) : XIs := xi_31_0
theorem xi_ok31 (pc : Nat) : xi_ok cL_span (xi_31 pc) = true := xi_ok31_0
def xi_32_0 : XIs := [(0, .aload_n 3, 1), (1, .iconst 0, 1), (2, .aload_n 0, 1), (3, .iload_n 1, 1), (4, .iload_n 2, 1), (5, .invokevirtual 116, 3), (8, .lastore, 1), (9, .goto 7, 3), (12, .astore 4, 2), (14, .iconst 1, 1), (15, .ireturn, 1), (16, .iconst 0, 1), (17, .ireturn, 1)]
set_option maxRecDepth 100000 in
theorem xi_ok32_0 : xi_ok cL_rank xi_32_0 = true := by decide +kernel
def xi_32 (pc : Nat) : XIs := xi_32_0
theorem xi_ok32 (pc : Nat) : xi_ok cL_rank (xi_32 pc) = true := xi_ok32_0
def xi_33_0 : XIs := [(0, .aload 5, 2), (2, .iconst 0, 1), (3, .aload_n 0, 1), (4, .iload_n 1, 1), (5, .iload_n 2, 1), (6, .iload_n 3, 1), (7, .iload 4, 2), (9, .invokevirtual 119, 3), (12, .i2l, 1), (13, .lastore, 1), (14, .goto 7, 3), (17, .astore 6, 2), (19, .iconst 1, 1), (20, .ireturn, 1), (21, .iconst 0, 1), (22, .ireturn, 1)]
set_option maxRecDepth 100000 in
theorem xi_ok33_0 : xi_ok cL_shortest xi_33_0 = true := by decide +kernel
def xi_33 (pc : Nat) : XIs := xi_33_0
theorem xi_ok33 (pc : Nat) : xi_ok cL_shortest (xi_33 pc) = true := xi_ok33_0
def xi_34_0 : XIs := [(0, .aload_n 2, 1), (1, .iconst 0, 1), (2, .aload_n 0, 1), (3, .iload_n 1, 1), (4, .invokevirtual 122, 3), (7, .i2l, 1), (8, .lastore, 1), (9, .goto 6, 3), (12, .astore_n 3, 1), (13, .iconst 1, 1), (14, .ireturn, 1), (15, .iconst 0, 1), (16, .ireturn, 1)]
set_option maxRecDepth 100000 in
theorem xi_ok34_0 : xi_ok cL_group xi_34_0 = true := by decide +kernel
def xi_34 (pc : Nat) : XIs := xi_34_0
theorem xi_ok34 (pc : Nat) : xi_ok cL_group (xi_34 pc) = true := xi_ok34_0
def xi_35_0 : XIs := [(0, .aload_n 2, 1), (1, .iconst 0, 1), (2, .aload_n 0, 1), (3, .iload_n 1, 1), (4, .invokevirtual 125, 3), (7, .lastore, 1), (8, .goto 6, 3), (11, .astore_n 3, 1), (12, .iconst 1, 1), (13, .ireturn, 1), (14, .iconst 0, 1), (15, .ireturn, 1)]
set_option maxRecDepth 100000 in
theorem xi_ok35_0 : xi_ok cL_figures xi_35_0 = true := by decide +kernel
def xi_35 (pc : Nat) : XIs := xi_35_0
theorem xi_ok35 (pc : Nat) : xi_ok cL_figures (xi_35 pc) = true := xi_ok35_0
def xi_36_0 : XIs := [(0, .aload_n 3, 1), (1, .iconst 0, 1), (2, .aload_n 0, 1), (3, .iload_n 1, 1), (4, .iload_n 2, 1), (5, .invokevirtual 128, 3), (8, .i2l, 1), (9, .lastore, 1), (10, .goto 7, 3), (13, .astore 4, 2), (15, .iconst 1, 1), (16, .ireturn, 1), (17, .iconst 0, 1), (18, .ireturn, 1)]
set_option maxRecDepth 100000 in
theorem xi_ok36_0 : xi_ok cL_fits xi_36_0 = true := by decide +kernel
def xi_36 (pc : Nat) : XIs := xi_36_0
theorem xi_ok36 (pc : Nat) : xi_ok cL_fits (xi_36 pc) = true := xi_ok36_0
def xi_37_0 : XIs := [(0, .aload 6, 2), (2, .iconst 0, 1), (3, .aload_n 0, 1), (4, .iload_n 1, 1), (5, .iload_n 2, 1), (6, .iload_n 3, 1), (7, .lload 4, 2), (9, .invokevirtual 131, 3), (12, .i2l, 1), (13, .lastore, 1), (14, .goto 7, 3), (17, .astore 7, 2), (19, .iconst 1, 1), (20, .ireturn, 1), (21, .iconst 0, 1), (22, .ireturn, 1)]
set_option maxRecDepth 100000 in
theorem xi_ok37_0 : xi_ok cL_run xi_37_0 = true := by decide +kernel
def xi_37 (pc : Nat) : XIs := xi_37_0
theorem xi_ok37 (pc : Nat) : xi_ok cL_run (xi_37 pc) = true := xi_ok37_0
def xi_38_0 : XIs := [(0, .aload_n 2, 1), (1, .iconst 0, 1), (2, .aload_n 0, 1), (3, .iload_n 1, 1), (4, .invokevirtual 135, 3), (7, .lastore, 1), (8, .goto 6, 3), (11, .astore_n 3, 1), (12, .iconst 1, 1), (13, .ireturn, 1), (14, .iconst 0, 1), (15, .ireturn, 1)]
set_option maxRecDepth 100000 in
theorem xi_ok38_0 : xi_ok cL_state xi_38_0 = true := by decide +kernel
def xi_38 (pc : Nat) : XIs := xi_38_0
theorem xi_ok38 (pc : Nat) : xi_ok cL_state (xi_38 pc) = true := xi_ok38_0
def xi_39_0 : XIs := [(0, .aload_n 2, 1), (1, .iconst 0, 1), (2, .aload_n 0, 1), (3, .iload_n 1, 1), (4, .invokevirtual 138, 3), (7, .i2l, 1), (8, .lastore, 1), (9, .goto 6, 3), (12, .astore_n 3, 1), (13, .iconst 1, 1), (14, .ireturn, 1), (15, .iconst 0, 1), (16, .ireturn, 1)]
set_option maxRecDepth 100000 in
theorem xi_ok39_0 : xi_ok cL_letters xi_39_0 = true := by decide +kernel
def xi_39 (pc : Nat) : XIs := xi_39_0
theorem xi_ok39 (pc : Nat) : xi_ok cL_letters (xi_39 pc) = true := xi_ok39_0
def xi_40_0 : XIs := [(0, .aload_n 0, 1), (1, .invokespecial 3, 3), (4, .aload_n 0, 1), (5, .iconst (-1), 1), (6, .putfield 9, 3), (9, .aload_n 0, 1), (10, .iconst (-1), 1), (11, .putfield 15, 3), (14, .aload_n 0, 1), (15, .bipush 32, 2), (17, .newarray .int, 2), (19, .putfield 18, 3), (22, .aload_n 0, 1), (23, .bipush 32, 2), (25, .newarray .int, 2), (27, .putfield 22, 3)]
set_option maxRecDepth 100000 in
theorem xi_ok40_0 : xi_ok cX0_init xi_40_0 = true := by decide +kernel
def xi_40_1 : XIs := [(30, .aload_n 0, 1), (31, .bipush 32, 2), (33, .newarray .int, 2), (35, .putfield 25, 3), (38, .aload_n 0, 1), (39, .bipush 32, 2), (41, .newarray .int, 2), (43, .putfield 28, 3), (46, .return_, 1)]
set_option maxRecDepth 100000 in
theorem xi_ok40_1 : xi_ok cX0_init xi_40_1 = true := by decide +kernel
def xi_40 (pc : Nat) : XIs := cond (Nat.blt pc 30) (xi_40_0) (xi_40_1)
theorem xi_ok40 (pc : Nat) : xi_ok cX0_init (xi_40 pc) = true := xi_c (xi_ok40_0) (xi_ok40_1)
def xi_41_0 : XIs := [(0, .aload_n 0, 1), (1, .getfield 9, 3), (4, .aload_n 1, 1), (5, .getfield 31, 3), (8, .if_icmp .eq 34, 3), (11, .aload_n 0, 1), (12, .aload_n 1, 1), (13, .getfield 31, 3), (16, .putfield 9, 3), (19, .aload_n 1, 1), (20, .invokevirtual 36, 3), (23, .aload_n 0, 1), (24, .iconst 0, 1), (25, .putfield 39, 3), (28, .aload_n 0, 1), (29, .aload_n 1, 1)]
set_option maxRecDepth 100000 in
theorem xi_ok41_0 : xi_ok cX0_greatestClique xi_41_0 = true := by decide +kernel
def xi_41_1 : XIs := [(30, .getfield 42, 3), (33, .iconst 0, 1), (34, .aload_n 1, 1), (35, .invokevirtual 45, 3), (38, .iconst 0, 1), (39, .invokevirtual 49, 3), (42, .aload_n 0, 1), (43, .getfield 39, 3), (46, .ireturn, 1)]
set_option maxRecDepth 100000 in
theorem xi_ok41_1 : xi_ok cX0_greatestClique xi_41_1 = true := by decide +kernel
def xi_41 (pc : Nat) : XIs := cond (Nat.blt pc 30) (xi_41_0) (xi_41_1)
theorem xi_ok41 (pc : Nat) : xi_ok cX0_greatestClique (xi_41 pc) = true := xi_c (xi_ok41_0) (xi_ok41_1)
def xi_42_0 : XIs := [(0, .iload_n 2, 1), (1, .invokestatic 53, 3), (4, .istore 5, 2), (6, .iload 5, 2), (8, .aload_n 0, 1), (9, .getfield 39, 3), (12, .invokestatic 53, 3), (15, .if_icmp .le 8, 3), (18, .aload_n 0, 1), (19, .iload_n 2, 1), (20, .putfield 39, 3), (23, .iload 4, 2), (25, .bipush 32, 2), (27, .if_icmp .lt 4, 3), (30, .return_, 1), (31, .iload_n 3, 1)]
set_option maxRecDepth 100000 in
theorem xi_ok42_0 : xi_ok cX0_growClique xi_42_0 = true := by decide +kernel
def xi_42_1 : XIs := [(32, .istore 6, 2), (34, .iload 6, 2), (36, .ifCond .eq 63, 3), (39, .iload 5, 2), (41, .iload 6, 2), (43, .invokestatic 53, 3), (46, .iadd, 1), (47, .aload_n 0, 1), (48, .getfield 39, 3), (51, .invokestatic 53, 3), (54, .if_icmp .gt 4, 3), (57, .return_, 1), (58, .iload 6, 2), (60, .invokestatic 59, 3), (63, .istore 7, 2), (65, .aload_n 0, 1)]
set_option maxRecDepth 100000 in
theorem xi_ok42_1 : xi_ok cX0_growClique xi_42_1 = true := by decide +kernel
def xi_42_2 : XIs := [(66, .aload_n 1, 1), (67, .iload_n 2, 1), (68, .iconst 1, 1), (69, .iload 7, 2), (71, .ishl, 1), (72, .ior, 1), (73, .iload 6, 2), (75, .aload_n 1, 1), (76, .iload 7, 2), (78, .iaload, 1), (79, .iand, 1), (80, .iload 4, 2), (82, .iconst 1, 1), (83, .iadd, 1), (84, .invokevirtual 49, 3), (87, .iload 6, 2)]
set_option maxRecDepth 100000 in
theorem xi_ok42_2 : xi_ok cX0_growClique xi_42_2 = true := by decide +kernel
def xi_42_3 : XIs := [(89, .iload 6, 2), (91, .iconst 1, 1), (92, .isub, 1), (93, .iand, 1), (94, .istore 6, 2), (96, .goto (-62), 3), (99, .return_, 1)]
set_option maxRecDepth 100000 in
theorem xi_ok42_3 : xi_ok cX0_growClique xi_42_3 = true := by decide +kernel
def xi_42 (pc : Nat) : XIs := cond (Nat.blt pc 66) (cond (Nat.blt pc 32) (xi_42_0) (xi_42_1)) (cond (Nat.blt pc 89) (xi_42_2) (xi_42_3))
theorem xi_ok42 (pc : Nat) : xi_ok cX0_growClique (xi_42 pc) = true := xi_c (xi_c (xi_ok42_0) (xi_ok42_1)) (xi_c (xi_ok42_2) (xi_ok42_3))
def xi_43_0 : XIs := [(0, .aload_n 0, 1), (1, .getfield 15, 3), (4, .aload_n 1, 1), (5, .getfield 31, 3), (8, .if_icmp .eq 16, 3), (11, .aload_n 0, 1), (12, .aload_n 1, 1), (13, .getfield 31, 3), (16, .putfield 15, 3), (19, .aload_n 0, 1), (20, .aload_n 1, 1), (21, .invokevirtual 62, 3), (24, .aload_n 0, 1), (25, .getfield 28, 3), (28, .iload_n 2, 1), (29, .iaload, 1)]
set_option maxRecDepth 100000 in
theorem xi_ok43_0 : xi_ok cX0_colourOf xi_43_0 = true := by decide +kernel
def xi_43_1 : XIs := [(30, .ireturn, 1)]
set_option maxRecDepth 100000 in
theorem xi_ok43_1 : xi_ok cX0_colourOf xi_43_1 = true := by decide +kernel
def xi_43 (pc : Nat) : XIs := cond (Nat.blt pc 30) (xi_43_0) (xi_43_1)
theorem xi_ok43 (pc : Nat) : xi_ok cX0_colourOf (xi_43 pc) = true := xi_c (xi_ok43_0) (xi_ok43_1)
def xi_44_0 : XIs := [(0, .aload_n 1, 1), (1, .invokevirtual 36, 3), (4, .aload_n 0, 1), (5, .iconst 1, 1), (6, .aload_n 0, 1), (7, .aload_n 1, 1), (8, .invokevirtual 66, 3), (11, .invokestatic 53, 3), (14, .invokestatic 70, 3), (17, .putfield 76, 3), (20, .aload_n 0, 1), (21, .iconst 0, 1), (22, .putfield 79, 3), (25, .aload_n 0, 1), (26, .getfield 18, 3), (29, .iconst 0, 1)]
set_option maxRecDepth 100000 in
theorem xi_ok44_0 : xi_ok cX0_makeColours xi_44_0 = true := by decide +kernel
def xi_44_1 : XIs := [(30, .invokestatic 82, 3), (33, .aload_n 0, 1), (34, .getfield 76, 3), (37, .bipush 32, 2), (39, .if_icmp .ge 32, 3), (42, .aload_n 0, 1), (43, .aload_n 1, 1), (44, .getfield 42, 3), (47, .aload_n 1, 1), (48, .invokevirtual 45, 3), (51, .iconst 0, 1), (52, .invokevirtual 88, 3), (55, .ifCond .ne 16, 3), (58, .aload_n 0, 1), (59, .dup, 1), (60, .getfield 76, 3)]
set_option maxRecDepth 100000 in
theorem xi_ok44_1 : xi_ok cX0_makeColours xi_44_1 = true := by decide +kernel
def xi_44_2 : XIs := [(63, .iconst 1, 1), (64, .iadd, 1), (65, .putfield 76, 3), (68, .goto (-35), 3), (71, .iconst 0, 1), (72, .istore_n 2, 1), (73, .iconst 0, 1), (74, .istore_n 3, 1), (75, .iload_n 3, 1), (76, .aload_n 1, 1), (77, .getfield 91, 3), (80, .if_icmp .ge 35, 3), (83, .aload_n 0, 1), (84, .getfield 28, 3), (87, .iload_n 3, 1), (88, .aload_n 0, 1)]
set_option maxRecDepth 100000 in
theorem xi_ok44_2 : xi_ok cX0_makeColours xi_44_2 = true := by decide +kernel
def xi_44_3 : XIs := [(89, .aload_n 1, 1), (90, .iload_n 3, 1), (91, .iload_n 2, 1), (92, .invokevirtual 94, 3), (95, .iastore, 1), (96, .iload_n 2, 1), (97, .aload_n 0, 1), (98, .getfield 28, 3), (101, .iload_n 3, 1), (102, .iaload, 1), (103, .iconst 1, 1), (104, .iadd, 1), (105, .invokestatic 70, 3), (108, .istore_n 2, 1), (109, .iinc 3 1, 3), (112, .goto (-37), 3)]
set_option maxRecDepth 100000 in
theorem xi_ok44_3 : xi_ok cX0_makeColours xi_44_3 = true := by decide +kernel
def xi_44_4 : XIs := [(115, .return_, 1)]
set_option maxRecDepth 100000 in
theorem xi_ok44_4 : xi_ok cX0_makeColours xi_44_4 = true := by decide +kernel
def xi_44 (pc : Nat) : XIs := cond (Nat.blt pc 63) (cond (Nat.blt pc 30) (xi_44_0) (xi_44_1)) (cond (Nat.blt pc 89) (xi_44_2) (cond (Nat.blt pc 115) (xi_44_3) (xi_44_4)))
theorem xi_ok44 (pc : Nat) : xi_ok cX0_makeColours (xi_44 pc) = true := xi_c (xi_c (xi_ok44_0) (xi_ok44_1)) (xi_c (xi_ok44_2) (xi_c (xi_ok44_3) (xi_ok44_4)))
def xi_45_0 : XIs := [(0, .iconst 0, 1), (1, .istore_n 2, 1), (2, .iload_n 2, 1), (3, .bipush 32, 2), (5, .if_icmp .ge 24, 3), (8, .aload_n 0, 1), (9, .getfield 18, 3), (12, .iload_n 2, 1), (13, .iaload, 1), (14, .iload_n 1, 1), (15, .ishr, 1), (16, .iconst 1, 1), (17, .iand, 1), (18, .ifCond .eq 5, 3), (21, .iload_n 2, 1), (22, .ireturn, 1)]
set_option maxRecDepth 100000 in
theorem xi_ok45_0 : xi_ok cX0_classOf xi_45_0 = true := by decide +kernel
def xi_45_1 : XIs := [(23, .iinc 2 1, 3), (26, .goto (-24), 3), (29, .iconst 0, 1), (30, .ireturn, 1)]
set_option maxRecDepth 100000 in
theorem xi_ok45_1 : xi_ok cX0_classOf xi_45_1 = true := by decide +kernel
def xi_45 (pc : Nat) : XIs := cond (Nat.blt pc 23) (xi_45_0) (xi_45_1)
theorem xi_ok45 (pc : Nat) : xi_ok cX0_classOf (xi_45 pc) = true := xi_c (xi_ok45_0) (xi_ok45_1)
def xi_46_0 : XIs := [(0, .iload_n 3, 1), (1, .bipush 32, 2), (3, .if_icmp .le 5, 3), (6, .iconst 0, 1), (7, .ireturn, 1), (8, .aload_n 0, 1), (9, .getfield 79, 3), (12, .istore 4, 2), (14, .aload_n 0, 1), (15, .aload_n 1, 1), (16, .iload_n 2, 1), (17, .invokevirtual 98, 3), (20, .istore 5, 2), (22, .iconst 0, 1), (23, .istore 6, 2), (25, .iload 6, 2)]
set_option maxRecDepth 100000 in
theorem xi_ok46_0 : xi_ok cX0_fill xi_46_0 = true := by decide +kernel
def xi_46_1 : XIs := [(27, .bipush 32, 2), (29, .if_icmp .ge 87, 3), (32, .iload 5, 2), (34, .ifCond .eq 82, 3), (37, .aload_n 1, 1), (38, .iload 5, 2), (40, .iload 5, 2), (42, .ineg, 1), (43, .iand, 1), (44, .iload 5, 2), (46, .invokestatic 102, 3), (49, .istore 7, 2), (51, .aload_n 0, 1), (52, .aload_n 1, 1), (53, .iload 7, 2), (55, .iload_n 3, 1)]
set_option maxRecDepth 100000 in
theorem xi_ok46_1 : xi_ok cX0_fill xi_46_1 = true := by decide +kernel
def xi_46_2 : XIs := [(56, .invokevirtual 106, 3), (59, .ifCond .ne 42, 3), (62, .iconst 0, 1), (63, .istore 8, 2), (65, .iload 8, 2), (67, .aload_n 0, 1), (68, .getfield 76, 3), (71, .if_icmp .ge 22, 3), (74, .aload_n 0, 1), (75, .getfield 18, 3), (78, .iload 8, 2), (80, .dup2, 1), (81, .iaload, 1), (82, .iload_n 2, 1), (83, .iconst (-1), 1), (84, .ixor, 1)]
set_option maxRecDepth 100000 in
theorem xi_ok46_2 : xi_ok cX0_fill xi_46_2 = true := by decide +kernel
def xi_46_3 : XIs := [(85, .iand, 1), (86, .iastore, 1), (87, .iinc 8 1, 3), (90, .goto (-25), 3), (93, .aload_n 0, 1), (94, .iload 4, 2), (96, .putfield 79, 3), (99, .iconst 0, 1), (100, .ireturn, 1), (101, .iload 5, 2), (103, .iload 7, 2), (105, .iconst (-1), 1), (106, .ixor, 1), (107, .iand, 1), (108, .istore 5, 2), (110, .iinc 6 1, 3)]
set_option maxRecDepth 100000 in
theorem xi_ok46_3 : xi_ok cX0_fill xi_46_3 = true := by decide +kernel
def xi_46_4 : XIs := [(113, .goto (-88), 3), (116, .aload_n 0, 1), (117, .aload_n 1, 1), (118, .iload 4, 2), (120, .invokevirtual 109, 3), (123, .iconst 1, 1), (124, .ireturn, 1)]
set_option maxRecDepth 100000 in
theorem xi_ok46_4 : xi_ok cX0_fill xi_46_4 = true := by decide +kernel
def xi_46 (pc : Nat) : XIs := cond (Nat.blt pc 56) (cond (Nat.blt pc 27) (xi_46_0) (xi_46_1)) (cond (Nat.blt pc 85) (xi_46_2) (cond (Nat.blt pc 113) (xi_46_3) (xi_46_4)))
theorem xi_ok46 (pc : Nat) : xi_ok cX0_fill (xi_46 pc) = true := xi_c (xi_c (xi_ok46_0) (xi_ok46_1)) (xi_c (xi_ok46_2) (xi_c (xi_ok46_3) (xi_ok46_4)))
def xi_47_0 : XIs := [(0, .aload_n 0, 1), (1, .aload_n 1, 1), (2, .iload_n 2, 1), (3, .invokevirtual 112, 3), (6, .istore 4, 2), (8, .iconst 1, 1), (9, .iload 4, 2), (11, .ishl, 1), (12, .istore 5, 2), (14, .aload_n 1, 1), (15, .iload_n 2, 1), (16, .invokestatic 115, 3), (19, .istore 6, 2), (21, .iconst 0, 1), (22, .istore 7, 2), (24, .iconst 0, 1)]
set_option maxRecDepth 100000 in
theorem xi_ok47_0 : xi_ok cX0_fillPiece xi_47_0 = true := by decide +kernel
def xi_47_1 : XIs := [(25, .istore 8, 2), (27, .iload 8, 2), (29, .aload_n 0, 1), (30, .getfield 76, 3), (33, .if_icmp .ge 106, 3), (36, .aload_n 0, 1), (37, .getfield 18, 3), (40, .iload 8, 2), (42, .iaload, 1), (43, .iload 6, 2), (45, .iand, 1), (46, .ifCond .ne 7, 3), (49, .iconst 1, 1), (50, .goto 4, 3), (53, .iconst 0, 1), (54, .istore 9, 2)]
set_option maxRecDepth 100000 in
theorem xi_ok47_1 : xi_ok cX0_fillPiece xi_47_1 = true := by decide +kernel
def xi_47_2 : XIs := [(56, .aload_n 0, 1), (57, .getfield 18, 3), (60, .iload 8, 2), (62, .iaload, 1), (63, .aload_n 1, 1), (64, .iload 4, 2), (66, .iaload, 1), (67, .iand, 1), (68, .ifCond .ne 65, 3), (71, .iload 9, 2), (73, .ifCond .eq 8, 3), (76, .iload 7, 2), (78, .ifCond .ne 55, 3), (81, .iload 7, 2), (83, .iload 9, 2), (85, .ior, 1)]
set_option maxRecDepth 100000 in
theorem xi_ok47_2 : xi_ok cX0_fillPiece xi_47_2 = true := by decide +kernel
def xi_47_3 : XIs := [(86, .istore 7, 2), (88, .aload_n 0, 1), (89, .getfield 18, 3), (92, .iload 8, 2), (94, .dup2, 1), (95, .iaload, 1), (96, .iload 5, 2), (98, .ior, 1), (99, .iastore, 1), (100, .aload_n 0, 1), (101, .aload_n 1, 1), (102, .iload_n 2, 1), (103, .iload 5, 2), (105, .iconst (-1), 1), (106, .ixor, 1), (107, .iand, 1)]
set_option maxRecDepth 100000 in
theorem xi_ok47_3 : xi_ok cX0_fillPiece xi_47_3 = true := by decide +kernel
def xi_47_4 : XIs := [(108, .iload_n 3, 1), (109, .iconst 1, 1), (110, .iadd, 1), (111, .invokevirtual 88, 3), (114, .ifCond .eq 5, 3), (117, .iconst 1, 1), (118, .ireturn, 1), (119, .aload_n 0, 1), (120, .getfield 18, 3), (123, .iload 8, 2), (125, .dup2, 1), (126, .iaload, 1), (127, .iload 5, 2), (129, .iconst (-1), 1), (130, .ixor, 1), (131, .iand, 1)]
set_option maxRecDepth 100000 in
theorem xi_ok47_4 : xi_ok cX0_fillPiece xi_47_4 = true := by decide +kernel
def xi_47_5 : XIs := [(132, .iastore, 1), (133, .iinc 8 1, 3), (136, .goto (-109), 3), (139, .iconst 0, 1), (140, .ireturn, 1)]
set_option maxRecDepth 100000 in
theorem xi_ok47_5 : xi_ok cX0_fillPiece xi_47_5 = true := by decide +kernel
def xi_47 (pc : Nat) : XIs := cond (Nat.blt pc 86) (cond (Nat.blt pc 25) (xi_47_0) (cond (Nat.blt pc 56) (xi_47_1) (xi_47_2))) (cond (Nat.blt pc 108) (xi_47_3) (cond (Nat.blt pc 132) (xi_47_4) (xi_47_5)))
theorem xi_ok47 (pc : Nat) : xi_ok cX0_fillPiece (xi_47 pc) = true := xi_c (xi_c (xi_ok47_0) (xi_c (xi_ok47_1) (xi_ok47_2))) (xi_c (xi_ok47_3) (xi_c (xi_ok47_4) (xi_ok47_5)))
def xi_48_0 : XIs := [(0, .iconst 0, 1), (1, .istore_n 2, 1), (2, .iload_n 1, 1), (3, .istore_n 3, 1), (4, .iload_n 3, 1), (5, .ifCond .eq 21, 3), (8, .iload_n 2, 1), (9, .aload_n 0, 1), (10, .iload_n 3, 1), (11, .invokestatic 59, 3), (14, .iaload, 1), (15, .ior, 1), (16, .istore_n 2, 1), (17, .iload_n 3, 1), (18, .iload_n 3, 1), (19, .iconst 1, 1)]
set_option maxRecDepth 100000 in
theorem xi_ok48_0 : xi_ok cX0_besides xi_48_0 = true := by decide +kernel
def xi_48_1 : XIs := [(20, .isub, 1), (21, .iand, 1), (22, .istore_n 3, 1), (23, .goto (-19), 3), (26, .iload_n 2, 1), (27, .ireturn, 1)]
set_option maxRecDepth 100000 in
theorem xi_ok48_1 : xi_ok cX0_besides xi_48_1 = true := by decide +kernel
def xi_48 (pc : Nat) : XIs := cond (Nat.blt pc 20) (xi_48_0) (xi_48_1)
theorem xi_ok48 (pc : Nat) : xi_ok cX0_besides (xi_48 pc) = true := xi_c (xi_ok48_0) (xi_ok48_1)
def xi_49_0 : XIs := [(0, .iload_n 2, 1), (1, .istore_n 3, 1), (2, .iconst 0, 1), (3, .istore 4, 2), (5, .iconst 0, 1), (6, .istore 5, 2), (8, .iload 5, 2), (10, .bipush 32, 2), (12, .if_icmp .gt 104, 3), (15, .iload_n 3, 1), (16, .iload 4, 2), (18, .if_icmp .eq 98, 3), (21, .iload_n 3, 1), (22, .istore 4, 2), (24, .iload_n 3, 1), (25, .istore 6, 2)]
set_option maxRecDepth 100000 in
theorem xi_ok49_0 : xi_ok cX0_setAside xi_49_0 = true := by decide +kernel
def xi_49_1 : XIs := [(27, .iload 6, 2), (29, .ifCond .eq 81, 3), (32, .iload 6, 2), (34, .invokestatic 59, 3), (37, .istore 7, 2), (39, .aload_n 0, 1), (40, .aload_n 1, 1), (41, .iload 7, 2), (43, .iaload, 1), (44, .invokevirtual 118, 3), (47, .aload_n 1, 1), (48, .iload 7, 2), (50, .iaload, 1), (51, .iload_n 3, 1), (52, .iand, 1), (53, .invokestatic 53, 3)]
set_option maxRecDepth 100000 in
theorem xi_ok49_1 : xi_ok cX0_setAside xi_49_1 = true := by decide +kernel
def xi_49_2 : XIs := [(56, .if_icmp .le 42, 3), (59, .aload_n 0, 1), (60, .getfield 79, 3), (63, .bipush 32, 2), (65, .if_icmp .ge 33, 3), (68, .aload_n 0, 1), (69, .getfield 25, 3), (72, .aload_n 0, 1), (73, .getfield 79, 3), (76, .iload 7, 2), (78, .iastore, 1), (79, .aload_n 0, 1), (80, .dup, 1), (81, .getfield 79, 3), (84, .iconst 1, 1), (85, .iadd, 1)]
set_option maxRecDepth 100000 in
theorem xi_ok49_2 : xi_ok cX0_setAside xi_49_2 = true := by decide +kernel
def xi_49_3 : XIs := [(86, .putfield 79, 3), (89, .iload_n 3, 1), (90, .iconst 1, 1), (91, .iload 7, 2), (93, .ishl, 1), (94, .iconst (-1), 1), (95, .ixor, 1), (96, .iand, 1), (97, .istore_n 3, 1), (98, .iload 6, 2), (100, .iload 6, 2), (102, .iconst 1, 1), (103, .isub, 1), (104, .iand, 1), (105, .istore 6, 2), (107, .goto (-80), 3)]
set_option maxRecDepth 100000 in
theorem xi_ok49_3 : xi_ok cX0_setAside xi_49_3 = true := by decide +kernel
def xi_49_4 : XIs := [(110, .iinc 5 1, 3), (113, .goto (-105), 3), (116, .iload_n 3, 1), (117, .ireturn, 1)]
set_option maxRecDepth 100000 in
theorem xi_ok49_4 : xi_ok cX0_setAside xi_49_4 = true := by decide +kernel
def xi_49 (pc : Nat) : XIs := cond (Nat.blt pc 56) (cond (Nat.blt pc 27) (xi_49_0) (xi_49_1)) (cond (Nat.blt pc 86) (xi_49_2) (cond (Nat.blt pc 110) (xi_49_3) (xi_49_4)))
theorem xi_ok49 (pc : Nat) : xi_ok cX0_setAside (xi_49 pc) = true := xi_c (xi_c (xi_ok49_0) (xi_ok49_1)) (xi_c (xi_ok49_2) (xi_c (xi_ok49_3) (xi_ok49_4)))
def xi_50_0 : XIs := [(0, .aload_n 0, 1), (1, .getfield 79, 3), (4, .iload_n 2, 1), (5, .if_icmp .le 75, 3), (8, .aload_n 0, 1), (9, .getfield 25, 3), (12, .aload_n 0, 1), (13, .getfield 79, 3), (16, .iconst 1, 1), (17, .isub, 1), (18, .iaload, 1), (19, .istore_n 3, 1), (20, .iconst 0, 1), (21, .istore 4, 2), (23, .iload 4, 2), (25, .aload_n 0, 1)]
set_option maxRecDepth 100000 in
theorem xi_ok50_0 : xi_ok cX0_takeBack xi_50_0 = true := by decide +kernel
def xi_50_1 : XIs := [(26, .getfield 76, 3), (29, .iconst 1, 1), (30, .isub, 1), (31, .if_icmp .ge 23, 3), (34, .aload_n 0, 1), (35, .getfield 18, 3), (38, .iload 4, 2), (40, .iaload, 1), (41, .aload_n 1, 1), (42, .iload_n 3, 1), (43, .iaload, 1), (44, .iand, 1), (45, .ifCond .eq 9, 3), (48, .iinc 4 1, 3), (51, .goto (-28), 3), (54, .aload_n 0, 1)]
set_option maxRecDepth 100000 in
theorem xi_ok50_1 : xi_ok cX0_takeBack xi_50_1 = true := by decide +kernel
def xi_50_2 : XIs := [(55, .getfield 18, 3), (58, .iload 4, 2), (60, .dup2, 1), (61, .iaload, 1), (62, .iconst 1, 1), (63, .iload_n 3, 1), (64, .ishl, 1), (65, .ior, 1), (66, .iastore, 1), (67, .aload_n 0, 1), (68, .dup, 1), (69, .getfield 79, 3), (72, .iconst 1, 1), (73, .isub, 1), (74, .putfield 79, 3), (77, .goto (-77), 3)]
set_option maxRecDepth 100000 in
theorem xi_ok50_2 : xi_ok cX0_takeBack xi_50_2 = true := by decide +kernel
def xi_50_3 : XIs := [(80, .return_, 1)]
set_option maxRecDepth 100000 in
theorem xi_ok50_3 : xi_ok cX0_takeBack xi_50_3 = true := by decide +kernel
def xi_50 (pc : Nat) : XIs := cond (Nat.blt pc 55) (cond (Nat.blt pc 26) (xi_50_0) (xi_50_1)) (cond (Nat.blt pc 80) (xi_50_2) (xi_50_3))
theorem xi_ok50 (pc : Nat) : xi_ok cX0_takeBack (xi_50 pc) = true := xi_c (xi_c (xi_ok50_0) (xi_ok50_1)) (xi_c (xi_ok50_2) (xi_ok50_3))
def xi_51_0 : XIs := [(0, .iconst 0, 1), (1, .istore_n 2, 1), (2, .iconst 0, 1), (3, .istore_n 3, 1), (4, .iload_n 3, 1), (5, .aload_n 0, 1), (6, .getfield 76, 3), (9, .if_icmp .ge 23, 3), (12, .aload_n 0, 1), (13, .getfield 18, 3), (16, .iload_n 3, 1), (17, .iaload, 1), (18, .iload_n 1, 1), (19, .iand, 1), (20, .ifCond .ne 6, 3), (23, .iinc 2 1, 3)]
set_option maxRecDepth 100000 in
theorem xi_ok51_0 : xi_ok cX0_freeColours xi_51_0 = true := by decide +kernel
def xi_51_1 : XIs := [(26, .iinc 3 1, 3), (29, .goto (-25), 3), (32, .iload_n 2, 1), (33, .ireturn, 1)]
set_option maxRecDepth 100000 in
theorem xi_ok51_1 : xi_ok cX0_freeColours xi_51_1 = true := by decide +kernel
def xi_51 (pc : Nat) : XIs := cond (Nat.blt pc 26) (xi_51_0) (xi_51_1)
theorem xi_ok51 (pc : Nat) : xi_ok cX0_freeColours (xi_51 pc) = true := xi_c (xi_ok51_0) (xi_ok51_1)
def xi_52_0 : XIs := [(0, .iload_n 2, 1), (1, .invokestatic 59, 3), (4, .istore_n 3, 1), (5, .ldc 121, 2), (7, .istore 4, 2), (9, .iload_n 2, 1), (10, .istore 5, 2), (12, .iload 5, 2), (14, .ifCond .eq 59, 3), (17, .iload 5, 2), (19, .invokestatic 59, 3), (22, .istore 6, 2), (24, .aload_n 0, 1), (25, .aload_n 1, 1), (26, .iload 6, 2), (28, .iaload, 1)]
set_option maxRecDepth 100000 in
theorem xi_ok52_0 : xi_ok cX0_tightest xi_52_0 = true := by decide +kernel
def xi_52_1 : XIs := [(29, .invokevirtual 118, 3), (32, .bipush 64, 2), (34, .imul, 1), (35, .aload_n 1, 1), (36, .iload 6, 2), (38, .iaload, 1), (39, .iload_n 2, 1), (40, .iand, 1), (41, .invokestatic 53, 3), (44, .isub, 1), (45, .istore 7, 2), (47, .iload 7, 2), (49, .iload 4, 2), (51, .if_icmp .ge 10, 3), (54, .iload 7, 2), (56, .istore 4, 2)]
set_option maxRecDepth 100000 in
theorem xi_ok52_1 : xi_ok cX0_tightest xi_52_1 = true := by decide +kernel
def xi_52_2 : XIs := [(58, .iload 6, 2), (60, .istore_n 3, 1), (61, .iload 5, 2), (63, .iload 5, 2), (65, .iconst 1, 1), (66, .isub, 1), (67, .iand, 1), (68, .istore 5, 2), (70, .goto (-58), 3), (73, .iload_n 3, 1), (74, .ireturn, 1)]
set_option maxRecDepth 100000 in
theorem xi_ok52_2 : xi_ok cX0_tightest xi_52_2 = true := by decide +kernel
def xi_52 (pc : Nat) : XIs := cond (Nat.blt pc 29) (xi_52_0) (cond (Nat.blt pc 58) (xi_52_1) (xi_52_2))
theorem xi_ok52 (pc : Nat) : xi_ok cX0_tightest (xi_52 pc) = true := xi_c (xi_ok52_0) (xi_c (xi_ok52_1) (xi_ok52_2))
def xi_53_0 : XIs := [(0, .aload_n 0, 1), (1, .iload_n 2, 1), (2, .invokevirtual 122, 3), (5, .istore 4, 2), (7, .iload 4, 2), (9, .iload_n 3, 1), (10, .if_icmp .le 36, 3), (13, .aload_n 0, 1), (14, .getfield 18, 3), (17, .iload 4, 2), (19, .iaload, 1), (20, .istore 5, 2), (22, .aload_n 0, 1), (23, .getfield 18, 3), (26, .iload 4, 2), (28, .aload_n 0, 1)]
set_option maxRecDepth 100000 in
theorem xi_ok53_0 : xi_ok cX0_lessen xi_53_0 = true := by decide +kernel
def xi_53_1 : XIs := [(29, .getfield 18, 3), (32, .iload_n 3, 1), (33, .iaload, 1), (34, .iastore, 1), (35, .aload_n 0, 1), (36, .getfield 18, 3), (39, .iload_n 3, 1), (40, .iload 5, 2), (42, .iastore, 1), (43, .iload_n 3, 1), (44, .istore 4, 2), (46, .iconst 0, 1), (47, .istore 5, 2), (49, .iload 5, 2), (51, .iload 4, 2), (53, .if_icmp .ge 26, 3)]
set_option maxRecDepth 100000 in
theorem xi_ok53_1 : xi_ok cX0_lessen xi_53_1 = true := by decide +kernel
def xi_53_2 : XIs := [(56, .aload_n 0, 1), (57, .aload_n 1, 1), (58, .iload_n 2, 1), (59, .iload 5, 2), (61, .iload 4, 2), (63, .invokevirtual 125, 3), (66, .ifCond .eq 7, 3), (69, .iload 5, 2), (71, .istore 4, 2), (73, .iinc 5 1, 3), (76, .goto (-27), 3), (79, .iload 4, 2), (81, .ireturn, 1)]
set_option maxRecDepth 100000 in
theorem xi_ok53_2 : xi_ok cX0_lessen xi_53_2 = true := by decide +kernel
def xi_53 (pc : Nat) : XIs := cond (Nat.blt pc 29) (xi_53_0) (cond (Nat.blt pc 56) (xi_53_1) (xi_53_2))
theorem xi_ok53 (pc : Nat) : xi_ok cX0_lessen (xi_53 pc) = true := xi_c (xi_ok53_0) (xi_c (xi_ok53_1) (xi_ok53_2))
def xi_54_0 : XIs := [(0, .iconst 1, 1), (1, .iload_n 2, 1), (2, .ishl, 1), (3, .istore 5, 2), (5, .iload 5, 2), (7, .iconst 1, 1), (8, .isub, 1), (9, .istore 6, 2), (11, .aload_n 0, 1), (12, .getfield 18, 3), (15, .iload_n 3, 1), (16, .iaload, 1), (17, .aload_n 1, 1), (18, .getfield 42, 3), (21, .iload_n 2, 1), (22, .iaload, 1)]
set_option maxRecDepth 100000 in
theorem xi_ok54_0 : xi_ok cX0_canLower xi_54_0 = true := by decide +kernel
def xi_54_1 : XIs := [(23, .iand, 1), (24, .iload 6, 2), (26, .iand, 1), (27, .ifCond .eq 5, 3), (30, .iconst 0, 1), (31, .ireturn, 1), (32, .aload_n 1, 1), (33, .getfield 42, 3), (36, .iload 5, 2), (38, .aload_n 0, 1), (39, .getfield 18, 3), (42, .iload_n 3, 1), (43, .iaload, 1), (44, .aload_n 0, 1), (45, .getfield 18, 3), (48, .iload 4, 2)]
set_option maxRecDepth 100000 in
theorem xi_ok54_1 : xi_ok cX0_canLower xi_54_1 = true := by decide +kernel
def xi_54_2 : XIs := [(50, .iaload, 1), (51, .ior, 1), (52, .invokestatic 102, 3), (55, .istore 7, 2), (57, .iload 7, 2), (59, .iload 6, 2), (61, .iand, 1), (62, .ifCond .ne 28, 3), (65, .aload_n 0, 1), (66, .getfield 18, 3), (69, .iload_n 3, 1), (70, .dup2, 1), (71, .iaload, 1), (72, .iload 7, 2), (74, .ixor, 1), (75, .iastore, 1)]
set_option maxRecDepth 100000 in
theorem xi_ok54_2 : xi_ok cX0_canLower xi_54_2 = true := by decide +kernel
def xi_54_3 : XIs := [(76, .aload_n 0, 1), (77, .getfield 18, 3), (80, .iload 4, 2), (82, .dup2, 1), (83, .iaload, 1), (84, .iload 7, 2), (86, .ixor, 1), (87, .iastore, 1), (88, .iconst 1, 1), (89, .ireturn, 1), (90, .aload_n 0, 1), (91, .getfield 18, 3), (94, .iconst 0, 1), (95, .aload_n 0, 1), (96, .getfield 22, 3), (99, .iconst 0, 1)]
set_option maxRecDepth 100000 in
theorem xi_ok54_3 : xi_ok cX0_canLower xi_54_3 = true := by decide +kernel
def xi_54_4 : XIs := [(100, .bipush 32, 2), (102, .invokestatic 129, 3), (105, .iconst 0, 1), (106, .istore 8, 2), (108, .iload 8, 2), (110, .aload_n 0, 1), (111, .getfield 76, 3), (114, .if_icmp .ge 21, 3), (117, .aload_n 0, 1), (118, .getfield 18, 3), (121, .iload 8, 2), (123, .dup2, 1), (124, .iaload, 1), (125, .iload 6, 2), (127, .iand, 1), (128, .iastore, 1)]
set_option maxRecDepth 100000 in
theorem xi_ok54_4 : xi_ok cX0_canLower xi_54_4 = true := by decide +kernel
def xi_54_5 : XIs := [(129, .iinc 8 1, 3), (132, .goto (-24), 3), (135, .aload_n 0, 1), (136, .getfield 18, 3), (139, .iload_n 3, 1), (140, .dup2, 1), (141, .iaload, 1), (142, .iload 5, 2), (144, .ior, 1), (145, .iastore, 1), (146, .aload_n 0, 1), (147, .aload_n 1, 1), (148, .getfield 42, 3), (151, .aload_n 1, 1), (152, .invokevirtual 45, 3), (155, .iload 6, 2)]
set_option maxRecDepth 100000 in
theorem xi_ok54_5 : xi_ok cX0_canLower xi_54_5 = true := by decide +kernel
def xi_54_6 : XIs := [(157, .iconst (-1), 1), (158, .ixor, 1), (159, .iand, 1), (160, .iload 5, 2), (162, .iconst (-1), 1), (163, .ixor, 1), (164, .iand, 1), (165, .iconst 0, 1), (166, .invokevirtual 88, 3), (169, .ifCond .eq 5, 3), (172, .iconst 1, 1), (173, .ireturn, 1), (174, .aload_n 0, 1), (175, .getfield 22, 3), (178, .iconst 0, 1), (179, .aload_n 0, 1)]
set_option maxRecDepth 100000 in
theorem xi_ok54_6 : xi_ok cX0_canLower xi_54_6 = true := by decide +kernel
def xi_54_7 : XIs := [(180, .getfield 18, 3), (183, .iconst 0, 1), (184, .bipush 32, 2), (186, .invokestatic 129, 3), (189, .iconst 0, 1), (190, .ireturn, 1)]
set_option maxRecDepth 100000 in
theorem xi_ok54_7 : xi_ok cX0_canLower xi_54_7 = true := by decide +kernel
def xi_54 (pc : Nat) : XIs := cond (Nat.blt pc 100) (cond (Nat.blt pc 50) (cond (Nat.blt pc 23) (xi_54_0) (xi_54_1)) (cond (Nat.blt pc 76) (xi_54_2) (xi_54_3))) (cond (Nat.blt pc 157) (cond (Nat.blt pc 129) (xi_54_4) (xi_54_5)) (cond (Nat.blt pc 180) (xi_54_6) (xi_54_7)))
theorem xi_ok54 (pc : Nat) : xi_ok cX0_canLower (xi_54 pc) = true := xi_c (xi_c (xi_c (xi_ok54_0) (xi_ok54_1)) (xi_c (xi_ok54_2) (xi_ok54_3))) (xi_c (xi_c (xi_ok54_4) (xi_ok54_5)) (xi_c (xi_ok54_6) (xi_ok54_7)))
def xi_55_0 : XIs := [(0, .aload_n 0, 1), (1, .invokespecial 5, 3), (4, .aload_n 0, 1), (5, .bipush 120, 2), (7, .newarray .int, 2), (9, .putfield 11, 3), (12, .aload_n 0, 1), (13, .iconst 1, 1), (14, .putfield 15, 3), (17, .aload_n 0, 1), (18, .iconst 2, 1), (19, .putfield 19, 3), (22, .aload_n 0, 1), (23, .bipush 120, 2), (25, .newarray .int, 2), (27, .putfield 22, 3)]
set_option maxRecDepth 100000 in
theorem xi_ok55_0 : xi_ok cX1_init xi_55_0 = true := by decide +kernel
def xi_55_1 : XIs := [(30, .aload_n 0, 1), (31, .bipush 120, 2), (33, .newarray .long, 2), (35, .putfield 25, 3), (38, .aload_n 0, 1), (39, .bipush 9, 2), (41, .newarray .long, 2), (43, .putfield 29, 3), (46, .aload_n 0, 1), (47, .bipush 32, 2), (49, .newarray .long, 2), (51, .putfield 32, 3), (54, .aload_n 0, 1), (55, .bipush 32, 2), (57, .newarray .long, 2), (59, .putfield 35, 3)]
set_option maxRecDepth 100000 in
theorem xi_ok55_1 : xi_ok cX1_init xi_55_1 = true := by decide +kernel
def xi_55_2 : XIs := [(62, .return_, 1)]
set_option maxRecDepth 100000 in
theorem xi_ok55_2 : xi_ok cX1_init xi_55_2 = true := by decide +kernel
def xi_55 (pc : Nat) : XIs := cond (Nat.blt pc 30) (xi_55_0) (cond (Nat.blt pc 62) (xi_55_1) (xi_55_2))
theorem xi_ok55 (pc : Nat) : xi_ok cX1_init (xi_55 pc) = true := xi_c (xi_ok55_0) (xi_c (xi_ok55_1) (xi_ok55_2))
def xi_56_0 : XIs := [(0, .aload_n 1, 1), (1, .invokevirtual 38, 3), (4, .aload_n 1, 1), (5, .getfield 43, 3), (8, .bipush 120, 2), (10, .if_icmp .le 11, 3), (13, .aload_n 1, 1), (14, .iconst 2, 1), (15, .bipush 120, 2), (17, .invokevirtual 46, 3), (20, .ireturn, 1), (21, .aload_n 0, 1), (22, .iconst 0, 1), (23, .putfield 50, 3), (26, .aload_n 1, 1), (27, .bipush 6, 2)]
set_option maxRecDepth 100000 in
theorem xi_ok56_0 : xi_ok cX1_adopt xi_56_0 = true := by decide +kernel
def xi_56_1 : XIs := [(29, .iconst 0, 1), (30, .invokevirtual 53, 3), (33, .aload_n 0, 1), (34, .aload_n 1, 1), (35, .iconst 0, 1), (36, .invokevirtual 57, 3), (39, .ifCond .ne 5, 3), (42, .iconst 0, 1), (43, .ireturn, 1), (44, .aload_n 1, 1), (45, .bipush 59, 2), (47, .invokevirtual 61, 3), (50, .ifCond .ne 10, 3), (53, .aload_n 1, 1), (54, .iconst 2, 1), (55, .iconst 4, 1)]
set_option maxRecDepth 100000 in
theorem xi_ok56_1 : xi_ok cX1_adopt xi_56_1 = true := by decide +kernel
def xi_56_2 : XIs := [(56, .invokevirtual 65, 3), (59, .ireturn, 1), (60, .aload_n 0, 1), (61, .getfield 50, 3), (64, .istore_n 2, 1), (65, .aload_n 1, 1), (66, .bipush 6, 2), (68, .iconst 0, 1), (69, .invokevirtual 53, 3), (72, .aload_n 0, 1), (73, .aload_n 1, 1), (74, .iconst 0, 1), (75, .invokevirtual 57, 3), (78, .ifCond .ne 5, 3), (81, .iconst 0, 1), (82, .ireturn, 1)]
set_option maxRecDepth 100000 in
theorem xi_ok56_2 : xi_ok cX1_adopt xi_56_2 = true := by decide +kernel
def xi_56_3 : XIs := [(83, .aload_n 1, 1), (84, .getfield 68, 3), (87, .ifCond .eq 10, 3), (90, .aload_n 1, 1), (91, .iconst 2, 1), (92, .iconst 4, 1), (93, .invokevirtual 65, 3), (96, .ireturn, 1), (97, .aload_n 0, 1), (98, .iload_n 2, 1), (99, .putfield 15, 3), (102, .aload_n 0, 1), (103, .aload_n 0, 1), (104, .getfield 50, 3), (107, .putfield 19, 3), (110, .aload_n 0, 1)]
set_option maxRecDepth 100000 in
theorem xi_ok56_3 : xi_ok cX1_adopt xi_56_3 = true := by decide +kernel
def xi_56_4 : XIs := [(111, .getfield 22, 3), (114, .iconst 0, 1), (115, .aload_n 0, 1), (116, .getfield 11, 3), (119, .iconst 0, 1), (120, .aload_n 0, 1), (121, .getfield 50, 3), (124, .invokestatic 71, 3), (127, .iconst 1, 1), (128, .ireturn, 1)]
set_option maxRecDepth 100000 in
theorem xi_ok56_4 : xi_ok cX1_adopt xi_56_4 = true := by decide +kernel
def xi_56 (pc : Nat) : XIs := cond (Nat.blt pc 56) (cond (Nat.blt pc 29) (xi_56_0) (xi_56_1)) (cond (Nat.blt pc 83) (xi_56_2) (cond (Nat.blt pc 111) (xi_56_3) (xi_56_4)))
theorem xi_ok56 (pc : Nat) : xi_ok cX1_adopt (xi_56 pc) = true := xi_c (xi_c (xi_ok56_0) (xi_ok56_1)) (xi_c (xi_ok56_2) (xi_c (xi_ok56_3) (xi_ok56_4)))
def xi_57_0 : XIs := [(0, .aload_n 0, 1), (1, .getfield 50, 3), (4, .bipush 120, 2), (6, .if_icmp .ge 23, 3), (9, .aload_n 0, 1), (10, .getfield 22, 3), (13, .aload_n 0, 1), (14, .getfield 50, 3), (17, .iload_n 1, 1), (18, .iastore, 1), (19, .aload_n 0, 1), (20, .dup, 1), (21, .getfield 50, 3), (24, .iconst 1, 1), (25, .iadd, 1), (26, .putfield 50, 3)]
set_option maxRecDepth 100000 in
theorem xi_ok57_0 : xi_ok cX1_emit xi_57_0 = true := by decide +kernel
def xi_57_1 : XIs := [(29, .iconst 1, 1), (30, .ireturn, 1)]
set_option maxRecDepth 100000 in
theorem xi_ok57_1 : xi_ok cX1_emit xi_57_1 = true := by decide +kernel
def xi_57 (pc : Nat) : XIs := cond (Nat.blt pc 29) (xi_57_0) (xi_57_1)
theorem xi_ok57 (pc : Nat) : xi_ok cX1_emit (xi_57 pc) = true := xi_c (xi_ok57_0) (xi_ok57_1)
def xi_58_0 : XIs := [(0, .aload_n 0, 1), (1, .aload_n 1, 1), (2, .iload_n 2, 1), (3, .invokevirtual 77, 3), (6, .ifCond .ne 5, 3), (9, .iconst 0, 1), (10, .ireturn, 1), (11, .aload_n 1, 1), (12, .bipush 60, 2), (14, .invokevirtual 61, 3), (17, .ifCond .ne 14, 3), (20, .aload_n 1, 1), (21, .bipush 61, 2), (23, .invokevirtual 61, 3), (26, .ifCond .ne 5, 3), (29, .iconst 1, 1)]
set_option maxRecDepth 100000 in
theorem xi_ok58_0 : xi_ok cX1_readExpression xi_58_0 = true := by decide +kernel
def xi_58_1 : XIs := [(30, .ireturn, 1), (31, .aload_n 1, 1), (32, .getfield 80, 3), (35, .istore_n 3, 1), (36, .aload_n 1, 1), (37, .bipush 6, 2), (39, .iconst 0, 1), (40, .invokevirtual 53, 3), (43, .aload_n 0, 1), (44, .aload_n 1, 1), (45, .iload_n 2, 1), (46, .invokevirtual 77, 3), (49, .ifCond .eq 18, 3), (52, .aload_n 0, 1), (53, .ldc 83, 2), (55, .iload_n 3, 1)]
set_option maxRecDepth 100000 in
theorem xi_ok58_1 : xi_ok cX1_readExpression xi_58_1 = true := by decide +kernel
def xi_58_2 : XIs := [(56, .iadd, 1), (57, .invokevirtual 84, 3), (60, .ifCond .eq 7, 3), (63, .iconst 1, 1), (64, .goto 4, 3), (67, .iconst 0, 1), (68, .ireturn, 1)]
set_option maxRecDepth 100000 in
theorem xi_ok58_2 : xi_ok cX1_readExpression xi_58_2 = true := by decide +kernel
def xi_58 (pc : Nat) : XIs := cond (Nat.blt pc 30) (xi_58_0) (cond (Nat.blt pc 56) (xi_58_1) (xi_58_2))
theorem xi_ok58 (pc : Nat) : xi_ok cX1_readExpression (xi_58 pc) = true := xi_c (xi_ok58_0) (xi_c (xi_ok58_1) (xi_ok58_2))
def xi_59_0 : XIs := [(0, .aload_n 0, 1), (1, .aload_n 1, 1), (2, .iload_n 2, 1), (3, .invokevirtual 87, 3), (6, .ifCond .ne 5, 3), (9, .iconst 0, 1), (10, .ireturn, 1), (11, .iconst 0, 1), (12, .istore_n 3, 1), (13, .iload_n 3, 1), (14, .bipush 120, 2), (16, .if_icmp .ge 61, 3), (19, .aload_n 1, 1), (20, .bipush 43, 2), (22, .invokevirtual 61, 3), (25, .ifCond .ne 12, 3)]
set_option maxRecDepth 100000 in
theorem xi_ok59_0 : xi_ok cX1_readSum xi_59_0 = true := by decide +kernel
def xi_59_1 : XIs := [(28, .aload_n 1, 1), (29, .bipush 45, 2), (31, .invokevirtual 61, 3), (34, .ifCond .eq 43, 3), (37, .aload_n 1, 1), (38, .getfield 80, 3), (41, .istore 4, 2), (43, .aload_n 1, 1), (44, .bipush 6, 2), (46, .iconst 0, 1), (47, .invokevirtual 53, 3), (50, .aload_n 0, 1), (51, .aload_n 1, 1), (52, .iload_n 2, 1), (53, .invokevirtual 87, 3), (56, .ifCond .ne 5, 3)]
set_option maxRecDepth 100000 in
theorem xi_ok59_1 : xi_ok cX1_readSum xi_59_1 = true := by decide +kernel
def xi_59_2 : XIs := [(59, .iconst 0, 1), (60, .ireturn, 1), (61, .aload_n 0, 1), (62, .ldc 83, 2), (64, .iload 4, 2), (66, .iadd, 1), (67, .invokevirtual 84, 3), (70, .pop, 1), (71, .iinc 3 1, 3), (74, .goto (-61), 3), (77, .iconst 1, 1), (78, .ireturn, 1)]
set_option maxRecDepth 100000 in
theorem xi_ok59_2 : xi_ok cX1_readSum xi_59_2 = true := by decide +kernel
def xi_59 (pc : Nat) : XIs := cond (Nat.blt pc 28) (xi_59_0) (cond (Nat.blt pc 59) (xi_59_1) (xi_59_2))
theorem xi_ok59 (pc : Nat) : xi_ok cX1_readSum (xi_59 pc) = true := xi_c (xi_ok59_0) (xi_c (xi_ok59_1) (xi_ok59_2))
def xi_60_0 : XIs := [(0, .aload_n 0, 1), (1, .aload_n 1, 1), (2, .iload_n 2, 1), (3, .invokevirtual 90, 3), (6, .ifCond .ne 5, 3), (9, .iconst 0, 1), (10, .ireturn, 1), (11, .iconst 0, 1), (12, .istore_n 3, 1), (13, .iload_n 3, 1), (14, .bipush 120, 2), (16, .if_icmp .ge 43, 3), (19, .aload_n 1, 1), (20, .bipush 42, 2), (22, .invokevirtual 61, 3), (25, .ifCond .eq 34, 3)]
set_option maxRecDepth 100000 in
theorem xi_ok60_0 : xi_ok cX1_readProduct xi_60_0 = true := by decide +kernel
def xi_60_1 : XIs := [(28, .aload_n 1, 1), (29, .bipush 6, 2), (31, .iconst 0, 1), (32, .invokevirtual 53, 3), (35, .aload_n 0, 1), (36, .aload_n 1, 1), (37, .iload_n 2, 1), (38, .invokevirtual 90, 3), (41, .ifCond .ne 5, 3), (44, .iconst 0, 1), (45, .ireturn, 1), (46, .aload_n 0, 1), (47, .ldc 93, 2), (49, .invokevirtual 84, 3), (52, .pop, 1), (53, .iinc 3 1, 3)]
set_option maxRecDepth 100000 in
theorem xi_ok60_1 : xi_ok cX1_readProduct xi_60_1 = true := by decide +kernel
def xi_60_2 : XIs := [(56, .goto (-43), 3), (59, .iconst 1, 1), (60, .ireturn, 1)]
set_option maxRecDepth 100000 in
theorem xi_ok60_2 : xi_ok cX1_readProduct xi_60_2 = true := by decide +kernel
def xi_60 (pc : Nat) : XIs := cond (Nat.blt pc 28) (xi_60_0) (cond (Nat.blt pc 56) (xi_60_1) (xi_60_2))
theorem xi_ok60 (pc : Nat) : xi_ok cX1_readProduct (xi_60 pc) = true := xi_c (xi_ok60_0) (xi_c (xi_ok60_1) (xi_ok60_2))
def xi_61_0 : XIs := [(0, .aload_n 1, 1), (1, .getfield 68, 3), (4, .iconst 2, 1), (5, .if_icmp .eq 11, 3), (8, .aload_n 1, 1), (9, .getfield 68, 3), (12, .iconst 1, 1), (13, .if_icmp .ne 9, 3), (16, .aload_n 0, 1), (17, .aload_n 1, 1), (18, .invokevirtual 94, 3), (21, .ireturn, 1), (22, .aload_n 1, 1), (23, .bipush 45, 2), (25, .invokevirtual 61, 3), (28, .istore_n 3, 1)]
set_option maxRecDepth 100000 in
theorem xi_ok61_0 : xi_ok cX1_readFactor xi_61_0 = true := by decide +kernel
def xi_61_1 : XIs := [(29, .iload_n 3, 1), (30, .ifCond .ne 19, 3), (33, .aload_n 1, 1), (34, .bipush 40, 2), (36, .invokevirtual 61, 3), (39, .ifCond .ne 10, 3), (42, .aload_n 1, 1), (43, .iconst 2, 1), (44, .iconst 4, 1), (45, .invokevirtual 65, 3), (48, .ireturn, 1), (49, .iload_n 2, 1), (50, .bipush 10, 2), (52, .if_icmp .lt 13, 3), (55, .aload_n 1, 1), (56, .iconst 3, 1)]
set_option maxRecDepth 100000 in
theorem xi_ok61_1 : xi_ok cX1_readFactor xi_61_1 = true := by decide +kernel
def xi_61_2 : XIs := [(57, .aload_n 1, 1), (58, .getfield 98, 3), (61, .invokevirtual 46, 3), (64, .ireturn, 1), (65, .aload_n 1, 1), (66, .bipush 6, 2), (68, .iconst 0, 1), (69, .invokevirtual 53, 3), (72, .iload_n 3, 1), (73, .ifCond .eq 29, 3), (76, .aload_n 0, 1), (77, .aload_n 1, 1), (78, .iload_n 2, 1), (79, .iconst 1, 1), (80, .iadd, 1), (81, .invokevirtual 90, 3)]
set_option maxRecDepth 100000 in
theorem xi_ok61_2 : xi_ok cX1_readFactor xi_61_2 = true := by decide +kernel
def xi_61_3 : XIs := [(84, .ifCond .eq 16, 3), (87, .aload_n 0, 1), (88, .ldc 101, 2), (90, .invokevirtual 84, 3), (93, .ifCond .eq 7, 3), (96, .iconst 1, 1), (97, .goto 4, 3), (100, .iconst 0, 1), (101, .ireturn, 1), (102, .aload_n 0, 1), (103, .aload_n 1, 1), (104, .iload_n 2, 1), (105, .iconst 1, 1), (106, .iadd, 1), (107, .invokevirtual 57, 3), (110, .ifCond .ne 5, 3)]
set_option maxRecDepth 100000 in
theorem xi_ok61_3 : xi_ok cX1_readFactor xi_61_3 = true := by decide +kernel
def xi_61_4 : XIs := [(113, .iconst 0, 1), (114, .ireturn, 1), (115, .aload_n 1, 1), (116, .bipush 41, 2), (118, .invokevirtual 61, 3), (121, .ifCond .ne 10, 3), (124, .aload_n 1, 1), (125, .iconst 2, 1), (126, .iconst 4, 1), (127, .invokevirtual 65, 3), (130, .ireturn, 1), (131, .aload_n 1, 1), (132, .bipush 6, 2), (134, .iconst 0, 1), (135, .invokevirtual 53, 3), (138, .iconst 1, 1)]
set_option maxRecDepth 100000 in
theorem xi_ok61_4 : xi_ok cX1_readFactor xi_61_4 = true := by decide +kernel
def xi_61_5 : XIs := [(139, .ireturn, 1)]
set_option maxRecDepth 100000 in
theorem xi_ok61_5 : xi_ok cX1_readFactor xi_61_5 = true := by decide +kernel
def xi_61 (pc : Nat) : XIs := cond (Nat.blt pc 84) (cond (Nat.blt pc 29) (xi_61_0) (cond (Nat.blt pc 57) (xi_61_1) (xi_61_2))) (cond (Nat.blt pc 113) (xi_61_3) (cond (Nat.blt pc 139) (xi_61_4) (xi_61_5)))
theorem xi_ok61 (pc : Nat) : xi_ok cX1_readFactor (xi_61 pc) = true := xi_c (xi_c (xi_ok61_0) (xi_c (xi_ok61_1) (xi_ok61_2))) (xi_c (xi_ok61_3) (xi_c (xi_ok61_4) (xi_ok61_5)))
def xi_62_0 : XIs := [(0, .aload_n 1, 1), (1, .getfield 80, 3), (4, .istore_n 2, 1), (5, .aload_n 1, 1), (6, .getfield 68, 3), (9, .iconst 1, 1), (10, .if_icmp .ne 36, 3), (13, .ldc 102, 2), (15, .bipush 97, 2), (17, .aload_n 1, 1), (18, .getfield 80, 3), (21, .iadd, 1), (22, .i2c, 1), (23, .invokevirtual 104, 3), (26, .istore_n 3, 1), (27, .iload_n 3, 1)]
set_option maxRecDepth 100000 in
theorem xi_ok62_0 : xi_ok cX1_readAtom xi_62_0 = true := by decide +kernel
def xi_62_1 : XIs := [(28, .ifCond .ge 13, 3), (31, .aload_n 1, 1), (32, .iconst 5, 1), (33, .aload_n 1, 1), (34, .getfield 98, 3), (37, .invokevirtual 46, 3), (40, .ireturn, 1), (41, .ldc 110, 2), (43, .iload_n 3, 1), (44, .iadd, 1), (45, .istore_n 2, 1), (46, .aload_n 0, 1), (47, .iload_n 2, 1), (48, .invokevirtual 84, 3), (51, .pop, 1), (52, .aload_n 1, 1)]
set_option maxRecDepth 100000 in
theorem xi_ok62_1 : xi_ok cX1_readAtom xi_62_1 = true := by decide +kernel
def xi_62_2 : XIs := [(53, .bipush 6, 2), (55, .iconst 0, 1), (56, .invokevirtual 53, 3), (59, .iconst 1, 1), (60, .ireturn, 1)]
set_option maxRecDepth 100000 in
theorem xi_ok62_2 : xi_ok cX1_readAtom xi_62_2 = true := by decide +kernel
def xi_62 (pc : Nat) : XIs := cond (Nat.blt pc 28) (xi_62_0) (cond (Nat.blt pc 53) (xi_62_1) (xi_62_2))
theorem xi_ok62 (pc : Nat) : xi_ok cX1_readAtom (xi_62 pc) = true := xi_c (xi_ok62_0) (xi_c (xi_ok62_1) (xi_ok62_2))
def xi_63_0 : XIs := [(0, .aload_n 1, 1), (1, .invokevirtual 111, 3), (4, .aload_n 0, 1), (5, .aload_n 1, 1), (6, .getfield 116, 3), (9, .putfield 119, 3), (12, .aload_n 0, 1), (13, .getfield 35, 3), (16, .lconst 0, 1), (17, .invokestatic 120, 3), (20, .aload_n 0, 1), (21, .aload_n 1, 1), (22, .iconst 0, 1), (23, .invokevirtual 126, 3), (26, .pop, 1), (27, .iconst 1, 1)]
set_option maxRecDepth 100000 in
theorem xi_ok63_0 : xi_ok cX1_work xi_63_0 = true := by decide +kernel
def xi_63_1 : XIs := [(28, .istore_n 3, 1), (29, .iload_n 3, 1), (30, .iload_n 2, 1), (31, .if_icmp .gt 35, 3), (34, .aload_n 0, 1), (35, .getfield 32, 3), (38, .iconst 0, 1), (39, .aload_n 0, 1), (40, .getfield 35, 3), (43, .iconst 0, 1), (44, .bipush 32, 2), (46, .invokestatic 71, 3), (49, .aload_n 0, 1), (50, .aload_n 1, 1), (51, .iload_n 3, 1), (52, .invokevirtual 126, 3)]
set_option maxRecDepth 100000 in
theorem xi_ok63_1 : xi_ok cX1_work xi_63_1 = true := by decide +kernel
def xi_63_2 : XIs := [(55, .ifCond .ne 5, 3), (58, .iload_n 3, 1), (59, .ireturn, 1), (60, .iinc 3 1, 3), (63, .goto (-34), 3), (66, .iload_n 2, 1), (67, .ireturn, 1)]
set_option maxRecDepth 100000 in
theorem xi_ok63_2 : xi_ok cX1_work xi_63_2 = true := by decide +kernel
def xi_63 (pc : Nat) : XIs := cond (Nat.blt pc 28) (xi_63_0) (cond (Nat.blt pc 55) (xi_63_1) (xi_63_2))
theorem xi_ok63 (pc : Nat) : xi_ok cX1_work (xi_63 pc) = true := xi_c (xi_ok63_0) (xi_c (xi_ok63_1) (xi_ok63_2))
def xi_64_0 : XIs := [(0, .iconst 0, 1), (1, .istore_n 3, 1), (2, .iconst 0, 1), (3, .istore 4, 2), (5, .iload 4, 2), (7, .aload_n 1, 1), (8, .getfield 116, 3), (11, .if_icmp .ge 78, 3), (14, .aload_n 0, 1), (15, .aload_n 1, 1), (16, .iload 4, 2), (18, .iload_n 2, 1), (19, .invokevirtual 130, 3), (22, .aload_n 0, 1), (23, .getfield 32, 3), (26, .iload 4, 2)]
set_option maxRecDepth 100000 in
theorem xi_ok64_0 : xi_ok cX1_doRound xi_64_0 = true := by decide +kernel
def xi_64_1 : XIs := [(28, .iload_n 2, 1), (29, .ifCond .ne 15, 3), (32, .aload_n 0, 1), (33, .iconst 0, 1), (34, .aload_n 0, 1), (35, .getfield 15, 3), (38, .invokevirtual 134, 3), (41, .goto 15, 3), (44, .aload_n 0, 1), (45, .aload_n 0, 1), (46, .getfield 15, 3), (49, .aload_n 0, 1), (50, .getfield 19, 3), (53, .invokevirtual 134, 3), (56, .lastore, 1), (57, .iload_n 3, 1)]
set_option maxRecDepth 100000 in
theorem xi_ok64_1 : xi_ok cX1_doRound xi_64_1 = true := by decide +kernel
def xi_64_2 : XIs := [(58, .aload_n 0, 1), (59, .getfield 32, 3), (62, .iload 4, 2), (64, .laload, 1), (65, .aload_n 0, 1), (66, .getfield 35, 3), (69, .iload 4, 2), (71, .laload, 1), (72, .lcmp, 1), (73, .ifCond .eq 7, 3), (76, .iconst 1, 1), (77, .goto 4, 3), (80, .iconst 0, 1), (81, .ior, 1), (82, .istore_n 3, 1), (83, .iinc 4 1, 3)]
set_option maxRecDepth 100000 in
theorem xi_ok64_2 : xi_ok cX1_doRound xi_64_2 = true := by decide +kernel
def xi_64_3 : XIs := [(86, .goto (-81), 3), (89, .iload_n 3, 1), (90, .ireturn, 1)]
set_option maxRecDepth 100000 in
theorem xi_ok64_3 : xi_ok cX1_doRound xi_64_3 = true := by decide +kernel
def xi_64 (pc : Nat) : XIs := cond (Nat.blt pc 58) (cond (Nat.blt pc 28) (xi_64_0) (xi_64_1)) (cond (Nat.blt pc 86) (xi_64_2) (xi_64_3))
theorem xi_ok64 (pc : Nat) : xi_ok cX1_doRound (xi_64 pc) = true := xi_c (xi_c (xi_ok64_0) (xi_ok64_1)) (xi_c (xi_ok64_2) (xi_ok64_3))
def xi_65_0 : XIs := [(0, .lconst 0, 1), (1, .lstore 4, 2), (3, .ldc2_w 138, 3), (6, .lstore 6, 2), (8, .ldc2_w 140, 3), (11, .lstore 8, 2), (13, .aload_n 1, 1), (14, .getfield 142, 3), (17, .iload_n 2, 1), (18, .iaload, 1), (19, .istore 10, 2), (21, .iload 10, 2), (23, .aload_n 1, 1), (24, .getfield 142, 3), (27, .iload_n 2, 1), (28, .iconst 1, 1)]
set_option maxRecDepth 100000 in
theorem xi_ok65_0 : xi_ok cX1_look xi_65_0 = true := by decide +kernel
def xi_65_1 : XIs := [(29, .iadd, 1), (30, .iaload, 1), (31, .if_icmp .ge 73, 3), (34, .aload_n 1, 1), (35, .getfield 145, 3), (38, .iload 10, 2), (40, .iaload, 1), (41, .istore 11, 2), (43, .aload_n 0, 1), (44, .getfield 35, 3), (47, .aload_n 1, 1), (48, .getfield 148, 3), (51, .iload 11, 2), (53, .iaload, 1), (54, .laload, 1), (55, .lstore 12, 2)]
set_option maxRecDepth 100000 in
theorem xi_ok65_1 : xi_ok cX1_look xi_65_1 = true := by decide +kernel
def xi_65_2 : XIs := [(57, .lload 12, 2), (59, .aload_n 1, 1), (60, .getfield 151, 3), (63, .iload 11, 2), (65, .iaload, 1), (66, .i2l, 1), (67, .ladd, 1), (68, .invokestatic 154, 3), (71, .lstore 14, 2), (73, .lload 4, 2), (75, .lload 12, 2), (77, .ladd, 1), (78, .lstore 4, 2), (80, .lload 6, 2), (82, .lload 14, 2), (84, .invokestatic 158, 3)]
set_option maxRecDepth 100000 in
theorem xi_ok65_2 : xi_ok cX1_look xi_65_2 = true := by decide +kernel
def xi_65_3 : XIs := [(87, .lstore 6, 2), (89, .lload 8, 2), (91, .lload 14, 2), (93, .invokestatic 164, 3), (96, .lstore 8, 2), (98, .iinc 10 1, 3), (101, .goto (-80), 3), (104, .aload_n 0, 1), (105, .getfield 29, 3), (108, .iconst 0, 1), (109, .aload_n 0, 1), (110, .getfield 35, 3), (113, .iload_n 2, 1), (114, .laload, 1), (115, .lastore, 1), (116, .aload_n 0, 1)]
set_option maxRecDepth 100000 in
theorem xi_ok65_3 : xi_ok cX1_look xi_65_3 = true := by decide +kernel
def xi_65_4 : XIs := [(117, .getfield 29, 3), (120, .iconst 1, 1), (121, .iload_n 2, 1), (122, .i2l, 1), (123, .lastore, 1), (124, .aload_n 0, 1), (125, .getfield 29, 3), (128, .iconst 2, 1), (129, .aload_n 1, 1), (130, .getfield 167, 3), (133, .iload_n 2, 1), (134, .iaload, 1), (135, .i2l, 1), (136, .lastore, 1), (137, .aload_n 0, 1), (138, .getfield 29, 3)]
set_option maxRecDepth 100000 in
theorem xi_ok65_4 : xi_ok cX1_look xi_65_4 = true := by decide +kernel
def xi_65_5 : XIs := [(141, .iconst 3, 1), (142, .aload_n 1, 1), (143, .iload_n 2, 1), (144, .invokevirtual 170, 3), (147, .i2l, 1), (148, .lastore, 1), (149, .aload_n 0, 1), (150, .getfield 29, 3), (153, .iconst 4, 1), (154, .aload_n 1, 1), (155, .iload_n 2, 1), (156, .invokevirtual 173, 3), (159, .i2l, 1), (160, .lastore, 1), (161, .aload_n 0, 1), (162, .getfield 29, 3)]
set_option maxRecDepth 100000 in
theorem xi_ok65_5 : xi_ok cX1_look xi_65_5 = true := by decide +kernel
def xi_65_6 : XIs := [(165, .iconst 5, 1), (166, .iload_n 3, 1), (167, .i2l, 1), (168, .lastore, 1), (169, .aload_n 0, 1), (170, .getfield 29, 3), (173, .bipush 6, 2), (175, .lload 4, 2), (177, .invokestatic 154, 3), (180, .lastore, 1), (181, .aload_n 0, 1), (182, .getfield 29, 3), (185, .bipush 7, 2), (187, .lload 6, 2), (189, .lastore, 1), (190, .aload_n 0, 1)]
set_option maxRecDepth 100000 in
theorem xi_ok65_6 : xi_ok cX1_look xi_65_6 = true := by decide +kernel
def xi_65_7 : XIs := [(191, .getfield 29, 3), (194, .bipush 8, 2), (196, .lload 8, 2), (198, .lastore, 1), (199, .return_, 1)]
set_option maxRecDepth 100000 in
theorem xi_ok65_7 : xi_ok cX1_look xi_65_7 = true := by decide +kernel
def xi_65 (pc : Nat) : XIs := cond (Nat.blt pc 117) (cond (Nat.blt pc 57) (cond (Nat.blt pc 29) (xi_65_0) (xi_65_1)) (cond (Nat.blt pc 87) (xi_65_2) (xi_65_3))) (cond (Nat.blt pc 165) (cond (Nat.blt pc 141) (xi_65_4) (xi_65_5)) (cond (Nat.blt pc 191) (xi_65_6) (xi_65_7)))
theorem xi_ok65 (pc : Nat) : xi_ok cX1_look (xi_65 pc) = true := xi_c (xi_c (xi_c (xi_ok65_0) (xi_ok65_1)) (xi_c (xi_ok65_2) (xi_ok65_3))) (xi_c (xi_c (xi_ok65_4) (xi_ok65_5)) (xi_c (xi_ok65_6) (xi_ok65_7)))
def xi_66_0 : XIs := [(0, .iconst 0, 1), (1, .istore_n 3, 1), (2, .iload_n 1, 1), (3, .istore 4, 2), (5, .iload 4, 2), (7, .iload_n 2, 1), (8, .if_icmp .ge 120, 3), (11, .aload_n 0, 1), (12, .getfield 11, 3), (15, .iload 4, 2), (17, .iaload, 1), (18, .istore 5, 2), (20, .iload 5, 2), (22, .ldc 83, 2), (24, .if_icmp .ge 38, 3), (27, .aload_n 0, 1)]
set_option maxRecDepth 100000 in
theorem xi_ok66_0 : xi_ok cX1_compute xi_66_0 = true := by decide +kernel
def xi_66_1 : XIs := [(28, .getfield 25, 3), (31, .iload_n 3, 1), (32, .iload 5, 2), (34, .ldc 110, 2), (36, .if_icmp .ge 9, 3), (39, .iload 5, 2), (41, .i2l, 1), (42, .goto 13, 3), (45, .aload_n 0, 1), (46, .getfield 29, 3), (49, .iload 5, 2), (51, .ldc 110, 2), (53, .isub, 1), (54, .laload, 1), (55, .lastore, 1), (56, .iinc 3 1, 3)]
set_option maxRecDepth 100000 in
theorem xi_ok66_1 : xi_ok cX1_compute xi_66_1 = true := by decide +kernel
def xi_66_2 : XIs := [(59, .goto 63, 3), (62, .iload 5, 2), (64, .ldc 101, 2), (66, .if_icmp .ne 23, 3), (69, .aload_n 0, 1), (70, .getfield 25, 3), (73, .iload_n 3, 1), (74, .iconst 1, 1), (75, .isub, 1), (76, .aload_n 0, 1), (77, .getfield 25, 3), (80, .iload_n 3, 1), (81, .iconst 1, 1), (82, .isub, 1), (83, .laload, 1), (84, .lneg, 1)]
set_option maxRecDepth 100000 in
theorem xi_ok66_2 : xi_ok cX1_compute xi_66_2 = true := by decide +kernel
def xi_66_3 : XIs := [(85, .lastore, 1), (86, .goto 36, 3), (89, .iinc 3 (-1), 3), (92, .aload_n 0, 1), (93, .getfield 25, 3), (96, .iload_n 3, 1), (97, .iconst 1, 1), (98, .isub, 1), (99, .iload 5, 2), (101, .ldc 83, 2), (103, .isub, 1), (104, .aload_n 0, 1), (105, .getfield 25, 3), (108, .iload_n 3, 1), (109, .iconst 1, 1), (110, .isub, 1)]
set_option maxRecDepth 100000 in
theorem xi_ok66_3 : xi_ok cX1_compute xi_66_3 = true := by decide +kernel
def xi_66_4 : XIs := [(111, .laload, 1), (112, .aload_n 0, 1), (113, .getfield 25, 3), (116, .iload_n 3, 1), (117, .laload, 1), (118, .invokestatic 176, 3), (121, .lastore, 1), (122, .iinc 4 1, 3), (125, .goto (-120), 3), (128, .aload_n 0, 1), (129, .getfield 25, 3), (132, .iconst 0, 1), (133, .laload, 1), (134, .lreturn, 1)]
set_option maxRecDepth 100000 in
theorem xi_ok66_4 : xi_ok cX1_compute xi_66_4 = true := by decide +kernel
def xi_66 (pc : Nat) : XIs := cond (Nat.blt pc 59) (cond (Nat.blt pc 28) (xi_66_0) (xi_66_1)) (cond (Nat.blt pc 85) (xi_66_2) (cond (Nat.blt pc 111) (xi_66_3) (xi_66_4)))
theorem xi_ok66 (pc : Nat) : xi_ok cX1_compute (xi_66 pc) = true := xi_c (xi_c (xi_ok66_0) (xi_ok66_1)) (xi_c (xi_ok66_2) (xi_c (xi_ok66_3) (xi_ok66_4)))
def xi_67_0 : XIs := [(0, .iload_n 0, 1), (1, .lookupswitch 75 #[(42, 57), (43, 43), (45, 50), (60, 63)], 43), (44, .lload_n 1, 1), (45, .lload_n 3, 1), (46, .ladd, 1), (47, .invokestatic 154, 3), (50, .lreturn, 1), (51, .lload_n 1, 1), (52, .lload_n 3, 1), (53, .lsub, 1), (54, .invokestatic 154, 3), (57, .lreturn, 1), (58, .lload_n 1, 1), (59, .lload_n 3, 1), (60, .invokestatic 180, 3), (63, .lreturn, 1)]
set_option maxRecDepth 100000 in
theorem xi_ok67_0 : xi_ok cX1_combine xi_67_0 = true := by decide +kernel
def xi_67_1 : XIs := [(64, .lload_n 1, 1), (65, .lload_n 3, 1), (66, .lcmp, 1), (67, .ifCond .ge 7, 3), (70, .lconst 1, 1), (71, .goto 4, 3), (74, .lconst 0, 1), (75, .lreturn, 1), (76, .lload_n 1, 1), (77, .lload_n 3, 1), (78, .lcmp, 1), (79, .ifCond .ne 7, 3), (82, .lconst 1, 1), (83, .goto 4, 3), (86, .lconst 0, 1), (87, .lreturn, 1)]
set_option maxRecDepth 100000 in
theorem xi_ok67_1 : xi_ok cX1_combine xi_67_1 = true := by decide +kernel
def xi_67 (pc : Nat) : XIs := cond (Nat.blt pc 64) (xi_67_0) (xi_67_1)
theorem xi_ok67 (pc : Nat) : xi_ok cX1_combine (xi_67 pc) = true := xi_c (xi_ok67_0) (xi_ok67_1)
def xi_68_0 : XIs := [(0, .lload_n 0, 1), (1, .lconst 0, 1), (2, .lcmp, 1), (3, .ifCond .eq 19, 3), (6, .lload_n 2, 1), (7, .invokestatic 183, 3), (10, .ldc2_w 138, 3), (13, .lload_n 0, 1), (14, .invokestatic 183, 3), (17, .ldiv, 1), (18, .lcmp, 1), (19, .ifCond .gt 7, 3), (22, .lload_n 0, 1), (23, .lload_n 2, 1), (24, .lmul, 1), (25, .lreturn, 1)]
set_option maxRecDepth 100000 in
theorem xi_ok68_0 : xi_ok cX1_times xi_68_0 = true := by decide +kernel
def xi_68_1 : XIs := [(26, .lload_n 0, 1), (27, .lconst 0, 1), (28, .lcmp, 1), (29, .ifCond .le 7, 3), (32, .iconst 1, 1), (33, .goto 4, 3), (36, .iconst 0, 1), (37, .lload_n 2, 1), (38, .lconst 0, 1), (39, .lcmp, 1), (40, .ifCond .le 7, 3), (43, .iconst 1, 1), (44, .goto 4, 3), (47, .iconst 0, 1), (48, .if_icmp .ne 9, 3), (51, .ldc2_w 138, 3)]
set_option maxRecDepth 100000 in
theorem xi_ok68_1 : xi_ok cX1_times xi_68_1 = true := by decide +kernel
def xi_68_2 : XIs := [(54, .goto 6, 3), (57, .ldc2_w 140, 3), (60, .lreturn, 1)]
set_option maxRecDepth 100000 in
theorem xi_ok68_2 : xi_ok cX1_times xi_68_2 = true := by decide +kernel
def xi_68 (pc : Nat) : XIs := cond (Nat.blt pc 26) (xi_68_0) (cond (Nat.blt pc 54) (xi_68_1) (xi_68_2))
theorem xi_ok68 (pc : Nat) : xi_ok cX1_times (xi_68 pc) = true := xi_c (xi_ok68_0) (xi_c (xi_ok68_1) (xi_ok68_2))
def xi_69_0 : XIs := [(0, .ldc2_w 140, 3), (3, .ldc2_w 138, 3), (6, .lload_n 0, 1), (7, .invokestatic 158, 3), (10, .invokestatic 164, 3), (13, .lreturn, 1)]
set_option maxRecDepth 100000 in
theorem xi_ok69_0 : xi_ok cX1_clip xi_69_0 = true := by decide +kernel
def xi_69 (pc : Nat) : XIs := xi_69_0
theorem xi_ok69 (pc : Nat) : xi_ok cX1_clip (xi_69 pc) = true := xi_ok69_0
def xi_70_0 : XIs := [(0, .aload_n 0, 1), (1, .iconst 0, 1), (2, .putfield 186, 3), (5, .aload_n 0, 1), (6, .iconst 0, 1), (7, .putfield 189, 3), (10, .aload_n 0, 1), (11, .iconst 0, 1), (12, .putfield 192, 3), (15, .aload_n 1, 1), (16, .iload_n 3, 1), (17, .invokestatic 195, 3), (20, .istore 7, 2), (22, .iconst 0, 1), (23, .istore 8, 2), (25, .iload 8, 2)]
set_option maxRecDepth 100000 in
theorem xi_ok70_0 : xi_ok cX1_post xi_70_0 = true := by decide +kernel
def xi_70_1 : XIs := [(27, .iload_n 2, 1), (28, .if_icmp .ge 56, 3), (31, .iload 7, 2), (33, .istore 9, 2), (35, .iconst 0, 1), (36, .istore 10, 2), (38, .iload 10, 2), (40, .ldc 110, 2), (42, .if_icmp .ge 36, 3), (45, .iload 9, 2), (47, .ifCond .le 31, 3), (50, .aload_n 0, 1), (51, .iload 9, 2), (53, .iload 4, 2), (55, .lload 5, 2), (57, .invokevirtual 199, 3)]
set_option maxRecDepth 100000 in
theorem xi_ok70_1 : xi_ok cX1_post xi_70_1 = true := by decide +kernel
def xi_70_2 : XIs := [(60, .istore 9, 2), (62, .aload_n 0, 1), (63, .dup, 1), (64, .getfield 192, 3), (67, .iconst 1, 1), (68, .iadd, 1), (69, .putfield 192, 3), (72, .iinc 10 1, 3), (75, .goto (-37), 3), (78, .iinc 8 1, 3), (81, .goto (-56), 3), (84, .return_, 1)]
set_option maxRecDepth 100000 in
theorem xi_ok70_2 : xi_ok cX1_post xi_70_2 = true := by decide +kernel
def xi_70 (pc : Nat) : XIs := cond (Nat.blt pc 27) (xi_70_0) (cond (Nat.blt pc 60) (xi_70_1) (xi_70_2))
theorem xi_ok70 (pc : Nat) : xi_ok cX1_post (xi_70 pc) = true := xi_c (xi_ok70_0) (xi_c (xi_ok70_1) (xi_ok70_2))
def xi_71_0 : XIs := [(0, .iload_n 1, 1), (1, .iconst 1, 1), (2, .if_icmp .ge 5, 3), (5, .iconst 0, 1), (6, .ireturn, 1), (7, .iconst 0, 1), (8, .istore_n 2, 1), (9, .iconst 0, 1), (10, .istore_n 3, 1), (11, .iload_n 3, 1), (12, .aload_n 0, 1), (13, .getfield 116, 3), (16, .if_icmp .ge 67, 3), (19, .iconst 0, 1), (20, .istore 4, 2), (22, .aload_n 0, 1)]
set_option maxRecDepth 100000 in
theorem xi_ok71_0 : xi_ok cX1_lettersOf xi_71_0 = true := by decide +kernel
def xi_71_1 : XIs := [(23, .getfield 203, 3), (26, .iload_n 3, 1), (27, .iaload, 1), (28, .istore 5, 2), (30, .iload 5, 2), (32, .ifCond .eq 29, 3), (35, .iload 4, 2), (37, .iconst 1, 1), (38, .iload 5, 2), (40, .invokestatic 206, 3), (43, .iload_n 1, 1), (44, .irem, 1), (45, .ishl, 1), (46, .ior, 1), (47, .istore 4, 2), (49, .iload 5, 2)]
set_option maxRecDepth 100000 in
theorem xi_ok71_1 : xi_ok cX1_lettersOf xi_71_1 = true := by decide +kernel
def xi_71_2 : XIs := [(51, .iload 5, 2), (53, .iconst 1, 1), (54, .isub, 1), (55, .iand, 1), (56, .istore 5, 2), (58, .goto (-28), 3), (61, .iload_n 2, 1), (62, .iload 4, 2), (64, .iconst 1, 1), (65, .iload_n 3, 1), (66, .iload_n 1, 1), (67, .irem, 1), (68, .ishl, 1), (69, .iconst (-1), 1), (70, .ixor, 1), (71, .iand, 1)]
set_option maxRecDepth 100000 in
theorem xi_ok71_2 : xi_ok cX1_lettersOf xi_71_2 = true := by decide +kernel
def xi_71_3 : XIs := [(72, .invokestatic 209, 3), (75, .iadd, 1), (76, .istore_n 2, 1), (77, .iinc 3 1, 3), (80, .goto (-69), 3), (83, .iload_n 2, 1), (84, .ireturn, 1)]
set_option maxRecDepth 100000 in
theorem xi_ok71_3 : xi_ok cX1_lettersOf xi_71_3 = true := by decide +kernel
def xi_71 (pc : Nat) : XIs := cond (Nat.blt pc 51) (cond (Nat.blt pc 23) (xi_71_0) (xi_71_1)) (cond (Nat.blt pc 72) (xi_71_2) (xi_71_3))
theorem xi_ok71 (pc : Nat) : xi_ok cX1_lettersOf (xi_71 pc) = true := xi_c (xi_c (xi_ok71_0) (xi_ok71_1)) (xi_c (xi_ok71_2) (xi_ok71_3))
def xi_72_0 : XIs := [(0, .iconst 0, 1), (1, .istore 5, 2), (3, .iconst 0, 1), (4, .istore 6, 2), (6, .iload 6, 2), (8, .iload_n 1, 1), (9, .if_icmp .ge 42, 3), (12, .aload_n 0, 1), (13, .dup, 1), (14, .getfield 186, 3), (17, .iconst 1, 1), (18, .iadd, 1), (19, .putfield 186, 3), (22, .lload_n 3, 1), (23, .ldc2_w 214, 3), (26, .aload_n 0, 1)]
set_option maxRecDepth 100000 in
theorem xi_ok72_0 : xi_ok cX1_sendAll xi_72_0 = true := by decide +kernel
def xi_72_1 : XIs := [(27, .getfield 186, 3), (30, .i2l, 1), (31, .lmul, 1), (32, .ladd, 1), (33, .invokestatic 216, 3), (36, .iload_n 2, 1), (37, .i2l, 1), (38, .lcmp, 1), (39, .ifCond .ge 6, 3), (42, .iinc 5 1, 3), (45, .iinc 6 1, 3), (48, .goto (-42), 3), (51, .aload_n 0, 1), (52, .dup, 1), (53, .getfield 189, 3), (56, .iload 5, 2)]
set_option maxRecDepth 100000 in
theorem xi_ok72_1 : xi_ok cX1_sendAll xi_72_1 = true := by decide +kernel
def xi_72_2 : XIs := [(58, .iadd, 1), (59, .putfield 189, 3), (62, .iload 5, 2), (64, .ireturn, 1)]
set_option maxRecDepth 100000 in
theorem xi_ok72_2 : xi_ok cX1_sendAll xi_72_2 = true := by decide +kernel
def xi_72 (pc : Nat) : XIs := cond (Nat.blt pc 27) (xi_72_0) (cond (Nat.blt pc 58) (xi_72_1) (xi_72_2))
theorem xi_ok72 (pc : Nat) : xi_ok cX1_sendAll (xi_72 pc) = true := xi_c (xi_ok72_0) (xi_c (xi_ok72_1) (xi_ok72_2))
def xi_73_0 : XIs := [(0, .lload_n 0, 1), (1, .lstore_n 2, 1), (2, .lload_n 2, 1), (3, .lload_n 2, 1), (4, .bipush 30, 2), (6, .lushr, 1), (7, .lxor, 1), (8, .ldc2_w 219, 3), (11, .lmul, 1), (12, .lstore_n 2, 1), (13, .lload_n 2, 1), (14, .lload_n 2, 1), (15, .bipush 27, 2), (17, .lushr, 1), (18, .lxor, 1), (19, .ldc2_w 221, 3)]
set_option maxRecDepth 100000 in
theorem xi_ok73_0 : xi_ok cX1_draw xi_73_0 = true := by decide +kernel
def xi_73_1 : XIs := [(22, .lmul, 1), (23, .lstore_n 2, 1), (24, .lload_n 2, 1), (25, .lload_n 2, 1), (26, .bipush 31, 2), (28, .lushr, 1), (29, .lxor, 1), (30, .lstore_n 2, 1), (31, .lload_n 2, 1), (32, .bipush 33, 2), (34, .lushr, 1), (35, .ldc2_w 223, 3), (38, .lrem, 1), (39, .lreturn, 1)]
set_option maxRecDepth 100000 in
theorem xi_ok73_1 : xi_ok cX1_draw xi_73_1 = true := by decide +kernel
def xi_73 (pc : Nat) : XIs := cond (Nat.blt pc 22) (xi_73_0) (xi_73_1)
theorem xi_ok73 (pc : Nat) : xi_ok cX1_draw (xi_73 pc) = true := xi_c (xi_ok73_0) (xi_ok73_1)
def xi_74_0 : XIs := [(0, .aload_n 0, 1), (1, .invokespecial 3, 3), (4, .aload_n 0, 1), (5, .iconst (-1), 1), (6, .putfield 9, 3), (9, .aload_n 0, 1), (10, .sipush 1024, 3), (13, .newarray .int, 2), (15, .putfield 15, 3), (18, .aload_n 0, 1), (19, .bipush 32, 2), (21, .newarray .int, 2), (23, .putfield 19, 3), (26, .aload_n 0, 1), (27, .bipush 32, 2), (29, .newarray .int, 2)]
set_option maxRecDepth 100000 in
theorem xi_ok74_0 : xi_ok cX2_init xi_74_0 = true := by decide +kernel
def xi_74_1 : XIs := [(31, .putfield 22, 3), (34, .aload_n 0, 1), (35, .sipush 160, 3), (38, .newarray .int, 2), (40, .putfield 25, 3), (43, .aload_n 0, 1), (44, .sipush 160, 3), (47, .newarray .int, 2), (49, .putfield 28, 3), (52, .aload_n 0, 1), (53, .sipush 160, 3), (56, .newarray .int, 2), (58, .putfield 31, 3), (61, .aload_n 0, 1), (62, .sipush 160, 3), (65, .newarray .int, 2)]
set_option maxRecDepth 100000 in
theorem xi_ok74_1 : xi_ok cX2_init xi_74_1 = true := by decide +kernel
def xi_74_2 : XIs := [(67, .putfield 34, 3), (70, .aload_n 0, 1), (71, .sipush 160, 3), (74, .newarray .int, 2), (76, .putfield 37, 3), (79, .aload_n 0, 1), (80, .bipush 32, 2), (82, .newarray .int, 2), (84, .putfield 40, 3), (87, .aload_n 0, 1), (88, .bipush 32, 2), (90, .newarray .long, 2), (92, .putfield 43, 3), (95, .aload_n 0, 1), (96, .iconst (-1), 1), (97, .putfield 47, 3)]
set_option maxRecDepth 100000 in
theorem xi_ok74_2 : xi_ok cX2_init xi_74_2 = true := by decide +kernel
def xi_74_3 : XIs := [(100, .return_, 1)]
set_option maxRecDepth 100000 in
theorem xi_ok74_3 : xi_ok cX2_init xi_74_3 = true := by decide +kernel
def xi_74 (pc : Nat) : XIs := cond (Nat.blt pc 67) (cond (Nat.blt pc 31) (xi_74_0) (xi_74_1)) (cond (Nat.blt pc 100) (xi_74_2) (xi_74_3))
theorem xi_ok74 (pc : Nat) : xi_ok cX2_init (xi_74 pc) = true := xi_c (xi_c (xi_ok74_0) (xi_ok74_1)) (xi_c (xi_ok74_2) (xi_ok74_3))
def xi_75_0 : XIs := [(0, .aload_n 0, 1), (1, .getfield 9, 3), (4, .aload_n 1, 1), (5, .getfield 50, 3), (8, .if_icmp .ne 24, 3), (11, .aload_n 0, 1), (12, .getfield 55, 3), (15, .iload_n 2, 1), (16, .if_icmp .ne 16, 3), (19, .aload_n 0, 1), (20, .getfield 58, 3), (23, .iload_n 3, 1), (24, .if_icmp .ne 8, 3), (27, .aload_n 0, 1), (28, .getfield 61, 3), (31, .lreturn, 1)]
set_option maxRecDepth 100000 in
theorem xi_ok75_0 : xi_ok cX2_greatest xi_75_0 = true := by decide +kernel
def xi_75_1 : XIs := [(32, .aload_n 0, 1), (33, .aload_n 1, 1), (34, .getfield 50, 3), (37, .putfield 9, 3), (40, .aload_n 0, 1), (41, .iload_n 2, 1), (42, .putfield 55, 3), (45, .aload_n 0, 1), (46, .iload_n 3, 1), (47, .putfield 58, 3), (50, .aload_n 0, 1), (51, .lconst 0, 1), (52, .putfield 61, 3), (55, .aload_n 0, 1), (56, .aload_n 1, 1), (57, .invokevirtual 65, 3)]
set_option maxRecDepth 100000 in
theorem xi_ok75_1 : xi_ok cX2_greatest xi_75_1 = true := by decide +kernel
def xi_75_2 : XIs := [(60, .iconst 0, 1), (61, .istore 4, 2), (63, .iload 4, 2), (65, .ldc 69, 2), (67, .if_icmp .ge 34, 3), (70, .aload_n 0, 1), (71, .iload_n 2, 1), (72, .iload_n 3, 1), (73, .invokevirtual 70, 3), (76, .ifCond .eq 25, 3), (79, .aload_n 0, 1), (80, .dup, 1), (81, .getfield 61, 3), (84, .aload_n 0, 1), (85, .iload_n 2, 1), (86, .iload_n 3, 1)]
set_option maxRecDepth 100000 in
theorem xi_ok75_2 : xi_ok cX2_greatest xi_75_2 = true := by decide +kernel
def xi_75_3 : XIs := [(87, .invokevirtual 74, 3), (90, .i2l, 1), (91, .ladd, 1), (92, .putfield 61, 3), (95, .iinc 4 1, 3), (98, .goto (-35), 3), (101, .aload_n 0, 1), (102, .getfield 61, 3), (105, .lreturn, 1)]
set_option maxRecDepth 100000 in
theorem xi_ok75_3 : xi_ok cX2_greatest xi_75_3 = true := by decide +kernel
def xi_75 (pc : Nat) : XIs := cond (Nat.blt pc 60) (cond (Nat.blt pc 32) (xi_75_0) (xi_75_1)) (cond (Nat.blt pc 87) (xi_75_2) (xi_75_3))
theorem xi_ok75 (pc : Nat) : xi_ok cX2_greatest (xi_75 pc) = true := xi_c (xi_c (xi_ok75_0) (xi_ok75_1)) (xi_c (xi_ok75_2) (xi_ok75_3))
def xi_76_0 : XIs := [(0, .aload_n 0, 1), (1, .getfield 15, 3), (4, .iconst 0, 1), (5, .invokestatic 78, 3), (8, .aload_n 0, 1), (9, .getfield 19, 3), (12, .iconst 0, 1), (13, .invokestatic 78, 3), (16, .iconst 0, 1), (17, .istore_n 2, 1), (18, .iload_n 2, 1), (19, .aload_n 1, 1), (20, .getfield 84, 3), (23, .if_icmp .ge 78, 3), (26, .aload_n 1, 1), (27, .iload_n 2, 1)]
set_option maxRecDepth 100000 in
theorem xi_ok76_0 : xi_ok cX2_openAll xi_76_0 = true := by decide +kernel
def xi_76_1 : XIs := [(28, .invokevirtual 87, 3), (31, .ifCond .eq 64, 3), (34, .aload_n 1, 1), (35, .getfield 91, 3), (38, .iload_n 2, 1), (39, .iaload, 1), (40, .ifCond .le 55, 3), (43, .aload_n 0, 1), (44, .getfield 15, 3), (47, .aload_n 1, 1), (48, .getfield 94, 3), (51, .iload_n 2, 1), (52, .iaload, 1), (53, .bipush 32, 2), (55, .imul, 1), (56, .aload_n 1, 1)]
set_option maxRecDepth 100000 in
theorem xi_ok76_1 : xi_ok cX2_openAll xi_76_1 = true := by decide +kernel
def xi_76_2 : XIs := [(57, .getfield 97, 3), (60, .iload_n 2, 1), (61, .iaload, 1), (62, .iadd, 1), (63, .dup2, 1), (64, .iaload, 1), (65, .aload_n 1, 1), (66, .getfield 91, 3), (69, .iload_n 2, 1), (70, .iaload, 1), (71, .iadd, 1), (72, .iastore, 1), (73, .aload_n 0, 1), (74, .getfield 19, 3), (77, .aload_n 1, 1), (78, .getfield 94, 3)]
set_option maxRecDepth 100000 in
theorem xi_ok76_2 : xi_ok cX2_openAll xi_76_2 = true := by decide +kernel
def xi_76_3 : XIs := [(81, .iload_n 2, 1), (82, .iaload, 1), (83, .dup2, 1), (84, .iaload, 1), (85, .iconst 1, 1), (86, .aload_n 1, 1), (87, .getfield 97, 3), (90, .iload_n 2, 1), (91, .iaload, 1), (92, .ishl, 1), (93, .ior, 1), (94, .iastore, 1), (95, .iinc 2 1, 3), (98, .goto (-80), 3), (101, .return_, 1)]
set_option maxRecDepth 100000 in
theorem xi_ok76_3 : xi_ok cX2_openAll xi_76_3 = true := by decide +kernel
def xi_76 (pc : Nat) : XIs := cond (Nat.blt pc 57) (cond (Nat.blt pc 28) (xi_76_0) (xi_76_1)) (cond (Nat.blt pc 81) (xi_76_2) (xi_76_3))
theorem xi_ok76 (pc : Nat) : xi_ok cX2_openAll (xi_76 pc) = true := xi_c (xi_c (xi_ok76_0) (xi_ok76_1)) (xi_c (xi_ok76_2) (xi_ok76_3))
def xi_77_0 : XIs := [(0, .iconst 1, 1), (1, .iload_n 1, 1), (2, .ishl, 1), (3, .istore_n 3, 1), (4, .iload_n 3, 1), (5, .istore 4, 2), (7, .iconst 0, 1), (8, .istore 5, 2), (10, .iload 5, 2), (12, .bipush 32, 2), (14, .if_icmp .ge 115, 3), (17, .iload 4, 2), (19, .ifCond .eq 110, 3), (22, .iload_n 3, 1), (23, .iload_n 2, 1), (24, .ishr, 1)]
set_option maxRecDepth 100000 in
theorem xi_ok77_0 : xi_ok cX2_reach xi_77_0 = true := by decide +kernel
def xi_77_1 : XIs := [(25, .iconst 1, 1), (26, .iand, 1), (27, .ifCond .ne 102, 3), (30, .iconst 0, 1), (31, .istore 6, 2), (33, .iload 4, 2), (35, .istore 7, 2), (37, .iload 7, 2), (39, .ifCond .eq 80, 3), (42, .iload 7, 2), (44, .invokestatic 100, 3), (47, .istore 8, 2), (49, .aload_n 0, 1), (50, .getfield 19, 3), (53, .iload 8, 2), (55, .iaload, 1)]
set_option maxRecDepth 100000 in
theorem xi_ok77_1 : xi_ok cX2_reach xi_77_1 = true := by decide +kernel
def xi_77_2 : XIs := [(56, .iload_n 3, 1), (57, .iconst (-1), 1), (58, .ixor, 1), (59, .iand, 1), (60, .istore 9, 2), (62, .iload 9, 2), (64, .istore 10, 2), (66, .iload 10, 2), (68, .ifCond .eq 27, 3), (71, .aload_n 0, 1), (72, .getfield 22, 3), (75, .iload 10, 2), (77, .invokestatic 100, 3), (80, .iload 8, 2), (82, .iastore, 1), (83, .iload 10, 2)]
set_option maxRecDepth 100000 in
theorem xi_ok77_2 : xi_ok cX2_reach xi_77_2 = true := by decide +kernel
def xi_77_3 : XIs := [(85, .iload 10, 2), (87, .iconst 1, 1), (88, .isub, 1), (89, .iand, 1), (90, .istore 10, 2), (92, .goto (-26), 3), (95, .iload_n 3, 1), (96, .iload 9, 2), (98, .ior, 1), (99, .istore_n 3, 1), (100, .iload 6, 2), (102, .iload 9, 2), (104, .ior, 1), (105, .istore 6, 2), (107, .iload 7, 2), (109, .iload 7, 2)]
set_option maxRecDepth 100000 in
theorem xi_ok77_3 : xi_ok cX2_reach xi_77_3 = true := by decide +kernel
def xi_77_4 : XIs := [(111, .iconst 1, 1), (112, .isub, 1), (113, .iand, 1), (114, .istore 7, 2), (116, .goto (-79), 3), (119, .iload 6, 2), (121, .istore 4, 2), (123, .iinc 5 1, 3), (126, .goto (-116), 3), (129, .aload_n 0, 1), (130, .iload_n 3, 1), (131, .putfield 104, 3), (134, .iload_n 3, 1), (135, .iload_n 2, 1), (136, .ishr, 1), (137, .iconst 1, 1)]
set_option maxRecDepth 100000 in
theorem xi_ok77_4 : xi_ok cX2_reach xi_77_4 = true := by decide +kernel
def xi_77_5 : XIs := [(138, .iand, 1), (139, .ifCond .eq 7, 3), (142, .iconst 1, 1), (143, .goto 4, 3), (146, .iconst 0, 1), (147, .ireturn, 1)]
set_option maxRecDepth 100000 in
theorem xi_ok77_5 : xi_ok cX2_reach xi_77_5 = true := by decide +kernel
def xi_77 (pc : Nat) : XIs := cond (Nat.blt pc 85) (cond (Nat.blt pc 25) (xi_77_0) (cond (Nat.blt pc 56) (xi_77_1) (xi_77_2))) (cond (Nat.blt pc 111) (xi_77_3) (cond (Nat.blt pc 138) (xi_77_4) (xi_77_5)))
theorem xi_ok77 (pc : Nat) : xi_ok cX2_reach (xi_77 pc) = true := xi_c (xi_c (xi_ok77_0) (xi_c (xi_ok77_1) (xi_ok77_2))) (xi_c (xi_ok77_3) (xi_c (xi_ok77_4) (xi_ok77_5)))
def xi_78_0 : XIs := [(0, .ldc 107, 2), (2, .istore_n 3, 1), (3, .iload_n 2, 1), (4, .istore 4, 2), (6, .iconst 0, 1), (7, .istore 5, 2), (9, .iload 5, 2), (11, .bipush 32, 2), (13, .if_icmp .ge 47, 3), (16, .iload 4, 2), (18, .iload_n 1, 1), (19, .if_icmp .eq 41, 3), (22, .iload_n 3, 1), (23, .aload_n 0, 1), (24, .getfield 15, 3), (27, .aload_n 0, 1)]
set_option maxRecDepth 100000 in
theorem xi_ok78_0 : xi_ok cX2_push xi_78_0 = true := by decide +kernel
def xi_78_1 : XIs := [(28, .getfield 22, 3), (31, .iload 4, 2), (33, .iaload, 1), (34, .bipush 32, 2), (36, .imul, 1), (37, .iload 4, 2), (39, .iadd, 1), (40, .iaload, 1), (41, .invokestatic 108, 3), (44, .istore_n 3, 1), (45, .aload_n 0, 1), (46, .getfield 22, 3), (49, .iload 4, 2), (51, .iaload, 1), (52, .istore 4, 2), (54, .iinc 5 1, 3)]
set_option maxRecDepth 100000 in
theorem xi_ok78_1 : xi_ok cX2_push xi_78_1 = true := by decide +kernel
def xi_78_2 : XIs := [(57, .goto (-48), 3), (60, .iload_n 2, 1), (61, .istore 4, 2), (63, .iconst 0, 1), (64, .istore 5, 2), (66, .iload 5, 2), (68, .bipush 32, 2), (70, .if_icmp .ge 108, 3), (73, .iload 4, 2), (75, .iload_n 1, 1), (76, .if_icmp .eq 102, 3), (79, .aload_n 0, 1), (80, .getfield 22, 3), (83, .iload 4, 2), (85, .iaload, 1), (86, .istore 6, 2)]
set_option maxRecDepth 100000 in
theorem xi_ok78_2 : xi_ok cX2_push xi_78_2 = true := by decide +kernel
def xi_78_3 : XIs := [(88, .aload_n 0, 1), (89, .getfield 15, 3), (92, .iload 6, 2), (94, .bipush 32, 2), (96, .imul, 1), (97, .iload 4, 2), (99, .iadd, 1), (100, .dup2, 1), (101, .iaload, 1), (102, .iload_n 3, 1), (103, .isub, 1), (104, .iastore, 1), (105, .aload_n 0, 1), (106, .getfield 15, 3), (109, .iload 6, 2), (111, .bipush 32, 2)]
set_option maxRecDepth 100000 in
theorem xi_ok78_3 : xi_ok cX2_push xi_78_3 = true := by decide +kernel
def xi_78_4 : XIs := [(113, .imul, 1), (114, .iload 4, 2), (116, .iadd, 1), (117, .iaload, 1), (118, .ifCond .ne 19, 3), (121, .aload_n 0, 1), (122, .getfield 19, 3), (125, .iload 6, 2), (127, .dup2, 1), (128, .iaload, 1), (129, .iconst 1, 1), (130, .iload 4, 2), (132, .ishl, 1), (133, .iconst (-1), 1), (134, .ixor, 1), (135, .iand, 1)]
set_option maxRecDepth 100000 in
theorem xi_ok78_4 : xi_ok cX2_push xi_78_4 = true := by decide +kernel
def xi_78_5 : XIs := [(136, .iastore, 1), (137, .aload_n 0, 1), (138, .getfield 15, 3), (141, .iload 4, 2), (143, .bipush 32, 2), (145, .imul, 1), (146, .iload 6, 2), (148, .iadd, 1), (149, .dup2, 1), (150, .iaload, 1), (151, .iload_n 3, 1), (152, .iadd, 1), (153, .iastore, 1), (154, .aload_n 0, 1), (155, .getfield 19, 3), (158, .iload 4, 2)]
set_option maxRecDepth 100000 in
theorem xi_ok78_5 : xi_ok cX2_push xi_78_5 = true := by decide +kernel
def xi_78_6 : XIs := [(160, .dup2, 1), (161, .iaload, 1), (162, .iconst 1, 1), (163, .iload 6, 2), (165, .ishl, 1), (166, .ior, 1), (167, .iastore, 1), (168, .iload 6, 2), (170, .istore 4, 2), (172, .iinc 5 1, 3), (175, .goto (-109), 3), (178, .iload_n 3, 1), (179, .ireturn, 1)]
set_option maxRecDepth 100000 in
theorem xi_ok78_6 : xi_ok cX2_push xi_78_6 = true := by decide +kernel
def xi_78 (pc : Nat) : XIs := cond (Nat.blt pc 88) (cond (Nat.blt pc 28) (xi_78_0) (cond (Nat.blt pc 57) (xi_78_1) (xi_78_2))) (cond (Nat.blt pc 136) (cond (Nat.blt pc 113) (xi_78_3) (xi_78_4)) (cond (Nat.blt pc 160) (xi_78_5) (xi_78_6)))
theorem xi_ok78 (pc : Nat) : xi_ok cX2_push (xi_78 pc) = true := xi_c (xi_c (xi_ok78_0) (xi_c (xi_ok78_1) (xi_ok78_2))) (xi_c (xi_c (xi_ok78_3) (xi_ok78_4)) (xi_c (xi_ok78_5) (xi_ok78_6)))
def xi_79_0 : XIs := [(0, .iload 4, 2), (2, .i2l, 1), (3, .aload_n 0, 1), (4, .aload_n 1, 1), (5, .iload_n 2, 1), (6, .iload_n 3, 1), (7, .invokevirtual 113, 3), (10, .lcmp, 1), (11, .ifCond .le 7, 3), (14, .ldc2_w 117, 3), (17, .lreturn, 1), (18, .aload_n 0, 1), (19, .getfield 40, 3), (22, .iconst 0, 1), (23, .invokestatic 78, 3), (26, .aload_n 0, 1)]
set_option maxRecDepth 100000 in
theorem xi_ok79_0 : xi_ok cX2_cheapest xi_79_0 = true := by decide +kernel
def xi_79_1 : XIs := [(27, .iconst 0, 1), (28, .putfield 119, 3), (31, .lconst 0, 1), (32, .lstore 5, 2), (34, .iconst 0, 1), (35, .istore 7, 2), (37, .iload 7, 2), (39, .aload_n 1, 1), (40, .getfield 84, 3), (43, .if_icmp .ge 32, 3), (46, .aload_n 1, 1), (47, .getfield 94, 3), (50, .iload 7, 2), (52, .iaload, 1), (53, .iconst (-1), 1), (54, .if_icmp .eq 15, 3)]
set_option maxRecDepth 100000 in
theorem xi_ok79_1 : xi_ok cX2_cheapest xi_79_1 = true := by decide +kernel
def xi_79_2 : XIs := [(57, .lload 5, 2), (59, .aload_n 0, 1), (60, .aload_n 1, 1), (61, .iload 7, 2), (63, .invokevirtual 122, 3), (66, .ladd, 1), (67, .lstore 5, 2), (69, .iinc 7 1, 3), (72, .goto (-35), 3), (75, .aload_n 0, 1), (76, .getfield 40, 3), (79, .iload_n 2, 1), (80, .dup2, 1), (81, .iaload, 1), (82, .iload 4, 2), (84, .iadd, 1)]
set_option maxRecDepth 100000 in
theorem xi_ok79_2 : xi_ok cX2_cheapest xi_79_2 = true := by decide +kernel
def xi_79_3 : XIs := [(85, .iastore, 1), (86, .aload_n 0, 1), (87, .getfield 40, 3), (90, .iload_n 3, 1), (91, .dup2, 1), (92, .iaload, 1), (93, .iload 4, 2), (95, .isub, 1), (96, .iastore, 1), (97, .iconst 0, 1), (98, .istore 7, 2), (100, .iload 7, 2), (102, .ldc 69, 2), (104, .if_icmp .ge 39, 3), (107, .aload_n 0, 1), (108, .aload_n 1, 1)]
set_option maxRecDepth 100000 in
theorem xi_ok79_3 : xi_ok cX2_cheapest xi_79_3 = true := by decide +kernel
def xi_79_4 : XIs := [(109, .getfield 126, 3), (112, .invokevirtual 129, 3), (115, .istore 8, 2), (117, .iload 8, 2), (119, .iconst (-1), 1), (120, .if_icmp .ne 6, 3), (123, .lload 5, 2), (125, .lreturn, 1), (126, .lload 5, 2), (128, .aload_n 0, 1), (129, .iload 8, 2), (131, .invokevirtual 132, 3), (134, .ladd, 1), (135, .lstore 5, 2), (137, .iinc 7 1, 3), (140, .goto (-40), 3)]
set_option maxRecDepth 100000 in
theorem xi_ok79_4 : xi_ok cX2_cheapest xi_79_4 = true := by decide +kernel
def xi_79_5 : XIs := [(143, .lload 5, 2), (145, .lreturn, 1)]
set_option maxRecDepth 100000 in
theorem xi_ok79_5 : xi_ok cX2_cheapest xi_79_5 = true := by decide +kernel
def xi_79 (pc : Nat) : XIs := cond (Nat.blt pc 85) (cond (Nat.blt pc 27) (xi_79_0) (cond (Nat.blt pc 57) (xi_79_1) (xi_79_2))) (cond (Nat.blt pc 109) (xi_79_3) (cond (Nat.blt pc 143) (xi_79_4) (xi_79_5)))
theorem xi_ok79 (pc : Nat) : xi_ok cX2_cheapest (xi_79 pc) = true := xi_c (xi_c (xi_ok79_0) (xi_c (xi_ok79_1) (xi_ok79_2))) (xi_c (xi_ok79_3) (xi_c (xi_ok79_4) (xi_ok79_5)))
def xi_80_0 : XIs := [(0, .aload_n 1, 1), (1, .getfield 136, 3), (4, .iload_n 2, 1), (5, .iaload, 1), (6, .ifCond .ge 7, 3), (9, .iconst 1, 1), (10, .goto 4, 3), (13, .iconst 0, 1), (14, .istore_n 3, 1), (15, .aload_n 1, 1), (16, .iload_n 2, 1), (17, .invokevirtual 87, 3), (20, .ifCond .eq 92, 3), (23, .aload_n 0, 1), (24, .aload_n 1, 1), (25, .getfield 94, 3)]
set_option maxRecDepth 100000 in
theorem xi_ok80_0 : xi_ok cX2_layArc xi_80_0 = true := by decide +kernel
def xi_80_1 : XIs := [(28, .iload_n 2, 1), (29, .iaload, 1), (30, .aload_n 1, 1), (31, .getfield 97, 3), (34, .iload_n 2, 1), (35, .iaload, 1), (36, .aload_n 1, 1), (37, .getfield 136, 3), (40, .iload_n 2, 1), (41, .iaload, 1), (42, .aload_n 1, 1), (43, .getfield 91, 3), (46, .iload_n 2, 1), (47, .iaload, 1), (48, .invokevirtual 139, 3), (51, .iload_n 3, 1)]
set_option maxRecDepth 100000 in
theorem xi_ok80_1 : xi_ok cX2_layArc xi_80_1 = true := by decide +kernel
def xi_80_2 : XIs := [(52, .ifCond .eq 60, 3), (55, .aload_n 0, 1), (56, .getfield 37, 3), (59, .aload_n 0, 1), (60, .getfield 119, 3), (63, .iconst 1, 1), (64, .isub, 1), (65, .aload_n 1, 1), (66, .getfield 91, 3), (69, .iload_n 2, 1), (70, .iaload, 1), (71, .iastore, 1), (72, .aload_n 0, 1), (73, .getfield 40, 3), (76, .aload_n 1, 1), (77, .getfield 97, 3)]
set_option maxRecDepth 100000 in
theorem xi_ok80_2 : xi_ok cX2_layArc xi_80_2 = true := by decide +kernel
def xi_80_3 : XIs := [(80, .iload_n 2, 1), (81, .iaload, 1), (82, .dup2, 1), (83, .iaload, 1), (84, .aload_n 1, 1), (85, .getfield 91, 3), (88, .iload_n 2, 1), (89, .iaload, 1), (90, .iadd, 1), (91, .iastore, 1), (92, .aload_n 0, 1), (93, .getfield 40, 3), (96, .aload_n 1, 1), (97, .getfield 94, 3), (100, .iload_n 2, 1), (101, .iaload, 1)]
set_option maxRecDepth 100000 in
theorem xi_ok80_3 : xi_ok cX2_layArc xi_80_3 = true := by decide +kernel
def xi_80_4 : XIs := [(102, .dup2, 1), (103, .iaload, 1), (104, .aload_n 1, 1), (105, .getfield 91, 3), (108, .iload_n 2, 1), (109, .iaload, 1), (110, .isub, 1), (111, .iastore, 1), (112, .iload_n 3, 1), (113, .ifCond .eq 21, 3), (116, .aload_n 1, 1), (117, .getfield 136, 3), (120, .iload_n 2, 1), (121, .iaload, 1), (122, .i2l, 1), (123, .aload_n 1, 1)]
set_option maxRecDepth 100000 in
theorem xi_ok80_4 : xi_ok cX2_layArc xi_80_4 = true := by decide +kernel
def xi_80_5 : XIs := [(124, .getfield 91, 3), (127, .iload_n 2, 1), (128, .iaload, 1), (129, .i2l, 1), (130, .lmul, 1), (131, .goto 4, 3), (134, .lconst 0, 1), (135, .lreturn, 1)]
set_option maxRecDepth 100000 in
theorem xi_ok80_5 : xi_ok cX2_layArc xi_80_5 = true := by decide +kernel
def xi_80 (pc : Nat) : XIs := cond (Nat.blt pc 80) (cond (Nat.blt pc 28) (xi_80_0) (cond (Nat.blt pc 52) (xi_80_1) (xi_80_2))) (cond (Nat.blt pc 102) (xi_80_3) (cond (Nat.blt pc 124) (xi_80_4) (xi_80_5)))
theorem xi_ok80 (pc : Nat) : xi_ok cX2_layArc (xi_80 pc) = true := xi_c (xi_c (xi_ok80_0) (xi_c (xi_ok80_1) (xi_ok80_2))) (xi_c (xi_ok80_3) (xi_c (xi_ok80_4) (xi_ok80_5)))
