set_option maxRecDepth 100000 in
theorem tn_w130 : xi_ok cX5_openRow (xi_130_0 ++ (xi_130_1)) = true := dn_all _ _ (by decide +kernel)
set_option maxRecDepth 100000 in
theorem tn_w131 : xi_ok cX5_apply (xi_131_0 ++ (xi_131_1 ++ (xi_131_3 ++ (xi_131_4 ++ (xi_131_5 ++ (xi_131_6)))))) = true := dn_all _ _ (by decide +kernel)
set_option maxRecDepth 100000 in
theorem tn_w132 : xi_ok cX5_applyArc (xi_132_0 ++ (xi_132_1 ++ (xi_132_2 ++ (xi_132_3 ++ (xi_132_4))))) = true := dn_all _ _ (by decide +kernel)
set_option maxRecDepth 100000 in
theorem tn_w133 : xi_ok cX5_applyValue (xi_133_0 ++ (xi_133_1)) = true := dn_all _ _ (by decide +kernel)
set_option maxRecDepth 100000 in
theorem tn_w134 : xi_ok cX5_replay (xi_134_0 ++ (xi_134_1)) = true := dn_all _ _ (by decide +kernel)
set_option maxRecDepth 100000 in
theorem tn_w135 : xi_ok cX5_carryOut (xi_135_0 ++ (xi_135_1 ++ (xi_135_2))) = true := dn_all _ _ (by decide +kernel)
set_option maxRecDepth 100000 in
theorem tn_w136 : xi_ok cX5_readCommand (xi_136_0 ++ (xi_136_1 ++ (xi_136_2 ++ (xi_136_3 ++ (xi_136_4 ++ (xi_136_5)))))) = true := dn_all _ _ (by decide +kernel)
set_option maxRecDepth 100000 in
theorem tn_w137 : xi_ok cX5_shapeOf (xi_137_0 ++ (xi_137_2)) = true := dn_all _ _ (by decide +kernel)
set_option maxRecDepth 100000 in
theorem tn_w138 : xi_ok cX5_doCommand (xi_138_0 ++ (xi_138_1 ++ (xi_138_2 ++ (xi_138_3 ++ (xi_138_4 ++ (xi_138_5 ++ (xi_138_6 ++ (xi_138_7)))))))) = true := dn_all _ _ (by decide +kernel)
set_option maxRecDepth 100000 in
theorem tn_w139 : xi_ok cX6_init (xi_139_0 ++ (xi_139_1)) = true := dn_all _ _ (by decide +kernel)
set_option maxRecDepth 100000 in
theorem tn_w140 : xi_ok cX6_strongPart (xi_140_0 ++ (xi_140_1)) = true := dn_all _ _ (by decide +kernel)
set_option maxRecDepth 100000 in
theorem tn_w141 : xi_ok cX6_weakPart (xi_141_0) = true := dn_all _ _ (by decide +kernel)
set_option maxRecDepth 100000 in
theorem tn_w142 : xi_ok cX6_isBridge (xi_142_0 ++ (xi_142_1 ++ (xi_142_2 ++ (xi_142_3 ++ (xi_142_4 ++ (xi_142_5)))))) = true := dn_all _ _ (by decide +kernel)
set_option maxRecDepth 100000 in
theorem tn_w143 : xi_ok cX6_isCut (xi_143_0 ++ (xi_143_1)) = true := dn_all _ _ (by decide +kernel)
set_option maxRecDepth 100000 in
theorem tn_w144 : xi_ok cX6_ordered (xi_144_0 ++ (xi_144_1)) = true := dn_all _ _ (by decide +kernel)
set_option maxRecDepth 100000 in
theorem tn_w145 : xi_ok cX6_makeOrder (xi_145_0 ++ (xi_145_1 ++ (xi_145_2))) = true := dn_all _ _ (by decide +kernel)
set_option maxRecDepth 100000 in
theorem tn_w146 : xi_ok cX6_firstFree (xi_146_0 ++ (xi_146_1)) = true := dn_all _ _ (by decide +kernel)
set_option maxRecDepth 100000 in
theorem tn_w147 : xi_ok cX6_coreOf (xi_147_0 ++ (xi_147_1)) = true := dn_all _ _ (by decide +kernel)
set_option maxRecDepth 100000 in
theorem tn_w148 : xi_ok cX6_peel (xi_148_0 ++ (xi_148_1 ++ (xi_148_2))) = true := dn_all _ _ (by decide +kernel)
set_option maxRecDepth 100000 in
theorem tn_w149 : xi_ok cX6_loosest (xi_149_0 ++ (xi_149_1)) = true := dn_all _ _ (by decide +kernel)
set_option maxRecDepth 100000 in
theorem tn_w150 : xi_ok cX6_loosen (xi_150_0 ++ (xi_150_1 ++ (xi_150_2 ++ (xi_150_3)))) = true := dn_all _ _ (by decide +kernel)
set_option maxRecDepth 100000 in
theorem tn_w151 : xi_ok cX6_triangles (xi_151_0 ++ (xi_151_1 ++ (xi_151_2))) = true := dn_all _ _ (by decide +kernel)
set_option maxRecDepth 100000 in
theorem tn_w152 : xi_ok cX6_squares (xi_152_0 ++ (xi_152_1 ++ (xi_152_2))) = true := dn_all _ _ (by decide +kernel)
set_option maxRecDepth 100000 in
theorem tn_w153 : xi_ok cX7_init (xi_153_0 ++ (xi_153_1 ++ (xi_153_2))) = true := dn_all _ _ (by decide +kernel)
set_option maxRecDepth 100000 in
theorem tn_w154 : xi_ok cX7_adopt (xi_154_0 ++ (xi_154_1)) = true := dn_all _ _ (by decide +kernel)
set_option maxRecDepth 100000 in
theorem tn_w155 : xi_ok cX7_isGood (xi_155_0 ++ (xi_155_1 ++ (xi_155_2 ++ (xi_155_3)))) = true := dn_all _ _ (by decide +kernel)
set_option maxRecDepth 100000 in
theorem tn_w156 : xi_ok cX7_judge (xi_156_0 ++ (xi_156_2 ++ (xi_156_3))) = true := dn_all _ _ (by decide +kernel)
set_option maxRecDepth 100000 in
theorem tn_w157 : xi_ok cX7_isAtom (xi_157_0) = true := dn_all _ _ (by decide +kernel)
set_option maxRecDepth 100000 in
theorem tn_w158 : xi_ok cX7_build (xi_158_0 ++ (xi_158_1 ++ (xi_158_2 ++ (xi_158_3 ++ (xi_158_4 ++ (xi_158_5 ++ (xi_158_6 ++ (xi_158_7)))))))) = true := dn_all _ _ (by decide +kernel)
set_option maxRecDepth 100000 in
theorem tn_w159 : xi_ok cX7_closeBars (xi_159_0 ++ (xi_159_1)) = true := dn_all _ _ (by decide +kernel)
set_option maxRecDepth 100000 in
theorem tn_w160 : xi_ok cX7_layPlace (xi_160_0 ++ (xi_160_1 ++ (xi_160_2 ++ (xi_160_3 ++ (xi_160_4 ++ (xi_160_5)))))) = true := dn_all _ _ (by decide +kernel)
set_option maxRecDepth 100000 in
theorem tn_w161 : xi_ok cX7_layRepeat (xi_161_0 ++ (xi_161_1 ++ (xi_161_2))) = true := dn_all _ _ (by decide +kernel)
set_option maxRecDepth 100000 in
theorem tn_w162 : xi_ok cX7_close (xi_162_0 ++ (xi_162_1 ++ (xi_162_2 ++ (xi_162_3 ++ (xi_162_4 ++ (xi_162_5 ++ (xi_162_6 ++ (xi_162_7)))))))) = true := dn_all _ _ (by decide +kernel)
set_option maxRecDepth 100000 in
theorem tn_w163 : xi_ok cX7_leastFit (xi_163_0 ++ (xi_163_1 ++ (xi_163_2 ++ (xi_163_3)))) = true := dn_all _ _ (by decide +kernel)
set_option maxRecDepth 100000 in
theorem tn_w164 : xi_ok cX7_step (xi_164_0 ++ (xi_164_1 ++ (xi_164_2 ++ (xi_164_3 ++ (xi_164_4 ++ (xi_164_5 ++ (xi_164_6))))))) = true := dn_all _ _ (by decide +kernel)
set_option maxRecDepth 100000 in
theorem tn_w165 : xi_ok cX7_behind (xi_165_0 ++ (xi_165_1)) = true := dn_all _ _ (by decide +kernel)
set_option maxRecDepth 100000 in
theorem tn_w166 : xi_ok cX8_init (xi_166_0 ++ (xi_166_1)) = true := dn_all _ _ (by decide +kernel)
set_option maxRecDepth 100000 in
theorem tn_w167 : xi_ok cX8_begin (xi_167_0) = true := dn_all _ _ (by decide +kernel)
set_option maxRecDepth 100000 in
theorem tn_w168 : xi_ok cX8_accuse (xi_168_0) = true := dn_all _ _ (by decide +kernel)
set_option maxRecDepth 100000 in
theorem tn_w169 : xi_ok cX8_refuse (xi_169_0 ++ (xi_169_1)) = true := dn_all _ _ (by decide +kernel)
set_option maxRecDepth 100000 in
theorem tn_w170 : xi_ok cX8_isAt (xi_170_0) = true := dn_all _ _ (by decide +kernel)
set_option maxRecDepth 100000 in
theorem tn_w171 : xi_ok cX8_next (xi_171_0 ++ (xi_171_1 ++ (xi_171_2 ++ (xi_171_3 ++ (xi_171_4 ++ (xi_171_5 ++ (xi_171_6))))))) = true := dn_all _ _ (by decide +kernel)
set_option maxRecDepth 100000 in
theorem tn_w172 : xi_ok cX8_isDigit (xi_172_0 ++ (xi_172_1)) = true := dn_all _ _ (by decide +kernel)
set_option maxRecDepth 100000 in
theorem tn_w173 : xi_ok cX8_readNumber (xi_173_0 ++ (xi_173_1 ++ (xi_173_2 ++ (xi_173_3 ++ (xi_173_4))))) = true := dn_all _ _ (by decide +kernel)
set_option maxRecDepth 100000 in
theorem tn_w174 : xi_ok cX8_isSign (xi_174_0) = true := dn_all _ _ (by decide +kernel)
set_option maxRecDepth 100000 in
theorem tn_w175 : xi_ok cX8_write (xi_175_0 ++ (xi_175_1 ++ (xi_175_2 ++ (xi_175_3 ++ (xi_175_4))))) = true := dn_all _ _ (by decide +kernel)
set_option maxRecDepth 100000 in
theorem tn_w176 : xi_ok cX8_endCommand (xi_176_0) = true := dn_all _ _ (by decide +kernel)
set_option maxRecDepth 100000 in
theorem tn_w177 : xi_ok cX8_put (xi_177_0 ++ (xi_177_1)) = true := dn_all _ _ (by decide +kernel)
set_option maxRecDepth 100000 in
theorem tn_w178 : xi_ok cX8_putNumber (xi_178_0 ++ (xi_178_1 ++ (xi_178_2))) = true := dn_all _ _ (by decide +kernel)
set_option maxRecDepth 100000 in
theorem tn_w179 : xi_ok cX9_init (xi_179_0 ++ (xi_179_1 ++ (xi_179_2))) = true := dn_all _ _ (by decide +kernel)
set_option maxRecDepth 100000 in
theorem tn_w180 : xi_ok cX9_leastRooted (xi_180_0 ++ (xi_180_1 ++ (xi_180_2 ++ (xi_180_3)))) = true := dn_all _ _ (by decide +kernel)
set_option maxRecDepth 100000 in
theorem tn_w181 : xi_ok cX9_copyArcs (xi_181_0 ++ (xi_181_1 ++ (xi_181_2 ++ (xi_181_3)))) = true := dn_all _ _ (by decide +kernel)
set_option maxRecDepth 100000 in
theorem tn_w182 : xi_ok cX9_takeCheapest (xi_182_0 ++ (xi_182_1 ++ (xi_182_2 ++ (xi_182_3 ++ (xi_182_4))))) = true := dn_all _ _ (by decide +kernel)
set_option maxRecDepth 100000 in
theorem tn_w183 : xi_ok cX9_nameRings (xi_183_0 ++ (xi_183_1 ++ (xi_183_2 ++ (xi_183_3 ++ (xi_183_4 ++ (xi_183_5)))))) = true := dn_all _ _ (by decide +kernel)
set_option maxRecDepth 100000 in
theorem tn_w184 : xi_ok cX9_nameOthers (xi_184_0 ++ (xi_184_1)) = true := dn_all _ _ (by decide +kernel)
set_option maxRecDepth 100000 in
theorem tn_w185 : xi_ok cX9_shrinkRings (xi_185_0 ++ (xi_185_1 ++ (xi_185_2 ++ (xi_185_3)))) = true := dn_all _ _ (by decide +kernel)
set_option maxRecDepth 100000 in
theorem tn_w186 : xi_ok cX9_isSpanning (xi_186_0 ++ (xi_186_1 ++ (xi_186_2 ++ (xi_186_3 ++ (xi_186_4 ++ (xi_186_5)))))) = true := dn_all _ _ (by decide +kernel)
set_option maxRecDepth 100000 in
theorem tn_w187 : xi_ok cX9_isBefore (xi_187_0 ++ (xi_187_1)) = true := dn_all _ _ (by decide +kernel)
set_option maxRecDepth 100000 in
theorem tn_w188 : xi_ok cX9_countSpanning (xi_188_0 ++ (xi_188_1)) = true := dn_all _ _ (by decide +kernel)
set_option maxRecDepth 100000 in
theorem tn_w189 : xi_ok cX9_countTrees (xi_189_0 ++ (xi_189_1 ++ (xi_189_2 ++ (xi_189_3 ++ (xi_189_4 ++ (xi_189_5 ++ (xi_189_6 ++ (xi_189_7 ++ (xi_189_8))))))))) = true := dn_all _ _ (by decide +kernel)
set_option maxRecDepth 100000 in
theorem tn_w190 : xi_ok cX9_pivot (xi_190_0 ++ (xi_190_1 ++ (xi_190_2 ++ (xi_190_3 ++ (xi_190_4 ++ (xi_190_5 ++ (xi_190_6 ++ (xi_190_7)))))))) = true := dn_all _ _ (by decide +kernel)
set_option maxRecDepth 100000 in
theorem tn_w191 : xi_ok cX9_swapRows (xi_191_0 ++ (xi_191_1 ++ (xi_191_2))) = true := dn_all _ _ (by decide +kernel)
set_option maxRecDepth 100000 in
theorem tn_w192 : xi_ok cX9_power (xi_192_0 ++ (xi_192_1 ++ (xi_192_2))) = true := dn_all _ _ (by decide +kernel)
set_option maxRecDepth 100000 in
theorem tn_w193 : xi_ok cX10_init (xi_193_0 ++ (xi_193_1 ++ (xi_193_2))) = true := dn_all _ _ (by decide +kernel)
set_option maxRecDepth 100000 in
theorem tn_w194 : xi_ok cX10_leastWeight (xi_194_0 ++ (xi_194_1)) = true := dn_all _ _ (by decide +kernel)
set_option maxRecDepth 100000 in
theorem tn_w195 : xi_ok cX10_leastArc (xi_195_0 ++ (xi_195_1 ++ (xi_195_2 ++ (xi_195_3)))) = true := dn_all _ _ (by decide +kernel)
set_option maxRecDepth 100000 in
theorem tn_w196 : xi_ok cX10_stepFrom (xi_196_0 ++ (xi_196_1 ++ (xi_196_2 ++ (xi_196_3)))) = true := dn_all _ _ (by decide +kernel)
set_option maxRecDepth 100000 in
theorem tn_w197 : xi_ok cX10_costOf (xi_197_0) = true := dn_all _ _ (by decide +kernel)
set_option maxRecDepth 100000 in
theorem tn_w198 : xi_ok cX10_measure (xi_198_0 ++ (xi_198_1 ++ (xi_198_2 ++ (xi_198_3)))) = true := dn_all _ _ (by decide +kernel)
set_option maxRecDepth 100000 in
theorem tn_w199 : xi_ok cX10_relax (xi_199_0 ++ (xi_199_1 ++ (xi_199_2 ++ (xi_199_3 ++ (xi_199_4))))) = true := dn_all _ _ (by decide +kernel)
set_option maxRecDepth 100000 in
theorem tn_w200 : xi_ok cX10_widest (xi_200_0 ++ (xi_200_1 ++ (xi_200_2 ++ (xi_200_3 ++ (xi_200_4 ++ (xi_200_5 ++ (xi_200_6))))))) = true := dn_all _ _ (by decide +kernel)
set_option maxRecDepth 100000 in
theorem tn_w201 : xi_ok cX10_widestOf (xi_201_0 ++ (xi_201_1)) = true := dn_all _ _ (by decide +kernel)
set_option maxRecDepth 100000 in
theorem tn_w202 : xi_ok cX10_fewestArcs (xi_202_0) = true := dn_all _ _ (by decide +kernel)
set_option maxRecDepth 100000 in
theorem tn_w203 : xi_ok cX10_countBy (xi_203_0 ++ (xi_203_1 ++ (xi_203_2 ++ (xi_203_3)))) = true := dn_all _ _ (by decide +kernel)
set_option maxRecDepth 100000 in
theorem tn_w204 : xi_ok cX10_spread (xi_204_0 ++ (xi_204_1 ++ (xi_204_2 ++ (xi_204_3 ++ (xi_204_4 ++ (xi_204_5 ++ (xi_204_6 ++ (xi_204_7)))))))) = true := dn_all _ _ (by decide +kernel)
set_option maxRecDepth 100000 in
theorem tn_w205 : xi_ok cX10_countShort (xi_205_0) = true := dn_all _ _ (by decide +kernel)
set_option maxRecDepth 100000 in
theorem tn_w206 : xi_ok cX10_arcOfShort (xi_206_0 ++ (xi_206_1 ++ (xi_206_2))) = true := dn_all _ _ (by decide +kernel)
set_option maxRecDepth 100000 in
theorem tn_w207 : xi_ok cX10_collect (xi_207_0 ++ (xi_207_1 ++ (xi_207_2))) = true := dn_all _ _ (by decide +kernel)
set_option maxRecDepth 100000 in
theorem tn_w208 : xi_ok cX10_gather (xi_208_0 ++ (xi_208_1 ++ (xi_208_2 ++ (xi_208_3 ++ (xi_208_4 ++ (xi_208_5 ++ (xi_208_6))))))) = true := dn_all _ _ (by decide +kernel)
set_option maxRecDepth 100000 in
theorem tn_w209 : xi_ok cX10_leads (xi_209_0 ++ (xi_209_1 ++ (xi_209_2 ++ (xi_209_3 ++ (xi_209_4))))) = true := dn_all _ _ (by decide +kernel)
set_option maxRecDepth 100000 in
theorem tn_w210 : xi_ok cX10_sortKeys (xi_210_0 ++ (xi_210_1 ++ (xi_210_2 ++ (xi_210_3 ++ (xi_210_4))))) = true := dn_all _ _ (by decide +kernel)
set_option maxRecDepth 100000 in
theorem tn_w211 : xi_ok cX11_init (xi_211_0 ++ (xi_211_1 ++ (xi_211_2 ++ (xi_211_3)))) = true := dn_all _ _ (by decide +kernel)
set_option maxRecDepth 100000 in
theorem tn_w212 : xi_ok cX11_node (xi_212_0 ++ (xi_212_1)) = true := dn_all _ _ (by decide +kernel)
set_option maxRecDepth 100000 in
theorem tn_w213 : xi_ok cX11_arc (xi_213_0 ++ (xi_213_1)) = true := dn_all _ _ (by decide +kernel)
set_option maxRecDepth 100000 in
theorem tn_w214 : xi_ok cX11_take (xi_214_0 ++ (xi_214_1)) = true := dn_all _ _ (by decide +kernel)
set_option maxRecDepth 100000 in
theorem tn_w215 : xi_ok cX11_set (xi_215_0 ++ (xi_215_1 ++ (xi_215_2))) = true := dn_all _ _ (by decide +kernel)
set_option maxRecDepth 100000 in
theorem tn_w216 : xi_ok cX11_label (xi_216_0 ++ (xi_216_1 ++ (xi_216_2))) = true := dn_all _ _ (by decide +kernel)
set_option maxRecDepth 100000 in
theorem tn_w217 : xi_ok cX11_view (xi_217_0 ++ (xi_217_1)) = true := dn_all _ _ (by decide +kernel)
set_option maxRecDepth 100000 in
theorem tn_w218 : xi_ok cX11_version (xi_218_0) = true := dn_all _ _ (by decide +kernel)
set_option maxRecDepth 100000 in
theorem tn_w219 : xi_ok cX11_size (xi_219_0 ++ (xi_219_2)) = true := dn_all _ _ (by decide +kernel)
set_option maxRecDepth 100000 in
theorem tn_w220 : xi_ok cX11_told (xi_220_0 ++ (xi_220_1 ++ (xi_220_2))) = true := dn_all _ _ (by decide +kernel)
set_option maxRecDepth 100000 in
theorem tn_w221 : xi_ok cX11_labelOf (xi_221_0) = true := dn_all _ _ (by decide +kernel)
set_option maxRecDepth 100000 in
theorem tn_w222 : xi_ok cX11_arcAt (xi_222_0 ++ (xi_222_1 ++ (xi_222_2 ++ (xi_222_3)))) = true := dn_all _ _ (by decide +kernel)
set_option maxRecDepth 100000 in
theorem tn_w223 : xi_ok cX11_type (xi_223_0 ++ (xi_223_1 ++ (xi_223_2))) = true := dn_all _ _ (by decide +kernel)
set_option maxRecDepth 100000 in
theorem tn_w224 : xi_ok cX11_wipe (xi_224_0) = true := dn_all _ _ (by decide +kernel)
set_option maxRecDepth 100000 in
theorem tn_w225 : xi_ok cX11_load (xi_225_0) = true := dn_all _ _ (by decide +kernel)
set_option maxRecDepth 100000 in
theorem tn_w226 : xi_ok cX11_fault (xi_226_0 ++ (xi_226_1)) = true := dn_all _ _ (by decide +kernel)
set_option maxRecDepth 100000 in
theorem tn_w227 : xi_ok cX11_print (xi_227_0) = true := dn_all _ _ (by decide +kernel)
set_option maxRecDepth 100000 in
theorem tn_w228 : xi_ok cX11_printed (xi_228_0 ++ (xi_228_1)) = true := dn_all _ _ (by decide +kernel)
set_option maxRecDepth 100000 in
theorem tn_w229 : xi_ok cX11_distance (xi_229_0 ++ (xi_229_1)) = true := dn_all _ _ (by decide +kernel)
set_option maxRecDepth 100000 in
theorem tn_w230 : xi_ok cX11_way (xi_230_0 ++ (xi_230_1)) = true := dn_all _ _ (by decide +kernel)
set_option maxRecDepth 100000 in
theorem tn_w231 : xi_ok cX11_width (xi_231_0 ++ (xi_231_1)) = true := dn_all _ _ (by decide +kernel)
set_option maxRecDepth 100000 in
theorem tn_w232 : xi_ok cX11_shorts (xi_232_0) = true := dn_all _ _ (by decide +kernel)
set_option maxRecDepth 100000 in
theorem tn_w233 : xi_ok cX11_shortArc (xi_233_0 ++ (xi_233_1)) = true := dn_all _ _ (by decide +kernel)
set_option maxRecDepth 100000 in
theorem tn_w234 : xi_ok cX11_part (xi_234_0 ++ (xi_234_1)) = true := dn_all _ _ (by decide +kernel)
set_option maxRecDepth 100000 in
theorem tn_w235 : xi_ok cX11_bridge (xi_235_0) = true := dn_all _ _ (by decide +kernel)
set_option maxRecDepth 100000 in
theorem tn_w236 : xi_ok cX11_cut (xi_236_0) = true := dn_all _ _ (by decide +kernel)
set_option maxRecDepth 100000 in
theorem tn_w237 : xi_ok cX11_order (xi_237_0) = true := dn_all _ _ (by decide +kernel)
set_option maxRecDepth 100000 in
theorem tn_w238 : xi_ok cX11_core (xi_238_0) = true := dn_all _ _ (by decide +kernel)
set_option maxRecDepth 100000 in
theorem tn_w239 : xi_ok cX11_clique (xi_239_0 ++ (xi_239_1 ++ (xi_239_2))) = true := dn_all _ _ (by decide +kernel)
set_option maxRecDepth 100000 in
theorem tn_w240 : xi_ok cX11_colour (xi_240_0) = true := dn_all _ _ (by decide +kernel)
set_option maxRecDepth 100000 in
theorem tn_w241 : xi_ok cX11_flow (xi_241_0) = true := dn_all _ _ (by decide +kernel)
set_option maxRecDepth 100000 in
theorem tn_w242 : xi_ok cX11_side (xi_242_0 ++ (xi_242_1 ++ (xi_242_2))) = true := dn_all _ _ (by decide +kernel)
set_option maxRecDepth 100000 in
theorem tn_w243 : xi_ok cX11_cost (xi_243_0 ++ (xi_243_1)) = true := dn_all _ _ (by decide +kernel)
set_option maxRecDepth 100000 in
theorem tn_w244 : xi_ok cX11_pairing (xi_244_0 ++ (xi_244_1)) = true := dn_all _ _ (by decide +kernel)
set_option maxRecDepth 100000 in
theorem tn_w245 : xi_ok cX11_tree (xi_245_0) = true := dn_all _ _ (by decide +kernel)
set_option maxRecDepth 100000 in
theorem tn_w246 : xi_ok cX11_span (xi_246_0) = true := dn_all _ _ (by decide +kernel)
set_option maxRecDepth 100000 in
theorem tn_w247 : xi_ok cX11_trees (xi_247_0) = true := dn_all _ _ (by decide +kernel)
set_option maxRecDepth 100000 in
theorem tn_w248 : xi_ok cX11_rank (xi_248_0 ++ (xi_248_1)) = true := dn_all _ _ (by decide +kernel)
set_option maxRecDepth 100000 in
theorem tn_w249 : xi_ok cX11_shortest (xi_249_0 ++ (xi_249_1 ++ (xi_249_2 ++ (xi_249_3)))) = true := dn_all _ _ (by decide +kernel)
set_option maxRecDepth 100000 in
theorem tn_w250 : xi_ok cX11_group (xi_250_0) = true := dn_all _ _ (by decide +kernel)
set_option maxRecDepth 100000 in
theorem tn_w251 : xi_ok cX11_gain (xi_251_0) = true := dn_all _ _ (by decide +kernel)
set_option maxRecDepth 100000 in
theorem tn_w252 : xi_ok cX11_figures (xi_252_0 ++ (xi_252_1)) = true := dn_all _ _ (by decide +kernel)
set_option maxRecDepth 100000 in
theorem tn_w253 : xi_ok cX11_pattern (xi_253_0) = true := dn_all _ _ (by decide +kernel)
set_option maxRecDepth 100000 in
theorem tn_w254 : xi_ok cX11_fits (xi_254_0 ++ (xi_254_1)) = true := dn_all _ _ (by decide +kernel)
set_option maxRecDepth 100000 in
theorem tn_w255 : xi_ok cX11_program (xi_255_0) = true := dn_all _ _ (by decide +kernel)
set_option maxRecDepth 100000 in
theorem tn_w256 : xi_ok cX11_run (xi_256_0 ++ (xi_256_1 ++ (xi_256_2))) = true := dn_all _ _ (by decide +kernel)
set_option maxRecDepth 100000 in
theorem tn_w257 : xi_ok cX11_state (xi_257_0 ++ (xi_257_1)) = true := dn_all _ _ (by decide +kernel)
set_option maxRecDepth 100000 in
theorem tn_w258 : xi_ok cX11_letters (xi_258_0 ++ (xi_258_1)) = true := dn_all _ _ (by decide +kernel)
set_option maxRecDepth 100000 in
theorem tn_w259 : xi_ok cX11_graph (xi_259_0) = true := dn_all _ _ (by decide +kernel)
set_option maxRecDepth 100000 in
theorem tn_w260 : xi_ok cX11_isLetter (xi_260_0) = true := dn_all _ _ (by decide +kernel)
set_option maxRecDepth 100000 in
theorem tn_w261 : xi_ok cX11_isWeight (xi_261_0) = true := dn_all _ _ (by decide +kernel)
set_option maxRecDepth 100000 in
theorem tn_w262 : xi_ok cX11_isRoom (xi_262_0) = true := dn_all _ _ (by decide +kernel)
set_option maxRecDepth 100000 in
theorem tn_w263 : xi_ok cX11_isGoodValue (xi_263_0 ++ (xi_263_1)) = true := dn_all _ _ (by decide +kernel)
set_option maxRecDepth 100000 in
theorem tn_w264 : xi_ok cX11_lowest (xi_264_0) = true := dn_all _ _ (by decide +kernel)
set_option maxRecDepth 100000 in
theorem tn_w265 : xi_ok cX11_lowestOfLong (xi_265_0) = true := dn_all _ _ (by decide +kernel)
set_option maxRecDepth 100000 in
theorem tn_w266 : xi_ok cX11_flood (xi_266_0 ++ (xi_266_1 ++ (xi_266_2))) = true := dn_all _ _ (by decide +kernel)
set_option maxRecDepth 100000 in
theorem tn_w267 : xi_ok cX12_init (xi_267_0 ++ (xi_267_1 ++ (xi_267_2 ++ (xi_267_3 ++ (xi_267_4 ++ (xi_267_5 ++ (xi_267_6 ++ (xi_267_7 ++ (xi_267_8 ++ (xi_267_9 ++ (xi_267_10 ++ (xi_267_11 ++ (xi_267_12 ++ (xi_267_13 ++ (xi_267_14 ++ (xi_267_15 ++ (xi_267_16 ++ (xi_267_17 ++ (xi_267_18 ++ (xi_267_19 ++ (xi_267_20 ++ (xi_267_21)))))))))))))))))))))) = true := dn_all _ _ (by decide +kernel)
set_option maxRecDepth 100000 in
theorem tn_w268 : xi_ok cX12_thrown (xi_268_0) = true := dn_all _ _ (by decide +kernel)
set_option maxRecDepth 100000 in
theorem tn_w269 : xi_ok cX12_in (xi_269_0) = true := dn_all _ _ (by decide +kernel)
set_option maxRecDepth 100000 in
theorem tn_w270 : xi_ok cX12_fails (xi_270_0 ++ (xi_270_1)) = true := dn_all _ _ (by decide +kernel)
set_option maxRecDepth 100000 in
theorem tn_w271 : xi_ok cX12_wrongArgument (xi_271_0) = true := dn_all _ _ (by decide +kernel)
set_option maxRecDepth 100000 in
theorem tn_w272 : xi_ok cX12_isNode (xi_272_0) = true := dn_all _ _ (by decide +kernel)
set_option maxRecDepth 100000 in
theorem tn_w273 : xi_ok cX12_isArc (xi_273_0 ++ (xi_273_1)) = true := dn_all _ _ (by decide +kernel)
set_option maxRecDepth 100000 in
theorem tn_w274 : xi_ok cX12_make (xi_274_0 ++ (xi_274_1 ++ (xi_274_2 ++ (xi_274_3)))) = true := dn_all _ _ (by decide +kernel)
set_option maxRecDepth 100000 in
theorem tn_w275 : xi_ok cX12_apply (xi_275_0 ++ (xi_275_2 ++ (xi_275_3 ++ (xi_275_4 ++ (xi_275_5 ++ (xi_275_6 ++ (xi_275_7 ++ (xi_275_8 ++ (xi_275_9 ++ (xi_275_10)))))))))) = true := dn_all _ _ (by decide +kernel)
set_option maxRecDepth 100000 in
theorem tn_w276 : xi_ok cX12_look (xi_276_0 ++ (xi_276_1)) = true := dn_all _ _ (by decide +kernel)
set_option maxRecDepth 100000 in
theorem tn_w277 : xi_ok cX12_isNewNode (xi_277_0) = true := dn_all _ _ (by decide +kernel)
set_option maxRecDepth 100000 in
theorem tn_w278 : xi_ok cX12_isNewArc (xi_278_0) = true := dn_all _ _ (by decide +kernel)
set_option maxRecDepth 100000 in
theorem tn_w279 : xi_ok cX12_isWeight (xi_279_0) = true := dn_all _ _ (by decide +kernel)
set_option maxRecDepth 100000 in
theorem tn_w280 : xi_ok cX12_freePlace (xi_280_0 ++ (xi_280_1)) = true := dn_all _ _ (by decide +kernel)
set_option maxRecDepth 100000 in
theorem tn_w281 : xi_ok cX12_node (xi_281_0 ++ (xi_281_1 ++ (xi_281_2))) = true := dn_all _ _ (by decide +kernel)
set_option maxRecDepth 100000 in
theorem tn_w282 : xi_ok cX12_arc (xi_282_0 ++ (xi_282_1 ++ (xi_282_2 ++ (xi_282_3)))) = true := dn_all _ _ (by decide +kernel)
set_option maxRecDepth 100000 in
theorem tn_w283 : xi_ok cX12_take (xi_283_0 ++ (xi_283_1)) = true := dn_all _ _ (by decide +kernel)
set_option maxRecDepth 100000 in
theorem tn_w284 : xi_ok cX12_set (xi_284_0 ++ (xi_284_1 ++ (xi_284_2 ++ (xi_284_3 ++ (xi_284_4))))) = true := dn_all _ _ (by decide +kernel)
