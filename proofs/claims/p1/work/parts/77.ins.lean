/-! every entry of the tables -/
theorem t166_102 : e_ok mD166 102 (1, 1, 5, 0, 104) := okl_aload dX11_init_102
theorem t166_104 : e_ok mD166 104 (11, 3, 197, 1, 109) := And.intro (okm_iface (ci := 3) (x := ⟨"java/util/Iterator", "hasNext", "()Z"⟩) (Da := mD197) rfl dX11_init_104 rfl mwc_197 (wg7 0 rfl rfl) mwn_197 (wg6 106 rfl rfl) mwi_197 (wn6 104 rfl rfl) (wn6 103 rfl rfl) (wn6 109 rfl rfl) (wn6 107 rfl rfl) (wn6 105 rfl rfl) ⟨by decide +kernel, by decide +kernel, by decide +kernel⟩) (fun h => h.elim nofun nofun)
theorem t166_109 : e_ok mD166 109 (5, 0, 165, 0, 112) := okj_eq dX11_init_109 (by decide +kernel)
theorem t166_112 : e_ok mD166 112 (1, 1, 5, 0, 114) := okl_aload dX11_init_112
theorem t166_114 : e_ok mD166 114 (11, 3, 198, 1, 119) := And.intro (okm_iface (ci := 3) (x := ⟨"java/util/Iterator", "next", "()Ljava/lang/Object;"⟩) (Da := mD198) rfl dX11_init_114 rfl mwc_198 (wg7 2 rfl rfl) mwn_198 (wg6 115 rfl rfl) mwi_198 (wn6 114 rfl rfl) (wn6 113 rfl rfl) (wn6 118 rfl rfl) (wn6 116 rfl rfl) (wn6 105 rfl rfl) ⟨by decide +kernel, by decide +kernel, by decide +kernel⟩) (fun h => h.elim nofun nofun)
theorem t166_119 : e_ok mD166 119 (7, 2, 1, 0, 122) := okw_cast dX11_init_119 rfl (wg7 3 rfl rfl)
theorem t166_122 : e_ok mD166 122 (11, 2, 170, 1, 125) := And.intro (okCallX.M (okx_virtual (Da := mD170) dX11_init_122 rfl mwc_170 (wg7 4 rfl rfl) mwn_170 mwv_170 mwi_170 mwd_170)) (fun _ => okx_virtual (Da := mD170) dX11_init_122 rfl mwc_170 (wg7 4 rfl rfl) mwn_170 mwv_170 mwi_170 mwd_170)
theorem t166_125 : e_ok mD166 125 (1, 4, 6, 0, 127) := oks_istore dX11_init_125 (by decide +kernel)
theorem t166_127 : e_ok mD166 127 (1, 1, 0, 0, 128) := okl_aload_n dX11_init_127 rfl
theorem t166_128 : e_ok mD166 128 (7, 0, 16, 0, 131) := And.intro (okw_get dX11_init_128 rfl hin_16 (by decide +kernel) (wg7 11 rfl rfl) rfl) (okx_none (by decide +kernel) _)
theorem t166_131 : e_ok mD166 131 (1, 0, 3, 0, 132) := okl_iload_n dX11_init_131 rfl
theorem t166_132 : e_ok mD166 132 (8, 6, 0, 0, 133) := And.intro (oka_q (Or.inl rfl) dX11_init_132) (oky_none (by decide) _)
theorem t166_133 : e_ok mD166 133 (1, 0, 6, 0, 135) := okl_iload dX11_init_133
theorem t166_135 : e_ok mD166 135 (1, 1, 1, 0, 136) := okl_aload_n dX11_init_135 rfl
theorem t166_136 : e_ok mD166 136 (7, 0, 18, 1, 139) := And.intro (okw_getN dX11_init_136 rfl hin_18 (by decide +kernel) (wn5 170 rfl rfl) rfl) (okx_none (by decide +kernel) _)
theorem t166_139 : e_ok mD166 139 (1, 0, 6, 0, 141) := okl_iload dX11_init_139
theorem t166_141 : e_ok mD166 141 (11, 3, 189, 2, 146) := And.intro (okm_iface (ci := 4) (x := ⟨"java/util/List", "get", "(I)Ljava/lang/Object;"⟩) (Da := mD189) rfl dX11_init_141 rfl mwc_189 (wg6 233 rfl rfl) mwn_189 (wg6 14 rfl rfl) mwi_189 (wn6 13 rfl rfl) (wn6 12 rfl rfl) (wn6 17 rfl rfl) (wn6 15 rfl rfl) (wn5 100 rfl rfl) ⟨by decide +kernel, by decide +kernel, by decide +kernel⟩) (fun h => h.elim nofun nofun)
theorem t166_146 : e_ok mD166 146 (7, 2, 15, 0, 149) := okw_cast dX11_init_146 rfl (wg6 234 rfl rfl)
theorem t166_149 : e_ok mD166 149 (7, 0, 15, 1, 152) := And.intro (okw_getN dX11_init_149 rfl hin_15 (by decide +kernel) (wn5 79 rfl rfl) rfl) (okx_none (by decide +kernel) _)
theorem t166_152 : e_ok mD166 152 (5, 0, 159, 0, 155) := okj_eq dX11_init_152 (by decide +kernel)
theorem t166_155 : e_ok mD166 155 (0, 0, 0, 0, 156) := Or.inl (okc_iconst dX11_init_155 (by decide +kernel))
theorem t166_156 : e_ok mD166 156 (2, 4, 0, 0, 161) := oki_goto dX11_init_156 (by decide +kernel)
theorem t166_159 : e_ok mD166 159 (0, 0, 268435456, 0, 161) := Or.inl (okc_ldc dX11_init_159 (wg7 5 rfl rfl))
theorem t166_161 : e_ok mD166 161 (10, 0, 0, 0, 162) := oka_sti dX11_init_161
theorem t166_162 : e_ok mD166 162 (2, 4, 0, 0, 102) := oki_goto dX11_init_162 (by decide +kernel)
theorem t166_165 : e_ok mD166 165 (2, 0, 3, 1, 168) := oki_iinc dX11_init_165 (by decide +kernel) (by decide +kernel)
theorem t166_168 : e_ok mD166 168 (2, 4, 0, 0, 23) := oki_goto dX11_init_168 (by decide +kernel)
theorem t166_171 : e_ok mD166 171 (1, 1, 0, 0, 172) := okl_aload_n dX11_init_171 rfl
theorem t166_172 : e_ok mD166 172 (11, 2, 168, 1, 175) := And.intro (okCallX.M (okx_virtual (Da := mD168) dX11_init_172 rfl mwc_168 (wg7 6 rfl rfl) mwn_168 mwv_168 mwi_168 mwd_168)) (fun _ => okx_virtual (Da := mD168) dX11_init_172 rfl mwc_168 (wg7 6 rfl rfl) mwn_168 mwv_168 mwi_168 mwd_168)
theorem t166_175 : e_ok mD166 175 (1, 5, 3, 0, 176) := oks_astore_n dX11_init_175 rfl (by decide +kernel)
theorem t166_176 : e_ok mD166 176 (1, 1, 0, 0, 177) := okl_aload_n dX11_init_176 rfl
theorem t166_177 : e_ok mD166 177 (7, 0, 16, 1, 180) := And.intro (okw_get dX11_init_177 rfl hin_16 (by decide +kernel) (wg7 12 rfl rfl) rfl) (okx_none (by decide +kernel) _)
theorem t166_180 : e_ok mD166 180 (0, 0, 61, 0, 182) := Or.inl (okc_bipush dX11_init_180 (by decide +kernel))
theorem t166_182 : e_ok mD166 182 (8, 1, 0, 0, 183) := And.intro (oka_z dX11_init_182) (oky_none (by decide) _)
theorem t166_183 : e_ok mD166 183 (5, 0, 291, 0, 186) := okj_eq dX11_init_183 (by decide +kernel)
theorem t166_186 : e_ok mD166 186 (0, 0, 268435456, 0, 188) := Or.inl (okc_ldc dX11_init_186 (wg7 5 rfl rfl))
theorem t166_188 : e_ok mD166 188 (1, 4, 4, 0, 190) := oks_istore dX11_init_188 (by decide +kernel)
theorem t166_190 : e_ok mD166 190 (0, 0, 61, 0, 192) := Or.inl (okc_bipush dX11_init_190 (by decide +kernel))
theorem t166_192 : e_ok mD166 192 (1, 4, 5, 0, 194) := oks_istore dX11_init_192 (by decide +kernel)
theorem t166_194 : e_ok mD166 194 (1, 0, 5, 0, 196) := okl_iload dX11_init_194
theorem t166_196 : e_ok mD166 196 (0, 0, 60, 0, 198) := Or.inl (okc_bipush dX11_init_196 (by decide +kernel))
theorem t166_198 : e_ok mD166 198 (6, 0, 229, 0, 201) := okk_eq dX11_init_198 (by decide +kernel)
theorem t166_201 : e_ok mD166 201 (1, 0, 4, 0, 203) := okl_iload dX11_init_201
theorem t166_203 : e_ok mD166 203 (1, 1, 0, 0, 204) := okl_aload_n dX11_init_203 rfl
theorem t166_204 : e_ok mD166 204 (7, 0, 16, 0, 207) := And.intro (okw_get dX11_init_204 rfl hin_16 (by decide +kernel) (wg7 11 rfl rfl) rfl) (okx_none (by decide +kernel) _)
theorem t166_207 : e_ok mD166 207 (1, 1, 3, 0, 208) := okl_aload_n dX11_init_207 rfl
theorem t166_208 : e_ok mD166 208 (1, 0, 5, 0, 210) := okl_iload dX11_init_208
theorem t166_210 : e_ok mD166 210 (8, 0, 0, 0, 211) := And.intro (oka_i dX11_init_210) (oky_i dX11_init_210)
theorem t166_211 : e_ok mD166 211 (8, 6, 0, 0, 212) := And.intro (oka_q (Or.inl rfl) dX11_init_211) (oky_none (by decide) _)
theorem t166_212 : e_ok mD166 212 (1, 0, 5, 0, 214) := okl_iload dX11_init_212
theorem t166_214 : e_ok mD166 214 (8, 0, 0, 0, 215) := And.intro (oka_i dX11_init_214) (oky_i dX11_init_214)
theorem t166_215 : e_ok mD166 215 (11, 0, 173, 2, 218) := And.intro (okCallX.M (okx_static (Da := mD173) dX11_init_215 rfl mwc_173 (wg7 10 rfl rfl) mws_173 mwi_173 mwd_173)) (fun _ => okx_static (Da := mD173) dX11_init_215 rfl mwc_173 (wg7 10 rfl rfl) mws_173 mwi_173 mwd_173)
theorem t166_218 : e_ok mD166 218 (1, 4, 4, 0, 220) := oks_istore dX11_init_218 (by decide +kernel)
theorem t166_220 : e_ok mD166 220 (1, 1, 3, 0, 221) := okl_aload_n dX11_init_220 rfl
theorem t166_221 : e_ok mD166 221 (1, 0, 5, 0, 223) := okl_iload dX11_init_221
theorem t166_223 : e_ok mD166 223 (8, 0, 0, 0, 224) := And.intro (oka_i dX11_init_223) (oky_i dX11_init_223)
theorem t166_224 : e_ok mD166 224 (1, 4, 5, 0, 226) := oks_istore dX11_init_224 (by decide +kernel)
theorem t166_226 : e_ok mD166 226 (2, 4, 0, 0, 194) := oki_goto dX11_init_226 (by decide +kernel)
theorem t166_229 : e_ok mD166 229 (0, 0, 61, 0, 231) := Or.inl (okc_bipush dX11_init_229 (by decide +kernel))
theorem t166_231 : e_ok mD166 231 (1, 4, 5, 0, 233) := oks_istore dX11_init_231 (by decide +kernel)
theorem t166_233 : e_ok mD166 233 (1, 0, 5, 0, 235) := okl_iload dX11_init_233
theorem t166_235 : e_ok mD166 235 (0, 0, 60, 0, 237) := Or.inl (okc_bipush dX11_init_235 (by decide +kernel))
theorem t166_237 : e_ok mD166 237 (6, 0, 283, 0, 240) := okk_eq dX11_init_237 (by decide +kernel)
theorem t166_240 : e_ok mD166 240 (1, 1, 0, 0, 241) := okl_aload_n dX11_init_240 rfl
theorem t166_241 : e_ok mD166 241 (7, 0, 16, 0, 244) := And.intro (okw_get dX11_init_241 rfl hin_16 (by decide +kernel) (wg7 11 rfl rfl) rfl) (okx_none (by decide +kernel) _)
theorem t166_244 : e_ok mD166 244 (1, 1, 3, 0, 245) := okl_aload_n dX11_init_244 rfl
theorem t166_245 : e_ok mD166 245 (1, 0, 5, 0, 247) := okl_iload dX11_init_245
theorem t166_247 : e_ok mD166 247 (8, 0, 0, 0, 248) := And.intro (oka_i dX11_init_247) (oky_i dX11_init_247)
theorem t166_248 : e_ok mD166 248 (8, 6, 0, 0, 249) := And.intro (oka_q (Or.inl rfl) dX11_init_248) (oky_none (by decide) _)
theorem t166_249 : e_ok mD166 249 (1, 0, 5, 0, 251) := okl_iload dX11_init_249
theorem t166_252 : e_ok mD166 252 (8, 0, 0, 0, 253) := And.intro (oka_i dX11_init_252) (oky_i dX11_init_252)
theorem t166_253 : e_ok mD166 253 (1, 0, 4, 0, 255) := okl_iload dX11_init_253
theorem t166_255 : e_ok mD166 255 (3, 1, 0, 0, 256) := okb_isub dX11_init_255
theorem t166_256 : e_ok mD166 256 (10, 0, 0, 0, 257) := oka_sti dX11_init_256
theorem t166_257 : e_ok mD166 257 (1, 1, 0, 0, 258) := okl_aload_n dX11_init_257 rfl
theorem t166_258 : e_ok mD166 258 (7, 0, 16, 0, 261) := And.intro (okw_get dX11_init_258 rfl hin_16 (by decide +kernel) (wg7 11 rfl rfl) rfl) (okx_none (by decide +kernel) _)
theorem t166_261 : e_ok mD166 261 (1, 0, 5, 0, 263) := okl_iload dX11_init_261
theorem t166_263 : e_ok mD166 263 (8, 6, 0, 0, 264) := And.intro (oka_q (Or.inl rfl) dX11_init_263) (oky_none (by decide) _)
theorem t166_264 : e_ok mD166 264 (1, 1, 3, 0, 265) := okl_aload_n dX11_init_264 rfl
theorem t166_265 : e_ok mD166 265 (1, 0, 5, 0, 267) := okl_iload dX11_init_265
theorem t166_267 : e_ok mD166 267 (8, 0, 0, 0, 268) := And.intro (oka_i dX11_init_267) (oky_i dX11_init_267)
theorem t166_269 : e_ok mD166 269 (8, 0, 0, 0, 270) := And.intro (oka_i dX11_init_269) (oky_i dX11_init_269)
theorem t166_270 : e_ok mD166 270 (1, 0, 4, 0, 272) := okl_iload dX11_init_270
theorem t166_272 : e_ok mD166 272 (3, 0, 0, 0, 273) := okb_iadd dX11_init_272
theorem t166_273 : e_ok mD166 273 (10, 0, 0, 0, 274) := oka_sti dX11_init_273
theorem t166_274 : e_ok mD166 274 (1, 1, 3, 0, 275) := okl_aload_n dX11_init_274 rfl
theorem t166_275 : e_ok mD166 275 (1, 0, 5, 0, 277) := okl_iload dX11_init_275
theorem t166_277 : e_ok mD166 277 (8, 0, 0, 0, 278) := And.intro (oka_i dX11_init_277) (oky_i dX11_init_277)
theorem t166_278 : e_ok mD166 278 (1, 4, 5, 0, 280) := oks_istore dX11_init_278 (by decide +kernel)
theorem t166_280 : e_ok mD166 280 (2, 4, 0, 0, 233) := oki_goto dX11_init_280 (by decide +kernel)
theorem t166_283 : e_ok mD166 283 (1, 1, 0, 0, 284) := okl_aload_n dX11_init_283 rfl
theorem t166_284 : e_ok mD166 284 (11, 2, 168, 1, 287) := And.intro (okCallX.M (okx_virtual (Da := mD168) dX11_init_284 rfl mwc_168 (wg7 6 rfl rfl) mwn_168 mwv_168 mwi_168 mwd_168)) (fun _ => okx_virtual (Da := mD168) dX11_init_284 rfl mwc_168 (wg7 6 rfl rfl) mwn_168 mwv_168 mwi_168 mwd_168)
theorem t166_287 : e_ok mD166 287 (1, 5, 3, 0, 288) := oks_astore_n dX11_init_287 rfl (by decide +kernel)
theorem t166_288 : e_ok mD166 288 (2, 4, 0, 0, 176) := oki_goto dX11_init_288 (by decide +kernel)
theorem t166_291 : e_ok mD166 291 (12, 0, 0, 0, 0) := okr_void dX11_init_291 rfl
theorem t167_0 : e_ok mD167 0 (1, 1, 0, 0, 1) := okl_aload_n dX11_has_0 rfl
theorem t167_1 : e_ok mD167 1 (7, 0, 16, 1, 4) := And.intro (okw_get dX11_has_1 rfl hin_16 (by decide +kernel) (wg7 12 rfl rfl) rfl) (okx_none (by decide +kernel) _)
theorem t167_4 : e_ok mD167 4 (1, 0, 1, 0, 5) := okl_iload_n dX11_has_4 rfl
theorem t167_5 : e_ok mD167 5 (8, 1, 0, 0, 6) := And.intro (oka_z dX11_has_5) (oky_none (by decide) _)
theorem t167_6 : e_ok mD167 6 (12, 6, 0, 0, 0) := okr_bool dX11_has_6 rfl
theorem t168_0 : e_ok mD168 0 (0, 0, 62, 0, 2) := Or.inl (okc_bipush dX11_way_0 (by decide +kernel))
theorem t168_2 : e_ok mD168 2 (16, 0, 0, 0, 4) := And.intro (oka_new (by decide) rfl (wg1 73 rfl rfl) dX11_way_2) (by decide)
theorem t168_4 : e_ok mD168 4 (1, 5, 1, 0, 5) := oks_astore_n dX11_way_4 rfl (by decide +kernel)
theorem t168_5 : e_ok mD168 5 (1, 1, 0, 0, 6) := okl_aload_n dX11_way_5 rfl
theorem t168_6 : e_ok mD168 6 (0, 0, 62, 0, 8) := Or.inl (okc_bipush dX11_way_6 (by decide +kernel))
theorem t168_8 : e_ok mD168 8 (16, 0, 1, 0, 10) := And.intro (oka_new (by decide) rfl (wg1 72 rfl rfl) dX11_way_8) (by decide)
theorem t168_10 : e_ok mD168 10 (9, 7, 16, 1, 13) := okw_put dX11_way_10 rfl hin_16 tyX11_ok nmX11 (by decide +kernel) (wg7 12 rfl rfl) rfl rfl (tyX11_ok 1 (by decide +kernel)) (fun V h => fitV_arr h)
theorem t168_13 : e_ok mD168 13 (1, 1, 0, 0, 14) := okl_aload_n dX11_way_13 rfl
theorem t168_14 : e_ok mD168 14 (7, 0, 16, 1, 17) := And.intro (okw_get dX11_way_14 rfl hin_16 (by decide +kernel) (wg7 12 rfl rfl) rfl) (okx_none (by decide +kernel) _)
theorem t168_17 : e_ok mD168 17 (0, 0, 60, 0, 19) := Or.inl (okc_bipush dX11_way_17 (by decide +kernel))
theorem t168_19 : e_ok mD168 19 (0, 0, 1, 0, 20) := Or.inl (okc_iconst dX11_way_19 (by decide +kernel))
theorem t168_20 : e_ok mD168 20 (10, 1, 0, 0, 21) := oka_stz dX11_way_20
theorem t168_21 : e_ok mD168 21 (0, 0, 62, 0, 23) := Or.inl (okc_bipush dX11_way_21 (by decide +kernel))
theorem t168_23 : e_ok mD168 23 (16, 0, 0, 0, 25) := And.intro (oka_new (by decide) rfl (wg1 73 rfl rfl) dX11_way_23) (by decide)
theorem t168_25 : e_ok mD168 25 (1, 5, 2, 0, 26) := oks_astore_n dX11_way_25 rfl (by decide +kernel)
theorem t168_26 : e_ok mD168 26 (1, 1, 2, 0, 27) := okl_aload_n dX11_way_26 rfl
theorem t168_27 : e_ok mD168 27 (0, 0, 0, 0, 28) := Or.inl (okc_iconst dX11_way_27 (by decide +kernel))
theorem t168_28 : e_ok mD168 28 (0, 0, 60, 0, 30) := Or.inl (okc_bipush dX11_way_28 (by decide +kernel))
theorem t168_30 : e_ok mD168 30 (10, 0, 0, 0, 31) := oka_sti dX11_way_30
theorem t168_31 : e_ok mD168 31 (0, 0, 1, 0, 32) := Or.inl (okc_iconst dX11_way_31 (by decide +kernel))
theorem t168_32 : e_ok mD168 32 (1, 4, 3, 0, 33) := oks_istore_n dX11_way_32 rfl (by decide +kernel)
theorem t168_33 : e_ok mD168 33 (0, 0, 0, 0, 34) := Or.inl (okc_iconst dX11_way_33 (by decide +kernel))
theorem t168_34 : e_ok mD168 34 (1, 4, 4, 0, 36) := oks_istore dX11_way_34 (by decide +kernel)
theorem t168_36 : e_ok mD168 36 (1, 0, 4, 0, 38) := okl_iload dX11_way_36
theorem t168_38 : e_ok mD168 38 (1, 0, 3, 0, 39) := okl_iload_n dX11_way_38 rfl
theorem t168_39 : e_ok mD168 39 (6, 3, 116, 0, 42) := okk_ge dX11_way_39 (by decide +kernel)
theorem t168_42 : e_ok mD168 42 (0, 0, 0, 0, 43) := Or.inl (okc_iconst dX11_way_42 (by decide +kernel))
theorem t168_43 : e_ok mD168 43 (1, 4, 5, 0, 45) := oks_istore dX11_way_43 (by decide +kernel)
theorem t168_45 : e_ok mD168 45 (1, 0, 5, 0, 47) := okl_iload dX11_way_45
theorem t168_47 : e_ok mD168 47 (0, 0, 62, 0, 49) := Or.inl (okc_bipush dX11_way_47 (by decide +kernel))
theorem t168_49 : e_ok mD168 49 (6, 3, 110, 0, 52) := okk_ge dX11_way_49 (by decide +kernel)
theorem t168_52 : e_ok mD168 52 (1, 1, 0, 0, 53) := okl_aload_n dX11_way_52 rfl
theorem t168_53 : e_ok mD168 53 (7, 0, 16, 1, 56) := And.intro (okw_get dX11_way_53 rfl hin_16 (by decide +kernel) (wg7 12 rfl rfl) rfl) (okx_none (by decide +kernel) _)
theorem t168_56 : e_ok mD168 56 (1, 0, 5, 0, 58) := okl_iload dX11_way_56
theorem t168_58 : e_ok mD168 58 (8, 1, 0, 0, 59) := And.intro (oka_z dX11_way_58) (oky_none (by decide) _)
theorem t168_59 : e_ok mD168 59 (5, 1, 104, 0, 62) := okj_ne dX11_way_59 (by decide +kernel)
theorem t168_62 : e_ok mD168 62 (1, 1, 0, 0, 63) := okl_aload_n dX11_way_62 rfl
theorem t168_63 : e_ok mD168 63 (7, 0, 16, 0, 66) := And.intro (okw_get dX11_way_63 rfl hin_16 (by decide +kernel) (wg7 11 rfl rfl) rfl) (okx_none (by decide +kernel) _)
theorem t168_66 : e_ok mD168 66 (1, 1, 2, 0, 67) := okl_aload_n dX11_way_66 rfl
theorem t168_67 : e_ok mD168 67 (1, 0, 4, 0, 69) := okl_iload dX11_way_67
theorem t168_69 : e_ok mD168 69 (8, 0, 0, 0, 70) := And.intro (oka_i dX11_way_69) (oky_i dX11_way_69)
theorem t168_70 : e_ok mD168 70 (8, 6, 0, 0, 71) := And.intro (oka_q (Or.inl rfl) dX11_way_70) (oky_none (by decide) _)
theorem t168_71 : e_ok mD168 71 (1, 0, 5, 0, 73) := okl_iload dX11_way_71
theorem t168_73 : e_ok mD168 73 (8, 0, 0, 0, 74) := And.intro (oka_i dX11_way_73) (oky_i dX11_way_73)
theorem t168_74 : e_ok mD168 74 (5, 1, 80, 0, 77) := okj_ne dX11_way_74 (by decide +kernel)
theorem t168_77 : e_ok mD168 77 (2, 4, 0, 0, 104) := oki_goto dX11_way_77 (by decide +kernel)
theorem t168_80 : e_ok mD168 80 (1, 1, 0, 0, 81) := okl_aload_n dX11_way_80 rfl
theorem t168_81 : e_ok mD168 81 (7, 0, 16, 1, 84) := And.intro (okw_get dX11_way_81 rfl hin_16 (by decide +kernel) (wg7 12 rfl rfl) rfl) (okx_none (by decide +kernel) _)
theorem t168_84 : e_ok mD168 84 (1, 0, 5, 0, 86) := okl_iload dX11_way_84
theorem t168_86 : e_ok mD168 86 (0, 0, 1, 0, 87) := Or.inl (okc_iconst dX11_way_86 (by decide +kernel))
theorem t168_87 : e_ok mD168 87 (10, 1, 0, 0, 88) := oka_stz dX11_way_87
theorem t168_88 : e_ok mD168 88 (1, 1, 1, 0, 89) := okl_aload_n dX11_way_88 rfl
theorem t168_89 : e_ok mD168 89 (1, 0, 5, 0, 91) := okl_iload dX11_way_89
theorem t168_91 : e_ok mD168 91 (1, 1, 2, 0, 92) := okl_aload_n dX11_way_91 rfl
theorem t168_92 : e_ok mD168 92 (1, 0, 4, 0, 94) := okl_iload dX11_way_92
theorem t168_94 : e_ok mD168 94 (8, 0, 0, 0, 95) := And.intro (oka_i dX11_way_94) (oky_i dX11_way_94)
theorem t168_95 : e_ok mD168 95 (10, 0, 0, 0, 96) := oka_sti dX11_way_95
theorem t168_96 : e_ok mD168 96 (1, 1, 2, 0, 97) := okl_aload_n dX11_way_96 rfl
theorem t168_97 : e_ok mD168 97 (1, 0, 3, 0, 98) := okl_iload_n dX11_way_97 rfl
theorem t168_98 : e_ok mD168 98 (1, 0, 5, 0, 100) := okl_iload dX11_way_98
theorem t168_100 : e_ok mD168 100 (10, 0, 0, 0, 101) := oka_sti dX11_way_100
theorem t168_101 : e_ok mD168 101 (2, 0, 3, 1, 104) := oki_iinc dX11_way_101 (by decide +kernel) (by decide +kernel)
theorem t168_104 : e_ok mD168 104 (2, 0, 5, 1, 107) := oki_iinc dX11_way_104 (by decide +kernel) (by decide +kernel)
theorem t168_107 : e_ok mD168 107 (2, 4, 0, 0, 45) := oki_goto dX11_way_107 (by decide +kernel)
theorem t168_110 : e_ok mD168 110 (2, 0, 4, 1, 113) := oki_iinc dX11_way_110 (by decide +kernel) (by decide +kernel)
theorem t168_113 : e_ok mD168 113 (2, 4, 0, 0, 36) := oki_goto dX11_way_113 (by decide +kernel)
theorem t168_116 : e_ok mD168 116 (1, 1, 1, 0, 117) := okl_aload_n dX11_way_116 rfl
theorem t168_117 : e_ok mD168 117 (12, 4, 0, 0, 0) := okr_ref dX11_way_117 rfl (Or.inr ⟨_, rfl⟩)
theorem t169_0 : e_ok mD169 0 (1, 1, 0, 0, 1) := okl_aload_n dX12_init_0 rfl
theorem t169_1 : e_ok mD169 1 (7, 4, 0, 0, 4) := okw_obj dX12_init_1 (wg6 51 rfl rfl) w_obj1 w_obj2
theorem t169_4 : e_ok mD169 4 (1, 1, 0, 0, 5) := okl_aload_n dX12_init_4 rfl
theorem t169_5 : e_ok mD169 5 (1, 0, 1, 0, 6) := okl_iload_n dX12_init_5 rfl
theorem t169_6 : e_ok mD169 6 (9, 0, 17, 0, 9) := okw_putF dX12_init_6 rfl hin_17 tyX12_ok nmX12 (by decide +kernel) (wg6 52 rfl rfl) rfl rfl rfl rfl (tyX12_ok 0 (by decide +kernel)) (fun V h => fitV_int h)
theorem t169_9 : e_ok mD169 9 (1, 1, 0, 0, 10) := okl_aload_n dX12_init_9 rfl
theorem t169_10 : e_ok mD169 10 (1, 0, 2, 0, 11) := okl_iload_n dX12_init_10 rfl
theorem t169_11 : e_ok mD169 11 (9, 0, 17, 1, 14) := okw_putF dX12_init_11 rfl hin_17 tyX12_ok nmX12 (by decide +kernel) (wg6 54 rfl rfl) rfl rfl rfl rfl (tyX12_ok 1 (by decide +kernel)) (fun V h => fitV_int h)
theorem t169_14 : e_ok mD169 14 (12, 0, 0, 0, 0) := okr_void dX12_init_14 rfl
theorem t170_0 : e_ok mD170 0 (1, 1, 0, 0, 1) := okl_aload_n dJ6_intValue_8abf5_0 rfl
theorem t170_1 : e_ok mD170 1 (7, 0, 1, 0, 4) := And.intro (okw_get dJ6_intValue_8abf5_1 rfl hin_1 (by decide +kernel) (wg6 208 rfl rfl) rfl) (okx_int dJ6_intValue_8abf5_1 (wg6 208 rfl rfl))
theorem t170_4 : e_ok mD170 4 (12, 1, 0, 0, 0) := okr_int dJ6_intValue_8abf5_4 rfl
theorem t171_0 : e_ok mD171 0 (1, 0, 0, 0, 1) := okl_iload_n dJ6_valueOf_2dffe_0 rfl
theorem t171_1 : e_ok mD171 1 (0, 0, 4294967168, 0, 3) := Or.inl (okc_bipush dJ6_valueOf_2dffe_1 (by decide +kernel))
theorem t171_3 : e_ok mD171 3 (6, 2, 23, 0, 6) := okk_lt dJ6_valueOf_2dffe_3 (by decide +kernel)
theorem t171_6 : e_ok mD171 6 (1, 0, 0, 0, 7) := okl_iload_n dJ6_valueOf_2dffe_6 rfl
theorem t171_7 : e_ok mD171 7 (0, 0, 127, 0, 10) := Or.inr (okw_getstaticI (C := "java/lang/Integer$IntegerCache") (n := "high") (ds := "I") dJ6_valueOf_2dffe_7 (by decide +kernel) (wg6 195 rfl rfl))
theorem t171_10 : e_ok mD171 10 (6, 4, 23, 0, 13) := okk_gt dJ6_valueOf_2dffe_10 (by decide +kernel)
theorem t171_13 : e_ok mD171 13 (0, 5, 7, 0, 16) := okw_getstatic (C := "java/lang/Integer$IntegerCache") (n := "cache") (ds := "[Ljava/lang/Integer;") dJ6_valueOf_2dffe_13 (by decide +kernel) (wg6 197 rfl rfl)
theorem t171_16 : e_ok mD171 16 (1, 0, 0, 0, 17) := okl_iload_n dJ6_valueOf_2dffe_16 rfl
theorem t171_17 : e_ok mD171 17 (0, 0, 128, 0, 20) := Or.inl (okc_sipush dJ6_valueOf_2dffe_17 (by decide +kernel))
theorem t171_20 : e_ok mD171 20 (3, 0, 0, 0, 21) := okb_iadd dJ6_valueOf_2dffe_20
theorem t171_21 : e_ok mD171 21 (8, 7, 0, 0, 22) := And.intro (oka_q (Or.inr rfl) dJ6_valueOf_2dffe_21) (oky_q dJ6_valueOf_2dffe_21)
theorem t171_22 : e_ok mD171 22 (12, 4, 0, 0, 0) := okr_ref dJ6_valueOf_2dffe_22 rfl (Or.inl ⟨_, rfl⟩)
theorem t171_23 : e_ok mD171 23 (7, 1, 1, 1, 26) := And.intro (fun X ρ => okw_new dJ6_valueOf_2dffe_23 rfl hin_1 tyJ6_ok (wg6 199 rfl rfl) (wg6 200 rfl rfl) (wg1 37 rfl rfl) rfl) (by decide)
theorem t171_26 : e_ok mD171 26 (2, 1, 0, 0, 27) := oki_dup dJ6_valueOf_2dffe_26
theorem t171_27 : e_ok mD171 27 (1, 0, 0, 0, 28) := okl_iload_n dJ6_valueOf_2dffe_27 rfl
theorem t171_31 : e_ok mD171 31 (12, 4, 0, 0, 0) := okr_ref dJ6_valueOf_2dffe_31 rfl (Or.inl ⟨_, rfl⟩)
theorem t172_0 : e_ok mD172 0 (1, 0, 0, 0, 1) := okl_iload_n dJ9_max_7cf53_0 rfl
theorem t172_1 : e_ok mD172 1 (1, 0, 1, 0, 2) := okl_iload_n dJ9_max_7cf53_1 rfl
theorem t172_2 : e_ok mD172 2 (6, 2, 9, 0, 5) := okk_lt dJ9_max_7cf53_2 (by decide +kernel)
theorem t172_5 : e_ok mD172 5 (1, 0, 0, 0, 6) := okl_iload_n dJ9_max_7cf53_5 rfl
theorem t172_6 : e_ok mD172 6 (2, 4, 0, 0, 10) := oki_goto dJ9_max_7cf53_6 (by decide +kernel)
theorem t172_9 : e_ok mD172 9 (1, 0, 1, 0, 10) := okl_iload_n dJ9_max_7cf53_9 rfl
theorem t172_10 : e_ok mD172 10 (12, 1, 0, 0, 0) := okr_int dJ9_max_7cf53_10 rfl
theorem t173_0 : e_ok mD173 0 (1, 0, 0, 0, 1) := okl_iload_n dJ9_min_7cf53_0 rfl
theorem t173_1 : e_ok mD173 1 (1, 0, 1, 0, 2) := okl_iload_n dJ9_min_7cf53_1 rfl
theorem t173_2 : e_ok mD173 2 (6, 4, 9, 0, 5) := okk_gt dJ9_min_7cf53_2 (by decide +kernel)
theorem t173_5 : e_ok mD173 5 (1, 0, 0, 0, 6) := okl_iload_n dJ9_min_7cf53_5 rfl
theorem t173_6 : e_ok mD173 6 (2, 4, 0, 0, 10) := oki_goto dJ9_min_7cf53_6 (by decide +kernel)
theorem t173_9 : e_ok mD173 9 (1, 0, 1, 0, 10) := okl_iload_n dJ9_min_7cf53_9 rfl
theorem t173_10 : e_ok mD173 10 (12, 1, 0, 0, 0) := okr_int dJ9_min_7cf53_10 rfl
theorem t174_0 : e_ok mD174 0 (0, 0, 1, 0, 3) := Or.inr (okw_getstaticI (C := "java/lang/String") (n := "COMPACT_STRINGS") (ds := "Z") dJ0_coder_7d493_0 (by decide +kernel) (wg7 82 rfl rfl))
theorem t174_3 : e_ok mD174 3 (5, 0, 13, 0, 6) := okj_eq dJ0_coder_7d493_3 (by decide +kernel)
theorem t174_6 : e_ok mD174 6 (1, 1, 0, 0, 7) := okl_aload_n dJ0_coder_7d493_6 rfl
theorem t174_7 : e_ok mD174 7 (7, 0, 0, 1, 10) := And.intro (okw_get dJ0_coder_7d493_7 rfl hin_0 (by decide +kernel) (wg8 82 rfl rfl) rfl) (okx_coder dJ0_coder_7d493_7 (wg8 82 rfl rfl))
theorem t174_10 : e_ok mD174 10 (2, 4, 0, 0, 14) := oki_goto dJ0_coder_7d493_10 (by decide +kernel)
theorem t174_13 : e_ok mD174 13 (0, 0, 1, 0, 14) := Or.inl (okc_iconst dJ0_coder_7d493_13 (by decide +kernel))
theorem t174_14 : e_ok mD174 14 (12, 8, 0, 0, 0) := okr_byte dJ0_coder_7d493_14 rfl
theorem t175_0 : e_ok mD175 0 (1, 1, 0, 0, 1) := okl_aload_n dJ0_indexOf_0f7a4_0 rfl
theorem t175_1 : e_ok mD175 1 (1, 0, 1, 0, 2) := okl_iload_n dJ0_indexOf_0f7a4_1 rfl
theorem t175_2 : e_ok mD175 2 (0, 0, 0, 0, 3) := Or.inl (okc_iconst dJ0_indexOf_0f7a4_2 (by decide +kernel))
theorem t175_3 : e_ok mD175 3 (11, 2, 176, 3, 6) := And.intro (okCallX.M (okx_virtual (Da := mD176) dJ0_indexOf_0f7a4_3 rfl mwc_176 (wg7 74 rfl rfl) mwn_176 mwv_176 mwi_176 mwd_176)) (fun _ => okx_virtual (Da := mD176) dJ0_indexOf_0f7a4_3 rfl mwc_176 (wg7 74 rfl rfl) mwn_176 mwv_176 mwi_176 mwd_176)
theorem t175_6 : e_ok mD175 6 (12, 1, 0, 0, 0) := okr_int dJ0_indexOf_0f7a4_6 rfl
theorem t176_0 : e_ok mD176 0 (1, 1, 0, 0, 1) := okl_aload_n dJ0_indexOf_7cf53_0 rfl
theorem t176_1 : e_ok mD176 1 (11, 2, 177, 1, 4) := And.intro (okCallX.M (okx_virtual (Da := mD177) dJ0_indexOf_7cf53_1 rfl mwc_177 (wg7 78 rfl rfl) mwn_177 mwv_177 mwi_177 mwd_177)) (fun _ => okx_virtual (Da := mD177) dJ0_indexOf_7cf53_1 rfl mwc_177 (wg7 78 rfl rfl) mwn_177 mwv_177 mwi_177 mwd_177)
theorem t176_4 : e_ok mD176 4 (5, 0, 23, 0, 7) := okj_eq dJ0_indexOf_7cf53_4 (by decide +kernel)
theorem t176_7 : e_ok mD176 7 (1, 1, 0, 0, 8) := okl_aload_n dJ0_indexOf_7cf53_7 rfl
theorem t176_8 : e_ok mD176 8 (7, 0, 0, 0, 11) := And.intro (okw_get dJ0_indexOf_7cf53_8 rfl hin_0 (by decide +kernel) (wg8 83 rfl rfl) rfl) (okx_value dJ0_indexOf_7cf53_8 (wg8 83 rfl rfl))
theorem t176_11 : e_ok mD176 11 (1, 0, 1, 0, 12) := okl_iload_n dJ0_indexOf_7cf53_11 rfl
theorem t176_12 : e_ok mD176 12 (1, 0, 2, 0, 13) := okl_iload_n dJ0_indexOf_7cf53_12 rfl
theorem t176_13 : e_ok mD176 13 (1, 1, 0, 0, 14) := okl_aload_n dJ0_indexOf_7cf53_13 rfl
theorem t176_14 : e_ok mD176 14 (11, 2, 178, 1, 17) := And.intro (okCallX.M (okx_virtual (Da := mD178) dJ0_indexOf_7cf53_14 rfl mwc_178 (wg7 84 rfl rfl) mwn_178 mwv_178 mwi_178 mwd_178)) (fun _ => okx_virtual (Da := mD178) dJ0_indexOf_7cf53_14 rfl mwc_178 (wg7 84 rfl rfl) mwn_178 mwv_178 mwi_178 mwd_178)
theorem t176_17 : e_ok mD176 17 (11, 0, 180, 4, 20) := And.intro (okCallX.M (okx_static (Da := mD180) dJ0_indexOf_7cf53_17 rfl mwc_180 (wg7 92 rfl rfl) mws_180 mwi_180 mwd_180)) (fun _ => okx_static (Da := mD180) dJ0_indexOf_7cf53_17 rfl mwc_180 (wg7 92 rfl rfl) mws_180 mwi_180 mwd_180)
theorem t176_20 : e_ok mD176 20 (2, 4, 0, 0, 36) := oki_goto dJ0_indexOf_7cf53_20 (by decide +kernel)
theorem t176_23 : e_ok mD176 23 (1, 1, 0, 0, 24) := okl_aload_n dJ0_indexOf_7cf53_23 rfl
theorem t176_24 : e_ok mD176 24 (7, 0, 0, 0, 27) := And.intro (okw_get dJ0_indexOf_7cf53_24 rfl hin_0 (by decide +kernel) (wg8 83 rfl rfl) rfl) (okx_value dJ0_indexOf_7cf53_24 (wg8 83 rfl rfl))
theorem t176_27 : e_ok mD176 27 (1, 0, 1, 0, 28) := okl_iload_n dJ0_indexOf_7cf53_27 rfl
theorem t176_28 : e_ok mD176 28 (1, 0, 2, 0, 29) := okl_iload_n dJ0_indexOf_7cf53_28 rfl
theorem t176_29 : e_ok mD176 29 (1, 1, 0, 0, 30) := okl_aload_n dJ0_indexOf_7cf53_29 rfl
theorem t176_30 : e_ok mD176 30 (11, 2, 178, 1, 33) := And.intro (okCallX.M (okx_virtual (Da := mD178) dJ0_indexOf_7cf53_30 rfl mwc_178 (wg7 84 rfl rfl) mwn_178 mwv_178 mwi_178 mwd_178)) (fun _ => okx_virtual (Da := mD178) dJ0_indexOf_7cf53_30 rfl mwc_178 (wg7 84 rfl rfl) mwn_178 mwv_178 mwi_178 mwd_178)
theorem t176_36 : e_ok mD176 36 (12, 1, 0, 0, 0) := okr_int dJ0_indexOf_7cf53_36 rfl
theorem t177_0 : e_ok mD177 0 (0, 0, 1, 0, 3) := Or.inr (okw_getstaticI (C := "java/lang/String") (n := "COMPACT_STRINGS") (ds := "Z") dJ0_isLatin1_aae02_0 (by decide +kernel) (wg7 82 rfl rfl))
theorem t177_3 : e_ok mD177 3 (5, 0, 17, 0, 6) := okj_eq dJ0_isLatin1_aae02_3 (by decide +kernel)
theorem t177_6 : e_ok mD177 6 (1, 1, 0, 0, 7) := okl_aload_n dJ0_isLatin1_aae02_6 rfl
theorem t177_7 : e_ok mD177 7 (7, 0, 0, 1, 10) := And.intro (okw_get dJ0_isLatin1_aae02_7 rfl hin_0 (by decide +kernel) (wg8 82 rfl rfl) rfl) (okx_coder dJ0_isLatin1_aae02_7 (wg8 82 rfl rfl))
theorem t177_10 : e_ok mD177 10 (5, 1, 17, 0, 13) := okj_ne dJ0_isLatin1_aae02_10 (by decide +kernel)
theorem t177_13 : e_ok mD177 13 (0, 0, 1, 0, 14) := Or.inl (okc_iconst dJ0_isLatin1_aae02_13 (by decide +kernel))
theorem t177_14 : e_ok mD177 14 (2, 4, 0, 0, 18) := oki_goto dJ0_isLatin1_aae02_14 (by decide +kernel)
theorem t177_17 : e_ok mD177 17 (0, 0, 0, 0, 18) := Or.inl (okc_iconst dJ0_isLatin1_aae02_17 (by decide +kernel))
theorem t177_18 : e_ok mD177 18 (12, 6, 0, 0, 0) := okr_bool dJ0_isLatin1_aae02_18 rfl
theorem t178_0 : e_ok mD178 0 (1, 1, 0, 0, 1) := okl_aload_n dJ0_length_8abf5_0 rfl
theorem t178_1 : e_ok mD178 1 (7, 0, 0, 0, 4) := And.intro (okw_get dJ0_length_8abf5_1 rfl hin_0 (by decide +kernel) (wg8 83 rfl rfl) rfl) (okx_value dJ0_length_8abf5_1 (wg8 83 rfl rfl))
theorem t178_4 : e_ok mD178 4 (7, 3, 0, 0, 5) := And.intro (okal dJ0_length_8abf5_4) (oky_len dJ0_length_8abf5_4)
theorem t178_5 : e_ok mD178 5 (1, 1, 0, 0, 6) := okl_aload_n dJ0_length_8abf5_5 rfl
theorem t178_6 : e_ok mD178 6 (11, 2, 174, 1, 9) := And.intro (okCallX.M (okx_virtual (Da := mD174) dJ0_length_8abf5_6 rfl mwc_174 (wg7 88 rfl rfl) mwn_174 mwv_174 mwi_174 mwd_174)) (fun _ => okx_virtual (Da := mD174) dJ0_length_8abf5_6 rfl mwc_174 (wg7 88 rfl rfl) mwn_174 mwv_174 mwi_174 mwd_174)
theorem t178_9 : e_ok mD178 9 (3, 6, 0, 0, 10) := okb_ishr dJ0_length_8abf5_9
theorem t178_10 : e_ok mD178 10 (12, 1, 0, 0, 0) := okr_int dJ0_length_8abf5_10 rfl
theorem t179_0 : e_ok mD179 0 (1, 0, 0, 0, 1) := okl_iload_n dJ1_canEncode_9a6ad_0 rfl
theorem t179_1 : e_ok mD179 1 (5, 2, 15, 0, 4) := okj_lt dJ1_canEncode_9a6ad_1 (by decide +kernel)
theorem t179_4 : e_ok mD179 4 (1, 0, 0, 0, 5) := okl_iload_n dJ1_canEncode_9a6ad_4 rfl
theorem t179_5 : e_ok mD179 5 (0, 0, 255, 0, 8) := Or.inl (okc_sipush dJ1_canEncode_9a6ad_5 (by decide +kernel))
theorem t179_8 : e_ok mD179 8 (6, 4, 15, 0, 11) := okk_gt dJ1_canEncode_9a6ad_8 (by decide +kernel)
theorem t179_11 : e_ok mD179 11 (0, 0, 1, 0, 12) := Or.inl (okc_iconst dJ1_canEncode_9a6ad_11 (by decide +kernel))
theorem t179_12 : e_ok mD179 12 (2, 4, 0, 0, 16) := oki_goto dJ1_canEncode_9a6ad_12 (by decide +kernel)
theorem t179_15 : e_ok mD179 15 (0, 0, 0, 0, 16) := Or.inl (okc_iconst dJ1_canEncode_9a6ad_15 (by decide +kernel))
theorem t179_16 : e_ok mD179 16 (12, 6, 0, 0, 0) := okr_bool dJ1_canEncode_9a6ad_16 rfl
theorem t180_0 : e_ok mD180 0 (1, 0, 1, 0, 1) := okl_iload_n dJ1_indexOf_4cfef_0 rfl
theorem t180_1 : e_ok mD180 1 (11, 0, 179, 1, 4) := And.intro (okCallX.M (okx_static (Da := mD179) dJ1_indexOf_4cfef_1 rfl mwc_179 (wg7 95 rfl rfl) mws_179 mwi_179 mwd_179)) (fun _ => okx_static (Da := mD179) dJ1_indexOf_4cfef_1 rfl mwc_179 (wg7 95 rfl rfl) mws_179 mwi_179 mwd_179)
theorem t180_4 : e_ok mD180 4 (5, 1, 9, 0, 7) := okj_ne dJ1_indexOf_4cfef_4 (by decide +kernel)
theorem t180_7 : e_ok mD180 7 (0, 0, 4294967295, 0, 8) := Or.inl (okc_iconst dJ1_indexOf_4cfef_7 (by decide +kernel))
theorem t180_8 : e_ok mD180 8 (12, 1, 0, 0, 0) := okr_int dJ1_indexOf_4cfef_8 rfl
theorem t180_9 : e_ok mD180 9 (1, 0, 2, 0, 10) := okl_iload_n dJ1_indexOf_4cfef_9 rfl
theorem t180_10 : e_ok mD180 10 (0, 0, 0, 0, 11) := Or.inl (okc_iconst dJ1_indexOf_4cfef_10 (by decide +kernel))
theorem t180_11 : e_ok mD180 11 (11, 0, 172, 2, 14) := And.intro (okCallX.M (okx_static (Da := mD172) dJ1_indexOf_4cfef_11 rfl mwc_172 (wg7 98 rfl rfl) mws_172 mwi_172 mwd_172)) (fun _ => okx_static (Da := mD172) dJ1_indexOf_4cfef_11 rfl mwc_172 (wg7 98 rfl rfl) mws_172 mwi_172 mwd_172)
theorem t180_14 : e_ok mD180 14 (1, 4, 2, 0, 15) := oks_istore_n dJ1_indexOf_4cfef_14 rfl (by decide +kernel)
theorem t180_15 : e_ok mD180 15 (1, 0, 3, 0, 16) := okl_iload_n dJ1_indexOf_4cfef_15 rfl
theorem t180_16 : e_ok mD180 16 (1, 1, 0, 0, 17) := okl_aload_n dJ1_indexOf_4cfef_16 rfl
theorem t180_17 : e_ok mD180 17 (7, 3, 0, 0, 18) := And.intro (okal dJ1_indexOf_4cfef_17) (oky_len dJ1_indexOf_4cfef_17)
theorem t180_18 : e_ok mD180 18 (11, 0, 173, 2, 21) := And.intro (okCallX.M (okx_static (Da := mD173) dJ1_indexOf_4cfef_18 rfl mwc_173 (wg7 99 rfl rfl) mws_173 mwi_173 mwd_173)) (fun _ => okx_static (Da := mD173) dJ1_indexOf_4cfef_18 rfl mwc_173 (wg7 99 rfl rfl) mws_173 mwi_173 mwd_173)
theorem t180_21 : e_ok mD180 21 (1, 4, 3, 0, 22) := oks_istore_n dJ1_indexOf_4cfef_21 rfl (by decide +kernel)
theorem t180_22 : e_ok mD180 22 (1, 0, 2, 0, 23) := okl_iload_n dJ1_indexOf_4cfef_22 rfl
theorem t180_23 : e_ok mD180 23 (1, 0, 3, 0, 24) := okl_iload_n dJ1_indexOf_4cfef_23 rfl
theorem t180_24 : e_ok mD180 24 (6, 2, 29, 0, 27) := okk_lt dJ1_indexOf_4cfef_24 (by decide +kernel)
theorem t180_27 : e_ok mD180 27 (0, 0, 4294967295, 0, 28) := Or.inl (okc_iconst dJ1_indexOf_4cfef_27 (by decide +kernel))
theorem t180_28 : e_ok mD180 28 (12, 1, 0, 0, 0) := okr_int dJ1_indexOf_4cfef_28 rfl
theorem t180_29 : e_ok mD180 29 (1, 1, 0, 0, 30) := okl_aload_n dJ1_indexOf_4cfef_29 rfl
theorem t180_30 : e_ok mD180 30 (1, 0, 1, 0, 31) := okl_iload_n dJ1_indexOf_4cfef_30 rfl
theorem t180_31 : e_ok mD180 31 (1, 0, 2, 0, 32) := okl_iload_n dJ1_indexOf_4cfef_31 rfl
theorem t180_32 : e_ok mD180 32 (1, 0, 3, 0, 33) := okl_iload_n dJ1_indexOf_4cfef_32 rfl
theorem t180_33 : e_ok mD180 33 (11, 0, 181, 4, 36) := And.intro (okCallX.M (okx_static (Da := mD181) dJ1_indexOf_4cfef_33 rfl mwc_181 (wg7 100 rfl rfl) mws_181 mwi_181 mwd_181)) (fun _ => okx_static (Da := mD181) dJ1_indexOf_4cfef_33 rfl mwc_181 (wg7 100 rfl rfl) mws_181 mwi_181 mwd_181)
theorem t180_36 : e_ok mD180 36 (12, 1, 0, 0, 0) := okr_int dJ1_indexOf_4cfef_36 rfl
theorem t181_0 : e_ok mD181 0 (1, 0, 1, 0, 1) := okl_iload_n dJ1_indexOfChar_4cfef_0 rfl
theorem t181_1 : e_ok mD181 1 (4, 8, 0, 0, 2) := oku_i2b dJ1_indexOfChar_4cfef_1
theorem t181_2 : e_ok mD181 2 (1, 4, 4, 0, 4) := oks_istore dJ1_indexOfChar_4cfef_2 (by decide +kernel)
theorem t181_4 : e_ok mD181 4 (1, 0, 2, 0, 5) := okl_iload_n dJ1_indexOfChar_4cfef_4 rfl
theorem t181_5 : e_ok mD181 5 (1, 4, 5, 0, 7) := oks_istore dJ1_indexOfChar_4cfef_5 (by decide +kernel)
theorem t181_7 : e_ok mD181 7 (1, 0, 5, 0, 9) := okl_iload dJ1_indexOfChar_4cfef_7
theorem t181_9 : e_ok mD181 9 (1, 0, 3, 0, 10) := okl_iload_n dJ1_indexOfChar_4cfef_9 rfl
theorem t181_10 : e_ok mD181 10 (6, 3, 31, 0, 13) := okk_ge dJ1_indexOfChar_4cfef_10 (by decide +kernel)
theorem t181_13 : e_ok mD181 13 (1, 1, 0, 0, 14) := okl_aload_n dJ1_indexOfChar_4cfef_13 rfl
theorem t181_14 : e_ok mD181 14 (1, 0, 5, 0, 16) := okl_iload dJ1_indexOfChar_4cfef_14
theorem t181_16 : e_ok mD181 16 (8, 5, 0, 0, 17) := And.intro (oka_b dJ1_indexOfChar_4cfef_16) (oky_b dJ1_indexOfChar_4cfef_16)
theorem t181_17 : e_ok mD181 17 (1, 0, 4, 0, 19) := okl_iload dJ1_indexOfChar_4cfef_17
theorem t181_19 : e_ok mD181 19 (6, 1, 25, 0, 22) := okk_ne dJ1_indexOfChar_4cfef_19 (by decide +kernel)
theorem t181_22 : e_ok mD181 22 (1, 0, 5, 0, 24) := okl_iload dJ1_indexOfChar_4cfef_22
theorem t181_24 : e_ok mD181 24 (12, 1, 0, 0, 0) := okr_int dJ1_indexOfChar_4cfef_24 rfl
theorem t181_25 : e_ok mD181 25 (2, 0, 5, 1, 28) := oki_iinc dJ1_indexOfChar_4cfef_25 (by decide +kernel) (by decide +kernel)
theorem t181_28 : e_ok mD181 28 (2, 4, 0, 0, 7) := oki_goto dJ1_indexOfChar_4cfef_28 (by decide +kernel)
theorem t181_31 : e_ok mD181 31 (0, 0, 4294967295, 0, 32) := Or.inl (okc_iconst dJ1_indexOfChar_4cfef_31 (by decide +kernel))
theorem t181_32 : e_ok mD181 32 (12, 1, 0, 0, 0) := okr_int dJ1_indexOfChar_4cfef_32 rfl
theorem t182_0 : e_ok mD182 0 (1, 1, 0, 0, 1) := okl_aload_n dJxa1e45_init_da8c8_0 rfl
theorem t182_1 : e_ok mD182 1 (7, 4, 0, 0, 4) := okw_obj dJxa1e45_init_da8c8_1 (wg5 54 rfl rfl) w_obj1 w_obj2
theorem t182_4 : e_ok mD182 4 (12, 0, 0, 0, 0) := okr_void dJxa1e45_init_da8c8_4 rfl
theorem t183_0 : e_ok mD183 0 (1, 1, 0, 0, 1) := okl_aload_n dJxc12de_init_da8c8_0 rfl
theorem t183_1 : e_ok mD183 1 (11, 1, 182, 1, 4) := And.intro (okm_init (Da := mD182) dJxc12de_init_da8c8_1 rfl rfl mwc_182 (wg5 51 rfl rfl) mwn_182 mwi_182 rfl mwd_182) (fun h => h.elim nofun nofun)
theorem t183_4 : e_ok mD183 4 (1, 1, 0, 0, 5) := okl_aload_n dJxc12de_init_da8c8_4 rfl
theorem t183_5 : e_ok mD183 5 (0, 0, 0, 0, 6) := Or.inl (okc_iconst dJxc12de_init_da8c8_5 (by decide +kernel))
theorem t183_6 : e_ok mD183 6 (9, 0, 4, 0, 9) := okw_put dJxc12de_init_da8c8_6 rfl hin_4 tyJx4a65c_ok nmJx4a65c (by decide +kernel) (wg5 61 rfl rfl) rfl rfl (tyJx4a65c_ok 0 (by decide +kernel)) (fun V h => fitV_int h)
theorem t183_9 : e_ok mD183 9 (12, 0, 0, 0, 0) := okr_void dJxc12de_init_da8c8_9 rfl
theorem t184_0 : e_ok mD184 0 (1, 1, 0, 0, 1) := okl_aload_n dJx4a65c_init_da8c8_0 rfl
theorem t184_1 : e_ok mD184 1 (11, 1, 183, 1, 4) := And.intro (okm_init (Da := mD183) dJx4a65c_init_da8c8_1 rfl rfl mwc_183 (wg5 48 rfl rfl) mwn_183 mwi_183 rfl mwd_183) (fun h => h.elim nofun nofun)
theorem t184_4 : e_ok mD184 4 (1, 1, 0, 0, 5) := okl_aload_n dJx4a65c_init_da8c8_4 rfl
theorem t184_5 : e_ok mD184 5 (0, 5, 0, 0, 8) := okw_getstatic (C := "java/util/ArrayList") (n := "DEFAULTCAPACITY_EMPTY_ELEMENTDATA") (ds := "[Ljava/lang/Object;") dJx4a65c_init_da8c8_5 (by decide +kernel) (wg5 55 rfl rfl)
theorem t184_8 : e_ok mD184 8 (9, 7, 4, 1, 11) := okw_put dJx4a65c_init_da8c8_8 rfl hin_4 tyJx4a65c_ok nmJx4a65c (by decide +kernel) (wg5 57 rfl rfl) rfl rfl (tyJx4a65c_ok 1 (by decide +kernel)) (fun V h => fitV_arr h)
theorem t184_11 : e_ok mD184 11 (12, 0, 0, 0, 0) := okr_void dJx4a65c_init_da8c8_11 rfl
theorem t185_0 : e_ok mD185 0 (1, 1, 0, 0, 1) := okl_aload_n dJx4a65c_add_9ea2d_0 rfl
theorem t185_1 : e_ok mD185 1 (2, 1, 0, 0, 2) := oki_dup dJx4a65c_add_9ea2d_1
theorem t185_2 : e_ok mD185 2 (7, 0, 4, 0, 5) := And.intro (okw_getM dJx4a65c_add_9ea2d_2 rfl hin_4 (by decide +kernel) (wg5 64 rfl rfl) (wg5 63 rfl rfl)) (okx_none (by decide +kernel) _)
theorem t185_5 : e_ok mD185 5 (0, 0, 1, 0, 6) := Or.inl (okc_iconst dJx4a65c_add_9ea2d_5 (by decide +kernel))
theorem t185_6 : e_ok mD185 6 (3, 0, 0, 0, 7) := okb_iadd dJx4a65c_add_9ea2d_6
theorem t185_7 : e_ok mD185 7 (9, 0, 4, 0, 10) := okw_putM dJx4a65c_add_9ea2d_7 rfl hin_4 tyJx4a65c_ok nmJx4a65c (by decide +kernel) (wg5 64 rfl rfl) (wg5 63 rfl rfl) rfl (tyJx4a65c_ok 0 (by decide +kernel)) (fun V h => fitV_int h)
theorem t185_10 : e_ok mD185 10 (1, 1, 0, 0, 11) := okl_aload_n dJx4a65c_add_9ea2d_10 rfl
theorem t185_11 : e_ok mD185 11 (1, 1, 1, 0, 12) := okl_aload_n dJx4a65c_add_9ea2d_11 rfl
theorem t185_12 : e_ok mD185 12 (1, 1, 0, 0, 13) := okl_aload_n dJx4a65c_add_9ea2d_12 rfl
theorem t185_13 : e_ok mD185 13 (7, 0, 4, 1, 16) := And.intro (okw_get dJx4a65c_add_9ea2d_13 rfl hin_4 (by decide +kernel) (wg5 57 rfl rfl) rfl) (okx_none (by decide +kernel) _)
theorem t185_16 : e_ok mD185 16 (1, 1, 0, 0, 17) := okl_aload_n dJx4a65c_add_9ea2d_16 rfl
theorem t185_17 : e_ok mD185 17 (7, 0, 4, 2, 20) := And.intro (okw_get dJx4a65c_add_9ea2d_17 rfl hin_4 (by decide +kernel) (wg5 60 rfl rfl) rfl) (okx_none (by decide +kernel) _)
theorem t185_20 : e_ok mD185 20 (11, 2, 186, 4, 23) := And.intro (okCallX.M (okx_virtual (Da := mD186) dJx4a65c_add_9ea2d_20 rfl mwc_186 (wg5 106 rfl rfl) mwn_186 mwv_186 mwi_186 mwd_186)) (fun _ => okx_virtual (Da := mD186) dJx4a65c_add_9ea2d_20 rfl mwc_186 (wg5 106 rfl rfl) mwn_186 mwv_186 mwi_186 mwd_186)
theorem t185_23 : e_ok mD185 23 (0, 0, 1, 0, 24) := Or.inl (okc_iconst dJx4a65c_add_9ea2d_23 (by decide +kernel))
theorem t185_24 : e_ok mD185 24 (12, 6, 0, 0, 0) := okr_bool dJx4a65c_add_9ea2d_24 rfl
theorem t186_0 : e_ok mD186 0 (1, 0, 3, 0, 1) := okl_iload_n dJx4a65c_add_72be8_0 rfl
theorem t186_1 : e_ok mD186 1 (1, 1, 2, 0, 2) := okl_aload_n dJx4a65c_add_72be8_1 rfl
theorem t186_2 : e_ok mD186 2 (7, 3, 0, 0, 3) := And.intro (okal dJx4a65c_add_72be8_2) (oky_len dJx4a65c_add_72be8_2)
theorem t186_3 : e_ok mD186 3 (6, 1, 11, 0, 6) := okk_ne dJx4a65c_add_72be8_3 (by decide +kernel)
theorem t186_6 : e_ok mD186 6 (1, 1, 0, 0, 7) := okl_aload_n dJx4a65c_add_72be8_6 rfl
theorem t186_7 : e_ok mD186 7 (11, 2, 190, 1, 10) := And.intro (okCallX.M (okx_virtual (Da := mD190) dJx4a65c_add_72be8_7 rfl mwc_190 (wg5 110 rfl rfl) mwn_190 mwv_190 mwi_190 mwd_190)) (fun _ => okx_virtual (Da := mD190) dJx4a65c_add_72be8_7 rfl mwc_190 (wg5 110 rfl rfl) mwn_190 mwv_190 mwi_190 mwd_190)
theorem t186_10 : e_ok mD186 10 (1, 5, 2, 0, 11) := oks_astore_n dJx4a65c_add_72be8_10 rfl (by decide +kernel)
theorem t186_11 : e_ok mD186 11 (1, 1, 2, 0, 12) := okl_aload_n dJx4a65c_add_72be8_11 rfl
theorem t186_12 : e_ok mD186 12 (1, 0, 3, 0, 13) := okl_iload_n dJx4a65c_add_72be8_12 rfl
theorem t186_13 : e_ok mD186 13 (1, 1, 1, 0, 14) := okl_aload_n dJx4a65c_add_72be8_13 rfl
theorem t186_14 : e_ok mD186 14 (10, 7, 0, 0, 15) := oka_stq dJx4a65c_add_72be8_14
theorem t186_15 : e_ok mD186 15 (1, 1, 0, 0, 16) := okl_aload_n dJx4a65c_add_72be8_15 rfl
theorem t186_16 : e_ok mD186 16 (1, 0, 3, 0, 17) := okl_iload_n dJx4a65c_add_72be8_16 rfl
theorem t186_17 : e_ok mD186 17 (0, 0, 1, 0, 18) := Or.inl (okc_iconst dJx4a65c_add_72be8_17 (by decide +kernel))
theorem t186_18 : e_ok mD186 18 (3, 0, 0, 0, 19) := okb_iadd dJx4a65c_add_72be8_18
theorem t186_19 : e_ok mD186 19 (9, 0, 4, 2, 22) := okw_put dJx4a65c_add_72be8_19 rfl hin_4 tyJx4a65c_ok nmJx4a65c (by decide +kernel) (wg5 60 rfl rfl) rfl rfl (tyJx4a65c_ok 2 (by decide +kernel)) (fun V h => fitV_int h)
theorem t186_22 : e_ok mD186 22 (12, 0, 0, 0, 0) := okr_void dJx4a65c_add_72be8_22 rfl
theorem t187_0 : e_ok mD187 0 (1, 1, 0, 0, 1) := okl_aload_n dJx4a65c_clear_da8c8_0 rfl
theorem t187_1 : e_ok mD187 1 (2, 1, 0, 0, 2) := oki_dup dJx4a65c_clear_da8c8_1
theorem t187_2 : e_ok mD187 2 (7, 0, 4, 0, 5) := And.intro (okw_getM dJx4a65c_clear_da8c8_2 rfl hin_4 (by decide +kernel) (wg5 64 rfl rfl) (wg5 63 rfl rfl)) (okx_none (by decide +kernel) _)
theorem t187_5 : e_ok mD187 5 (0, 0, 1, 0, 6) := Or.inl (okc_iconst dJx4a65c_clear_da8c8_5 (by decide +kernel))
theorem t187_6 : e_ok mD187 6 (3, 0, 0, 0, 7) := okb_iadd dJx4a65c_clear_da8c8_6
theorem t187_7 : e_ok mD187 7 (9, 0, 4, 0, 10) := okw_putM dJx4a65c_clear_da8c8_7 rfl hin_4 tyJx4a65c_ok nmJx4a65c (by decide +kernel) (wg5 64 rfl rfl) (wg5 63 rfl rfl) rfl (tyJx4a65c_ok 0 (by decide +kernel)) (fun V h => fitV_int h)
theorem t187_10 : e_ok mD187 10 (1, 1, 0, 0, 11) := okl_aload_n dJx4a65c_clear_da8c8_10 rfl
theorem t187_11 : e_ok mD187 11 (7, 0, 4, 1, 14) := And.intro (okw_get dJx4a65c_clear_da8c8_11 rfl hin_4 (by decide +kernel) (wg5 57 rfl rfl) rfl) (okx_none (by decide +kernel) _)
theorem t187_14 : e_ok mD187 14 (1, 5, 1, 0, 15) := oks_astore_n dJx4a65c_clear_da8c8_14 rfl (by decide +kernel)
theorem t187_15 : e_ok mD187 15 (1, 1, 0, 0, 16) := okl_aload_n dJx4a65c_clear_da8c8_15 rfl
theorem t187_16 : e_ok mD187 16 (7, 0, 4, 2, 19) := And.intro (okw_get dJx4a65c_clear_da8c8_16 rfl hin_4 (by decide +kernel) (wg5 60 rfl rfl) rfl) (okx_none (by decide +kernel) _)
theorem t187_19 : e_ok mD187 19 (1, 4, 2, 0, 20) := oks_istore_n dJx4a65c_clear_da8c8_19 rfl (by decide +kernel)
theorem t187_20 : e_ok mD187 20 (1, 1, 0, 0, 21) := okl_aload_n dJx4a65c_clear_da8c8_20 rfl
theorem t187_21 : e_ok mD187 21 (0, 0, 0, 0, 22) := Or.inl (okc_iconst dJx4a65c_clear_da8c8_21 (by decide +kernel))
theorem t187_22 : e_ok mD187 22 (2, 3, 0, 0, 23) := oki_dup_x1 dJx4a65c_clear_da8c8_22
theorem t187_23 : e_ok mD187 23 (9, 0, 4, 2, 26) := okw_put dJx4a65c_clear_da8c8_23 rfl hin_4 tyJx4a65c_ok nmJx4a65c (by decide +kernel) (wg5 60 rfl rfl) rfl rfl (tyJx4a65c_ok 2 (by decide +kernel)) (fun V h => fitV_int h)
theorem t187_26 : e_ok mD187 26 (1, 4, 3, 0, 27) := oks_istore_n dJx4a65c_clear_da8c8_26 rfl (by decide +kernel)
theorem t187_27 : e_ok mD187 27 (1, 0, 3, 0, 28) := okl_iload_n dJx4a65c_clear_da8c8_27 rfl
theorem t187_28 : e_ok mD187 28 (1, 0, 2, 0, 29) := okl_iload_n dJx4a65c_clear_da8c8_28 rfl
theorem t187_29 : e_ok mD187 29 (6, 3, 42, 0, 32) := okk_ge dJx4a65c_clear_da8c8_29 (by decide +kernel)
theorem t187_32 : e_ok mD187 32 (1, 1, 1, 0, 33) := okl_aload_n dJx4a65c_clear_da8c8_32 rfl
theorem t187_33 : e_ok mD187 33 (1, 0, 3, 0, 34) := okl_iload_n dJx4a65c_clear_da8c8_33 rfl
theorem t187_34 : e_ok mD187 34 (0, 4, 0, 0, 35) := okc_null dJx4a65c_clear_da8c8_34
theorem t187_35 : e_ok mD187 35 (10, 7, 0, 0, 36) := oka_stq dJx4a65c_clear_da8c8_35
theorem t187_36 : e_ok mD187 36 (2, 0, 3, 1, 39) := oki_iinc dJx4a65c_clear_da8c8_36 (by decide +kernel) (by decide +kernel)
theorem t187_39 : e_ok mD187 39 (2, 4, 0, 0, 27) := oki_goto dJx4a65c_clear_da8c8_39 (by decide +kernel)
theorem t187_42 : e_ok mD187 42 (12, 0, 0, 0, 0) := okr_void dJx4a65c_clear_da8c8_42 rfl
theorem t188_0 : e_ok mD188 0 (1, 1, 0, 0, 1) := okl_aload_n dJx4a65c_elementData_915e3_0 rfl
theorem t188_1 : e_ok mD188 1 (7, 0, 4, 1, 4) := And.intro (okw_get dJx4a65c_elementData_915e3_1 rfl hin_4 (by decide +kernel) (wg5 57 rfl rfl) rfl) (okx_none (by decide +kernel) _)
theorem t188_4 : e_ok mD188 4 (1, 0, 1, 0, 5) := okl_iload_n dJx4a65c_elementData_915e3_4 rfl
theorem t188_5 : e_ok mD188 5 (8, 7, 0, 0, 6) := And.intro (oka_q (Or.inr rfl) dJx4a65c_elementData_915e3_5) (oky_q dJx4a65c_elementData_915e3_5)
theorem t188_6 : e_ok mD188 6 (12, 4, 0, 0, 0) := okr_ref dJx4a65c_elementData_915e3_6 rfl (Or.inl ⟨_, rfl⟩)
theorem t189_0 : e_ok mD189 0 (1, 0, 1, 0, 1) := okl_iload_n dJx4a65c_get_915e3_0 rfl
theorem t189_1 : e_ok mD189 1 (1, 1, 0, 0, 2) := okl_aload_n dJx4a65c_get_915e3_1 rfl
theorem t189_2 : e_ok mD189 2 (7, 0, 4, 2, 5) := And.intro (okw_get dJx4a65c_get_915e3_2 rfl hin_4 (by decide +kernel) (wg5 60 rfl rfl) rfl) (okx_none (by decide +kernel) _)
theorem t189_5 : e_ok mD189 5 (11, 0, 200, 2, 8) := And.intro (okCallX.M (okx_static (Da := mD200) dJx4a65c_get_915e3_5 rfl mwc_200 (wg6 19 rfl rfl) mws_200 mwi_200 mwd_200)) (fun _ => okx_static (Da := mD200) dJx4a65c_get_915e3_5 rfl mwc_200 (wg6 19 rfl rfl) mws_200 mwi_200 mwd_200)
theorem t189_8 : e_ok mD189 8 (2, 2, 0, 0, 9) := oki_pop dJx4a65c_get_915e3_8
theorem t189_9 : e_ok mD189 9 (1, 1, 0, 0, 10) := okl_aload_n dJx4a65c_get_915e3_9 rfl
theorem t189_10 : e_ok mD189 10 (1, 0, 1, 0, 11) := okl_iload_n dJx4a65c_get_915e3_10 rfl
theorem t189_11 : e_ok mD189 11 (11, 2, 188, 2, 14) := And.intro (okCallX.M (okx_virtual (Da := mD188) dJx4a65c_get_915e3_11 rfl mwc_188 (wg6 25 rfl rfl) mwn_188 mwv_188 mwi_188 mwd_188)) (fun _ => okx_virtual (Da := mD188) dJx4a65c_get_915e3_11 rfl mwc_188 (wg6 25 rfl rfl) mwn_188 mwv_188 mwi_188 mwd_188)
theorem t189_14 : e_ok mD189 14 (12, 4, 0, 0, 0) := okr_ref dJx4a65c_get_915e3_14 rfl (Or.inl ⟨_, rfl⟩)
theorem t190_0 : e_ok mD190 0 (1, 1, 0, 0, 1) := okl_aload_n dJx4a65c_grow_d5877_0 rfl
theorem t190_1 : e_ok mD190 1 (1, 1, 0, 0, 2) := okl_aload_n dJx4a65c_grow_d5877_1 rfl
theorem t190_2 : e_ok mD190 2 (7, 0, 4, 2, 5) := And.intro (okw_get dJx4a65c_grow_d5877_2 rfl hin_4 (by decide +kernel) (wg5 60 rfl rfl) rfl) (okx_none (by decide +kernel) _)
theorem t190_5 : e_ok mD190 5 (0, 0, 1, 0, 6) := Or.inl (okc_iconst dJx4a65c_grow_d5877_5 (by decide +kernel))
theorem t190_6 : e_ok mD190 6 (3, 0, 0, 0, 7) := okb_iadd dJx4a65c_grow_d5877_6
theorem t190_7 : e_ok mD190 7 (11, 2, 191, 2, 10) := And.intro (okCallX.M (okx_virtual (Da := mD191) dJx4a65c_grow_d5877_7 rfl mwc_191 (wg5 114 rfl rfl) mwn_191 mwv_191 mwi_191 mwd_191)) (fun _ => okx_virtual (Da := mD191) dJx4a65c_grow_d5877_7 rfl mwc_191 (wg5 114 rfl rfl) mwn_191 mwv_191 mwi_191 mwd_191)
theorem t190_10 : e_ok mD190 10 (12, 4, 0, 0, 0) := okr_ref dJx4a65c_grow_d5877_10 rfl (Or.inr ⟨_, rfl⟩)
theorem t191_0 : e_ok mD191 0 (1, 1, 0, 0, 1) := okl_aload_n dJx4a65c_grow_92f84_0 rfl
theorem t191_1 : e_ok mD191 1 (7, 0, 4, 1, 4) := And.intro (okw_get dJx4a65c_grow_92f84_1 rfl hin_4 (by decide +kernel) (wg5 57 rfl rfl) rfl) (okx_none (by decide +kernel) _)
theorem t191_4 : e_ok mD191 4 (7, 3, 0, 0, 5) := And.intro (okal dJx4a65c_grow_92f84_4) (oky_len dJx4a65c_grow_92f84_4)
theorem t191_5 : e_ok mD191 5 (1, 4, 2, 0, 6) := oks_istore_n dJx4a65c_grow_92f84_5 rfl (by decide +kernel)
theorem t191_6 : e_ok mD191 6 (1, 0, 2, 0, 7) := okl_iload_n dJx4a65c_grow_92f84_6 rfl
theorem t191_7 : e_ok mD191 7 (5, 4, 20, 0, 10) := okj_gt dJx4a65c_grow_92f84_7 (by decide +kernel)
theorem t191_10 : e_ok mD191 10 (1, 1, 0, 0, 11) := okl_aload_n dJx4a65c_grow_92f84_10 rfl
theorem t191_11 : e_ok mD191 11 (7, 0, 4, 1, 14) := And.intro (okw_get dJx4a65c_grow_92f84_11 rfl hin_4 (by decide +kernel) (wg5 57 rfl rfl) rfl) (okx_none (by decide +kernel) _)
theorem t191_14 : e_ok mD191 14 (0, 5, 0, 0, 17) := okw_getstatic (C := "java/util/ArrayList") (n := "DEFAULTCAPACITY_EMPTY_ELEMENTDATA") (ds := "[Ljava/lang/Object;") dJx4a65c_grow_92f84_14 (by decide +kernel) (wg5 55 rfl rfl)
theorem t191_17 : e_ok mD191 17 (7, 5, 45, 0, 20) := okw_acmp_eq dJx4a65c_grow_92f84_17 (by decide +kernel)
theorem t191_20 : e_ok mD191 20 (1, 0, 2, 0, 21) := okl_iload_n dJx4a65c_grow_92f84_20 rfl
theorem t191_21 : e_ok mD191 21 (1, 0, 1, 0, 22) := okl_iload_n dJx4a65c_grow_92f84_21 rfl
theorem t191_22 : e_ok mD191 22 (1, 0, 2, 0, 23) := okl_iload_n dJx4a65c_grow_92f84_22 rfl
theorem t191_23 : e_ok mD191 23 (3, 1, 0, 0, 24) := okb_isub dJx4a65c_grow_92f84_23
theorem t191_24 : e_ok mD191 24 (1, 0, 2, 0, 25) := okl_iload_n dJx4a65c_grow_92f84_24 rfl
theorem t191_25 : e_ok mD191 25 (0, 0, 1, 0, 26) := Or.inl (okc_iconst dJx4a65c_grow_92f84_25 (by decide +kernel))
theorem t191_26 : e_ok mD191 26 (3, 6, 0, 0, 27) := okb_ishr dJx4a65c_grow_92f84_26
theorem t191_27 : e_ok mD191 27 (11, 0, 201, 3, 30) := And.intro (okCallX.M (okx_static (Da := mD201) dJx4a65c_grow_92f84_27 rfl mwc_201 (wg5 118 rfl rfl) mws_201 mwi_201 mwd_201)) (fun _ => okx_static (Da := mD201) dJx4a65c_grow_92f84_27 rfl mwc_201 (wg5 118 rfl rfl) mws_201 mwi_201 mwd_201)
theorem t191_30 : e_ok mD191 30 (1, 4, 3, 0, 31) := oks_istore_n dJx4a65c_grow_92f84_30 rfl (by decide +kernel)
theorem t191_31 : e_ok mD191 31 (1, 1, 0, 0, 32) := okl_aload_n dJx4a65c_grow_92f84_31 rfl
theorem t191_32 : e_ok mD191 32 (1, 1, 0, 0, 33) := okl_aload_n dJx4a65c_grow_92f84_32 rfl
theorem t191_33 : e_ok mD191 33 (7, 0, 4, 1, 36) := And.intro (okw_get dJx4a65c_grow_92f84_33 rfl hin_4 (by decide +kernel) (wg5 57 rfl rfl) rfl) (okx_none (by decide +kernel) _)
theorem t191_36 : e_ok mD191 36 (1, 0, 3, 0, 37) := okl_iload_n dJx4a65c_grow_92f84_36 rfl
theorem t191_37 : e_ok mD191 37 (11, 0, 203, 2, 40) := And.intro (okCallX.M (okx_static (Da := mD203) dJx4a65c_grow_92f84_37 rfl mwc_203 (wg5 126 rfl rfl) mws_203 mwi_203 mwd_203)) (fun _ => okx_static (Da := mD203) dJx4a65c_grow_92f84_37 rfl mwc_203 (wg5 126 rfl rfl) mws_203 mwi_203 mwd_203)
theorem t191_40 : e_ok mD191 40 (2, 3, 0, 0, 41) := oki_dup_x1 dJx4a65c_grow_92f84_40
theorem t191_41 : e_ok mD191 41 (9, 7, 4, 1, 44) := okw_put dJx4a65c_grow_92f84_41 rfl hin_4 tyJx4a65c_ok nmJx4a65c (by decide +kernel) (wg5 57 rfl rfl) rfl rfl (tyJx4a65c_ok 1 (by decide +kernel)) (fun V h => fitV_arr h)
theorem t191_44 : e_ok mD191 44 (12, 4, 0, 0, 0) := okr_ref dJx4a65c_grow_92f84_44 rfl (Or.inr ⟨_, rfl⟩)
theorem t191_45 : e_ok mD191 45 (1, 1, 0, 0, 46) := okl_aload_n dJx4a65c_grow_92f84_45 rfl
theorem t191_46 : e_ok mD191 46 (0, 0, 10, 0, 48) := Or.inl (okc_bipush dJx4a65c_grow_92f84_46 (by decide +kernel))
theorem t191_48 : e_ok mD191 48 (1, 0, 1, 0, 49) := okl_iload_n dJx4a65c_grow_92f84_48 rfl
theorem t191_49 : e_ok mD191 49 (11, 0, 172, 2, 52) := And.intro (okCallX.M (okx_static (Da := mD172) dJx4a65c_grow_92f84_49 rfl mwc_172 (wg5 167 rfl rfl) mws_172 mwi_172 mwd_172)) (fun _ => okx_static (Da := mD172) dJx4a65c_grow_92f84_49 rfl mwc_172 (wg5 167 rfl rfl) mws_172 mwi_172 mwd_172)
theorem t191_52 : e_ok mD191 52 (16, 1, 0, 0, 55) := oka_newq (wg5 168 rfl rfl) dJx4a65c_grow_92f84_52
theorem t191_55 : e_ok mD191 55 (2, 3, 0, 0, 56) := oki_dup_x1 dJx4a65c_grow_92f84_55
theorem t191_56 : e_ok mD191 56 (9, 7, 4, 1, 59) := okw_put dJx4a65c_grow_92f84_56 rfl hin_4 tyJx4a65c_ok nmJx4a65c (by decide +kernel) (wg5 57 rfl rfl) rfl rfl (tyJx4a65c_ok 1 (by decide +kernel)) (fun V h => fitV_arr h)
theorem t191_59 : e_ok mD191 59 (12, 4, 0, 0, 0) := okr_ref dJx4a65c_grow_92f84_59 rfl (Or.inr ⟨_, rfl⟩)
theorem t192_0 : e_ok mD192 0 (1, 1, 0, 0, 1) := okl_aload_n dJx4a65c_isEmpty_aae02_0 rfl
theorem t192_1 : e_ok mD192 1 (7, 0, 4, 2, 4) := And.intro (okw_get dJx4a65c_isEmpty_aae02_1 rfl hin_4 (by decide +kernel) (wg5 60 rfl rfl) rfl) (okx_none (by decide +kernel) _)
theorem t192_4 : e_ok mD192 4 (5, 1, 11, 0, 7) := okj_ne dJx4a65c_isEmpty_aae02_4 (by decide +kernel)
theorem t192_7 : e_ok mD192 7 (0, 0, 1, 0, 8) := Or.inl (okc_iconst dJx4a65c_isEmpty_aae02_7 (by decide +kernel))
theorem t192_8 : e_ok mD192 8 (2, 4, 0, 0, 12) := oki_goto dJx4a65c_isEmpty_aae02_8 (by decide +kernel)
theorem t192_11 : e_ok mD192 11 (0, 0, 0, 0, 12) := Or.inl (okc_iconst dJx4a65c_isEmpty_aae02_11 (by decide +kernel))
theorem t192_12 : e_ok mD192 12 (12, 6, 0, 0, 0) := okr_bool dJx4a65c_isEmpty_aae02_12 rfl
theorem t193_0 : e_ok mD193 0 (7, 1, 3, 4, 3) := And.intro (fun X ρ => okw_new dJx4a65c_iterator_32c93_0 rfl hin_3 tyJx35411_ok (wg6 82 rfl rfl) (wg6 83 rfl rfl) (wg1 32 rfl rfl) rfl) (by decide)
theorem t193_3 : e_ok mD193 3 (2, 1, 0, 0, 4) := oki_dup dJx4a65c_iterator_32c93_3
theorem t193_4 : e_ok mD193 4 (1, 1, 0, 0, 5) := okl_aload_n dJx4a65c_iterator_32c93_4 rfl
theorem t193_5 : e_ok mD193 5 (11, 1, 195, 2, 8) := And.intro (okm_init (Da := mD195) dJx4a65c_iterator_32c93_5 rfl rfl mwc_195 (wg6 84 rfl rfl) mwn_195 mwi_195 rfl mwd_195) (fun h => h.elim nofun nofun)
theorem t193_8 : e_ok mD193 8 (12, 4, 0, 0, 0) := okr_ref dJx4a65c_iterator_32c93_8 rfl (Or.inl ⟨_, rfl⟩)
theorem t194_0 : e_ok mD194 0 (1, 1, 0, 0, 1) := okl_aload_n dJx4a65c_size_8abf5_0 rfl
theorem t194_1 : e_ok mD194 1 (7, 0, 4, 2, 4) := And.intro (okw_get dJx4a65c_size_8abf5_1 rfl hin_4 (by decide +kernel) (wg5 60 rfl rfl) rfl) (okx_none (by decide +kernel) _)
theorem t194_4 : e_ok mD194 4 (12, 1, 0, 0, 0) := okr_int dJx4a65c_size_8abf5_4 rfl
theorem t195_0 : e_ok mD195 0 (1, 1, 0, 0, 1) := okl_aload_n dJx35411_init_45d68_0 rfl
theorem t195_1 : e_ok mD195 1 (1, 1, 1, 0, 2) := okl_aload_n dJx35411_init_45d68_1 rfl
theorem t195_2 : e_ok mD195 2 (9, 7, 3, 3, 5) := okw_putF dJx35411_init_45d68_2 rfl hin_3 tyJx35411_ok nmJx35411 (by decide +kernel) (wg6 91 rfl rfl) rfl rfl rfl rfl (tyJx35411_ok 3 (by decide +kernel)) (fun V h => fitV_obj h)
theorem t195_5 : e_ok mD195 5 (1, 1, 0, 0, 6) := okl_aload_n dJx35411_init_45d68_5 rfl
theorem t195_6 : e_ok mD195 6 (7, 4, 0, 0, 9) := okw_obj dJx35411_init_45d68_6 (wg6 87 rfl rfl) w_obj1 w_obj2
theorem t195_9 : e_ok mD195 9 (1, 1, 0, 0, 10) := okl_aload_n dJx35411_init_45d68_9 rfl
theorem t195_10 : e_ok mD195 10 (0, 0, 4294967295, 0, 11) := Or.inl (okc_iconst dJx35411_init_45d68_10 (by decide +kernel))
theorem t195_11 : e_ok mD195 11 (9, 0, 3, 1, 14) := okw_put dJx35411_init_45d68_11 rfl hin_3 tyJx35411_ok nmJx35411 (by decide +kernel) (wg6 89 rfl rfl) rfl rfl (tyJx35411_ok 1 (by decide +kernel)) (fun V h => fitV_int h)
theorem t195_14 : e_ok mD195 14 (1, 1, 0, 0, 15) := okl_aload_n dJx35411_init_45d68_14 rfl
theorem t195_15 : e_ok mD195 15 (1, 1, 0, 0, 16) := okl_aload_n dJx35411_init_45d68_15 rfl
theorem t195_16 : e_ok mD195 16 (7, 0, 3, 3, 19) := And.intro (okw_get dJx35411_init_45d68_16 rfl hin_3 (by decide +kernel) (wg6 91 rfl rfl) rfl) (okx_none (by decide +kernel) _)
theorem t195_19 : e_ok mD195 19 (7, 0, 4, 0, 22) := And.intro (okw_getM dJx35411_init_45d68_19 rfl hin_4 (by decide +kernel) (wg5 62 rfl rfl) (wg5 63 rfl rfl)) (okx_none (by decide +kernel) _)
theorem t195_22 : e_ok mD195 22 (9, 0, 3, 2, 25) := okw_put dJx35411_init_45d68_22 rfl hin_3 tyJx35411_ok nmJx35411 (by decide +kernel) (wg6 90 rfl rfl) rfl rfl (tyJx35411_ok 2 (by decide +kernel)) (fun V h => fitV_int h)
theorem t195_25 : e_ok mD195 25 (12, 0, 0, 0, 0) := okr_void dJx35411_init_45d68_25 rfl
theorem t196_0 : e_ok mD196 0 (1, 1, 0, 0, 1) := okl_aload_n dJx35411_checkForComodification_da8c8_0 rfl
theorem t196_1 : e_ok mD196 1 (7, 0, 3, 3, 4) := And.intro (okw_get dJx35411_checkForComodification_da8c8_1 rfl hin_3 (by decide +kernel) (wg6 91 rfl rfl) rfl) (okx_none (by decide +kernel) _)
theorem t196_4 : e_ok mD196 4 (7, 0, 4, 0, 7) := And.intro (okw_getM dJx35411_checkForComodification_da8c8_4 rfl hin_4 (by decide +kernel) (wg5 62 rfl rfl) (wg5 63 rfl rfl)) (okx_none (by decide +kernel) _)
theorem t196_7 : e_ok mD196 7 (1, 1, 0, 0, 8) := okl_aload_n dJx35411_checkForComodification_da8c8_7 rfl
theorem t196_8 : e_ok mD196 8 (7, 0, 3, 2, 11) := And.intro (okw_get dJx35411_checkForComodification_da8c8_8 rfl hin_3 (by decide +kernel) (wg6 90 rfl rfl) rfl) (okx_none (by decide +kernel) _)
theorem t196_11 : e_ok mD196 11 (6, 0, 22, 0, 14) := okk_eq dJx35411_checkForComodification_da8c8_11 (by decide +kernel)
theorem t196_17 : e_ok mD196 17 (2, 1, 0, 0, 18) := oki_dup dJx35411_checkForComodification_da8c8_17
theorem t196_22 : e_ok mD196 22 (12, 0, 0, 0, 0) := okr_void dJx35411_checkForComodification_da8c8_22 rfl
theorem t197_0 : e_ok mD197 0 (1, 1, 0, 0, 1) := okl_aload_n dJx35411_hasNext_aae02_0 rfl
theorem t197_1 : e_ok mD197 1 (7, 0, 3, 0, 4) := And.intro (okw_get dJx35411_hasNext_aae02_1 rfl hin_3 (by decide +kernel) (wg6 88 rfl rfl) rfl) (okx_none (by decide +kernel) _)
theorem t197_4 : e_ok mD197 4 (1, 1, 0, 0, 5) := okl_aload_n dJx35411_hasNext_aae02_4 rfl
theorem t197_5 : e_ok mD197 5 (7, 0, 3, 3, 8) := And.intro (okw_get dJx35411_hasNext_aae02_5 rfl hin_3 (by decide +kernel) (wg6 91 rfl rfl) rfl) (okx_none (by decide +kernel) _)
theorem t197_8 : e_ok mD197 8 (7, 0, 4, 2, 11) := And.intro (okw_getN dJx35411_hasNext_aae02_8 rfl hin_4 (by decide +kernel) (wn5 59 rfl rfl) rfl) (okx_none (by decide +kernel) _)
theorem t197_11 : e_ok mD197 11 (6, 0, 18, 0, 14) := okk_eq dJx35411_hasNext_aae02_11 (by decide +kernel)
theorem t197_14 : e_ok mD197 14 (0, 0, 1, 0, 15) := Or.inl (okc_iconst dJx35411_hasNext_aae02_14 (by decide +kernel))
theorem t197_15 : e_ok mD197 15 (2, 4, 0, 0, 19) := oki_goto dJx35411_hasNext_aae02_15 (by decide +kernel)
theorem t197_18 : e_ok mD197 18 (0, 0, 0, 0, 19) := Or.inl (okc_iconst dJx35411_hasNext_aae02_18 (by decide +kernel))
theorem t197_19 : e_ok mD197 19 (12, 6, 0, 0, 0) := okr_bool dJx35411_hasNext_aae02_19 rfl
theorem t198_0 : e_ok mD198 0 (1, 1, 0, 0, 1) := okl_aload_n dJx35411_next_0502b_0 rfl
theorem t198_1 : e_ok mD198 1 (11, 2, 196, 1, 4) := And.intro (okCallX.M (okx_virtual (Da := mD196) dJx35411_next_0502b_1 rfl mwc_196 (wg6 120 rfl rfl) mwn_196 mwv_196 mwi_196 mwd_196)) (fun _ => okx_virtual (Da := mD196) dJx35411_next_0502b_1 rfl mwc_196 (wg6 120 rfl rfl) mwn_196 mwv_196 mwi_196 mwd_196)
theorem t198_4 : e_ok mD198 4 (1, 1, 0, 0, 5) := okl_aload_n dJx35411_next_0502b_4 rfl
theorem t198_5 : e_ok mD198 5 (7, 0, 3, 0, 8) := And.intro (okw_get dJx35411_next_0502b_5 rfl hin_3 (by decide +kernel) (wg6 88 rfl rfl) rfl) (okx_none (by decide +kernel) _)
theorem t198_8 : e_ok mD198 8 (1, 4, 1, 0, 9) := oks_istore_n dJx35411_next_0502b_8 rfl (by decide +kernel)
theorem t198_9 : e_ok mD198 9 (1, 0, 1, 0, 10) := okl_iload_n dJx35411_next_0502b_9 rfl
theorem t198_10 : e_ok mD198 10 (1, 1, 0, 0, 11) := okl_aload_n dJx35411_next_0502b_10 rfl
theorem t198_11 : e_ok mD198 11 (7, 0, 3, 3, 14) := And.intro (okw_get dJx35411_next_0502b_11 rfl hin_3 (by decide +kernel) (wg6 91 rfl rfl) rfl) (okx_none (by decide +kernel) _)
theorem t198_14 : e_ok mD198 14 (7, 0, 4, 2, 17) := And.intro (okw_getN dJx35411_next_0502b_14 rfl hin_4 (by decide +kernel) (wn5 59 rfl rfl) rfl) (okx_none (by decide +kernel) _)
theorem t198_17 : e_ok mD198 17 (6, 2, 28, 0, 20) := okk_lt dJx35411_next_0502b_17 (by decide +kernel)
theorem t198_23 : e_ok mD198 23 (2, 1, 0, 0, 24) := oki_dup dJx35411_next_0502b_23
theorem t198_28 : e_ok mD198 28 (1, 1, 0, 0, 29) := okl_aload_n dJx35411_next_0502b_28 rfl
theorem t198_29 : e_ok mD198 29 (7, 0, 3, 3, 32) := And.intro (okw_get dJx35411_next_0502b_29 rfl hin_3 (by decide +kernel) (wg6 91 rfl rfl) rfl) (okx_none (by decide +kernel) _)
theorem t198_32 : e_ok mD198 32 (7, 0, 4, 1, 35) := And.intro (okw_get dJx35411_next_0502b_32 rfl hin_4 (by decide +kernel) (wg5 58 rfl rfl) rfl) (okx_none (by decide +kernel) _)
theorem t198_35 : e_ok mD198 35 (1, 5, 2, 0, 36) := oks_astore_n dJx35411_next_0502b_35 rfl (by decide +kernel)
theorem t198_36 : e_ok mD198 36 (1, 0, 1, 0, 37) := okl_iload_n dJx35411_next_0502b_36 rfl
theorem t198_37 : e_ok mD198 37 (1, 1, 2, 0, 38) := okl_aload_n dJx35411_next_0502b_37 rfl
theorem t198_38 : e_ok mD198 38 (7, 3, 0, 0, 39) := And.intro (okal dJx35411_next_0502b_38) (oky_len dJx35411_next_0502b_38)
theorem t198_39 : e_ok mD198 39 (6, 2, 50, 0, 42) := okk_lt dJx35411_next_0502b_39 (by decide +kernel)
theorem t198_45 : e_ok mD198 45 (2, 1, 0, 0, 46) := oki_dup dJx35411_next_0502b_45
theorem t198_50 : e_ok mD198 50 (1, 1, 0, 0, 51) := okl_aload_n dJx35411_next_0502b_50 rfl
theorem t198_51 : e_ok mD198 51 (1, 0, 1, 0, 52) := okl_iload_n dJx35411_next_0502b_51 rfl
theorem t198_52 : e_ok mD198 52 (0, 0, 1, 0, 53) := Or.inl (okc_iconst dJx35411_next_0502b_52 (by decide +kernel))
theorem t198_53 : e_ok mD198 53 (3, 0, 0, 0, 54) := okb_iadd dJx35411_next_0502b_53
theorem t198_54 : e_ok mD198 54 (9, 0, 3, 0, 57) := okw_put dJx35411_next_0502b_54 rfl hin_3 tyJx35411_ok nmJx35411 (by decide +kernel) (wg6 88 rfl rfl) rfl rfl (tyJx35411_ok 0 (by decide +kernel)) (fun V h => fitV_int h)
theorem t198_57 : e_ok mD198 57 (1, 1, 2, 0, 58) := okl_aload_n dJx35411_next_0502b_57 rfl
theorem t198_58 : e_ok mD198 58 (1, 1, 0, 0, 59) := okl_aload_n dJx35411_next_0502b_58 rfl
theorem t198_59 : e_ok mD198 59 (1, 0, 1, 0, 60) := okl_iload_n dJx35411_next_0502b_59 rfl
theorem t198_60 : e_ok mD198 60 (2, 3, 0, 0, 61) := oki_dup_x1 dJx35411_next_0502b_60
theorem t198_61 : e_ok mD198 61 (9, 0, 3, 1, 64) := okw_put dJx35411_next_0502b_61 rfl hin_3 tyJx35411_ok nmJx35411 (by decide +kernel) (wg6 89 rfl rfl) rfl rfl (tyJx35411_ok 1 (by decide +kernel)) (fun V h => fitV_int h)
theorem t198_64 : e_ok mD198 64 (8, 7, 0, 0, 65) := And.intro (oka_q (Or.inr rfl) dJx35411_next_0502b_64) (oky_q dJx35411_next_0502b_64)
theorem t198_65 : e_ok mD198 65 (12, 4, 0, 0, 0) := okr_ref dJx35411_next_0502b_65 rfl (Or.inl ⟨_, rfl⟩)
theorem t199_0 : e_ok mD199 0 (0, 0, 0, 0, 1) := Or.inl (okc_iconst dJ7_fill_53178_0 (by decide +kernel))
theorem t199_1 : e_ok mD199 1 (1, 4, 2, 0, 2) := oks_istore_n dJ7_fill_53178_1 rfl (by decide +kernel)
theorem t199_2 : e_ok mD199 2 (1, 1, 0, 0, 3) := okl_aload_n dJ7_fill_53178_2 rfl
theorem t199_3 : e_ok mD199 3 (7, 3, 0, 0, 4) := And.intro (okal dJ7_fill_53178_3) (oky_len dJ7_fill_53178_3)
theorem t199_4 : e_ok mD199 4 (1, 4, 3, 0, 5) := oks_istore_n dJ7_fill_53178_4 rfl (by decide +kernel)
theorem t199_5 : e_ok mD199 5 (1, 0, 2, 0, 6) := okl_iload_n dJ7_fill_53178_5 rfl
theorem t199_6 : e_ok mD199 6 (1, 0, 3, 0, 7) := okl_iload_n dJ7_fill_53178_6 rfl
theorem t199_7 : e_ok mD199 7 (6, 3, 20, 0, 10) := okk_ge dJ7_fill_53178_7 (by decide +kernel)
theorem t199_10 : e_ok mD199 10 (1, 1, 0, 0, 11) := okl_aload_n dJ7_fill_53178_10 rfl
theorem t199_11 : e_ok mD199 11 (1, 0, 2, 0, 12) := okl_iload_n dJ7_fill_53178_11 rfl
theorem t199_12 : e_ok mD199 12 (1, 0, 1, 0, 13) := okl_iload_n dJ7_fill_53178_12 rfl
theorem t199_13 : e_ok mD199 13 (10, 0, 0, 0, 14) := oka_sti dJ7_fill_53178_13
theorem t199_14 : e_ok mD199 14 (2, 0, 2, 1, 17) := oki_iinc dJ7_fill_53178_14 (by decide +kernel) (by decide +kernel)
theorem t199_17 : e_ok mD199 17 (2, 4, 0, 0, 5) := oki_goto dJ7_fill_53178_17 (by decide +kernel)
theorem t199_20 : e_ok mD199 20 (12, 0, 0, 0, 0) := okr_void dJ7_fill_53178_20 rfl
theorem t200_0 : e_ok mD200 0 (1, 0, 0, 0, 1) := okl_iload_n dJ15_checkIndex_7cf53_0 rfl
theorem t200_1 : e_ok mD200 1 (1, 0, 1, 0, 2) := okl_iload_n dJ15_checkIndex_7cf53_1 rfl
theorem t200_2 : e_ok mD200 2 (0, 4, 0, 0, 3) := okc_null dJ15_checkIndex_7cf53_2
theorem t200_3 : e_ok mD200 3 (11, 0, 202, 3, 6) := And.intro (okCallX.M (okx_static (Da := mD202) dJ15_checkIndex_7cf53_3 rfl mwc_202 (wg6 22 rfl rfl) mws_202 mwi_202 mwd_202)) (fun _ => okx_static (Da := mD202) dJ15_checkIndex_7cf53_3 rfl mwc_202 (wg6 22 rfl rfl) mws_202 mwi_202 mwd_202)
theorem t200_6 : e_ok mD200 6 (12, 1, 0, 0, 0) := okr_int dJ15_checkIndex_7cf53_6 rfl
theorem t201_0 : e_ok mD201 0 (1, 0, 0, 0, 1) := okl_iload_n dJ8_newLength_cabcc_0 rfl
theorem t201_1 : e_ok mD201 1 (1, 0, 1, 0, 2) := okl_iload_n dJ8_newLength_cabcc_1 rfl
theorem t201_2 : e_ok mD201 2 (1, 0, 2, 0, 3) := okl_iload_n dJ8_newLength_cabcc_2 rfl
theorem t201_3 : e_ok mD201 3 (11, 0, 172, 2, 6) := And.intro (okCallX.M (okx_static (Da := mD172) dJ8_newLength_cabcc_3 rfl mwc_172 (wg5 121 rfl rfl) mws_172 mwi_172 mwd_172)) (fun _ => okx_static (Da := mD172) dJ8_newLength_cabcc_3 rfl mwc_172 (wg5 121 rfl rfl) mws_172 mwi_172 mwd_172)
theorem t201_6 : e_ok mD201 6 (3, 0, 0, 0, 7) := okb_iadd dJ8_newLength_cabcc_6
theorem t201_7 : e_ok mD201 7 (1, 4, 3, 0, 8) := oks_istore_n dJ8_newLength_cabcc_7 rfl (by decide +kernel)
theorem t201_8 : e_ok mD201 8 (0, 0, 0, 0, 9) := Or.inl (okc_iconst dJ8_newLength_cabcc_8 (by decide +kernel))
theorem t201_9 : e_ok mD201 9 (1, 0, 3, 0, 10) := okl_iload_n dJ8_newLength_cabcc_9 rfl
theorem t201_10 : e_ok mD201 10 (6, 3, 21, 0, 13) := okk_ge dJ8_newLength_cabcc_10 (by decide +kernel)
theorem t201_13 : e_ok mD201 13 (1, 0, 3, 0, 14) := okl_iload_n dJ8_newLength_cabcc_13 rfl
theorem t201_14 : e_ok mD201 14 (0, 0, 2147483639, 0, 16) := Or.inl (okc_ldc dJ8_newLength_cabcc_14 (wg5 122 rfl rfl))
theorem t201_16 : e_ok mD201 16 (6, 4, 21, 0, 19) := okk_gt dJ8_newLength_cabcc_16 (by decide +kernel)
theorem t201_19 : e_ok mD201 19 (1, 0, 3, 0, 20) := okl_iload_n dJ8_newLength_cabcc_19 rfl
theorem t201_20 : e_ok mD201 20 (12, 1, 0, 0, 0) := okr_int dJ8_newLength_cabcc_20 rfl
theorem t201_21 : e_ok mD201 21 (1, 0, 0, 0, 22) := okl_iload_n dJ8_newLength_cabcc_21 rfl
theorem t201_22 : e_ok mD201 22 (1, 0, 1, 0, 23) := okl_iload_n dJ8_newLength_cabcc_22 rfl
theorem t201_26 : e_ok mD201 26 (12, 1, 0, 0, 0) := okr_int dJ8_newLength_cabcc_26 rfl
theorem t202_0 : e_ok mD202 0 (1, 0, 0, 0, 1) := okl_iload_n dJ3_checkIndex_8e157_0 rfl
theorem t202_1 : e_ok mD202 1 (5, 2, 9, 0, 4) := okj_lt dJ3_checkIndex_8e157_1 (by decide +kernel)
theorem t202_4 : e_ok mD202 4 (1, 0, 0, 0, 5) := okl_iload_n dJ3_checkIndex_8e157_4 rfl
theorem t202_5 : e_ok mD202 5 (1, 0, 1, 0, 6) := okl_iload_n dJ3_checkIndex_8e157_5 rfl
theorem t202_6 : e_ok mD202 6 (6, 2, 16, 0, 9) := okk_lt dJ3_checkIndex_8e157_6 (by decide +kernel)
theorem t202_9 : e_ok mD202 9 (1, 1, 2, 0, 10) := okl_aload_n dJ3_checkIndex_8e157_9 rfl
theorem t202_10 : e_ok mD202 10 (1, 0, 0, 0, 11) := okl_iload_n dJ3_checkIndex_8e157_10 rfl
theorem t202_11 : e_ok mD202 11 (1, 0, 1, 0, 12) := okl_iload_n dJ3_checkIndex_8e157_11 rfl
theorem t202_16 : e_ok mD202 16 (1, 0, 0, 0, 17) := okl_iload_n dJ3_checkIndex_8e157_16 rfl
theorem t202_17 : e_ok mD202 17 (12, 1, 0, 0, 0) := okr_int dJ3_checkIndex_8e157_17 rfl
theorem t203_0 : e_ok mD203 0 (1, 1, 0, 0, 1) := okl_aload_n dJ7_copyOf_1904c_0 rfl
theorem t203_1 : e_ok mD203 1 (1, 0, 1, 0, 2) := okl_iload_n dJ7_copyOf_1904c_1 rfl
theorem t203_2 : e_ok mD203 2 (1, 1, 0, 0, 3) := okl_aload_n dJ7_copyOf_1904c_2 rfl
theorem t203_3 : e_ok mD203 3 (17, 0, 0, 0, 6) := okw_getC dJ7_copyOf_1904c_3 (wg5 129 rfl rfl) w_gc1 w_gc2 w_gc3
theorem t203_6 : e_ok mD203 6 (11, 0, 204, 3, 9) := And.intro (okCallX.M (okx_static (Da := mD204) dJ7_copyOf_1904c_6 rfl mwc_204 (wg5 157 rfl rfl) mws_204 mwi_204 mwd_204)) (fun _ => okx_static (Da := mD204) dJ7_copyOf_1904c_6 rfl mwc_204 (wg5 157 rfl rfl) mws_204 mwi_204 mwd_204)
theorem t203_9 : e_ok mD203 9 (12, 4, 0, 0, 0) := okr_ref dJ7_copyOf_1904c_9 rfl (Or.inr ⟨_, rfl⟩)
theorem t204_0 : e_ok mD204 0 (1, 1, 2, 0, 1) := okl_aload_n dJ7_copyOf_6403c_0 rfl
theorem t204_1 : e_ok mD204 1 (0, 5, 8, 0, 3) := okw_ldcM dJ7_copyOf_6403c_1 (wg5 160 rfl rfl)
theorem t204_3 : e_ok mD204 3 (7, 6, 13, 0, 6) := okw_acmp_ne dJ7_copyOf_6403c_3 (by decide +kernel)
theorem t204_6 : e_ok mD204 6 (1, 0, 1, 0, 7) := okl_iload_n dJ7_copyOf_6403c_6 rfl
theorem t204_7 : e_ok mD204 7 (16, 1, 0, 0, 10) := oka_newq (wg5 162 rfl rfl) dJ7_copyOf_6403c_7
theorem t204_10 : e_ok mD204 10 (2, 4, 0, 0, 24) := oki_goto dJ7_copyOf_6403c_10 (by decide +kernel)
theorem t204_13 : e_ok mD204 13 (1, 1, 2, 0, 14) := okl_aload_n dJ7_copyOf_6403c_13 rfl
theorem t204_17 : e_ok mD204 17 (1, 0, 1, 0, 18) := okl_iload_n dJ7_copyOf_6403c_17 rfl
theorem t204_24 : e_ok mD204 24 (1, 5, 3, 0, 25) := oks_astore_n dJ7_copyOf_6403c_24 rfl (by decide +kernel)
theorem t204_25 : e_ok mD204 25 (1, 1, 0, 0, 26) := okl_aload_n dJ7_copyOf_6403c_25 rfl
theorem t204_26 : e_ok mD204 26 (0, 0, 0, 0, 27) := Or.inl (okc_iconst dJ7_copyOf_6403c_26 (by decide +kernel))
theorem t204_27 : e_ok mD204 27 (1, 1, 3, 0, 28) := okl_aload_n dJ7_copyOf_6403c_27 rfl
theorem t204_28 : e_ok mD204 28 (0, 0, 0, 0, 29) := Or.inl (okc_iconst dJ7_copyOf_6403c_28 (by decide +kernel))
theorem t204_29 : e_ok mD204 29 (1, 1, 0, 0, 30) := okl_aload_n dJ7_copyOf_6403c_29 rfl
theorem t204_30 : e_ok mD204 30 (7, 3, 0, 0, 31) := And.intro (okal dJ7_copyOf_6403c_30) (oky_len dJ7_copyOf_6403c_30)
theorem t204_31 : e_ok mD204 31 (1, 0, 1, 0, 32) := okl_iload_n dJ7_copyOf_6403c_31 rfl
theorem t204_32 : e_ok mD204 32 (11, 0, 173, 2, 35) := And.intro (okCallX.M (okx_static (Da := mD173) dJ7_copyOf_6403c_32 rfl mwc_173 (wg5 163 rfl rfl) mws_173 mwi_173 mwd_173)) (fun _ => okx_static (Da := mD173) dJ7_copyOf_6403c_32 rfl mwc_173 (wg5 163 rfl rfl) mws_173 mwi_173 mwd_173)
theorem t204_35 : e_ok mD204 35 (17, 1, 0, 0, 38) := okw_copyq dJ7_copyOf_6403c_35 (wg5 164 rfl rfl) w_cp1 w_cp2 w_cp3
theorem t204_38 : e_ok mD204 38 (1, 1, 3, 0, 39) := okl_aload_n dJ7_copyOf_6403c_38 rfl
theorem t204_39 : e_ok mD204 39 (12, 4, 0, 0, 0) := okr_ref dJ7_copyOf_6403c_39 rfl (Or.inr ⟨_, rfl⟩)
theorem t205_0 : e_ok mD205 0 (1, 0, 1, 0, 1) := okl_iload_n dX1_wasAhead_0 rfl
theorem t205_1 : e_ok mD205 1 (11, 4, 11, 1, 4) := And.intro (okm_staticN (Da := mD11) dX1_wasAhead_1 rfl mwc_11 (wn2 126 rfl rfl) mws_11 mwi_11 mwd_11) (fun h => h.elim nofun nofun)
theorem t205_4 : e_ok mD205 4 (5, 0, 14, 0, 7) := okj_eq dX1_wasAhead_4 (by decide +kernel)
theorem t205_7 : e_ok mD205 7 (1, 0, 2, 0, 8) := okl_iload_n dX1_wasAhead_7 rfl
theorem t205_8 : e_ok mD205 8 (11, 4, 11, 1, 11) := And.intro (okm_staticN (Da := mD11) dX1_wasAhead_8 rfl mwc_11 (wn2 126 rfl rfl) mws_11 mwi_11 mwd_11) (fun h => h.elim nofun nofun)
theorem t205_11 : e_ok mD205 11 (5, 1, 16, 0, 14) := okj_ne dX1_wasAhead_11 (by decide +kernel)
theorem t205_14 : e_ok mD205 14 (0, 0, 1, 0, 15) := Or.inl (okc_iconst dX1_wasAhead_14 (by decide +kernel))
theorem t205_15 : e_ok mD205 15 (12, 6, 0, 0, 0) := okr_bool dX1_wasAhead_15 rfl
theorem t205_16 : e_ok mD205 16 (1, 1, 0, 0, 17) := okl_aload_n dX1_wasAhead_16 rfl
theorem t205_17 : e_ok mD205 17 (1, 0, 1, 0, 18) := okl_iload_n dX1_wasAhead_17 rfl
theorem t205_18 : e_ok mD205 18 (11, 2, 53, 2, 21) := And.intro (okCallX.M (okx_virtual (Da := mD53) dX1_wasAhead_18 rfl mwc_53 (wg2 122 rfl rfl) mwn_53 mwv_53 mwi_53 mwd_53)) (fun _ => okx_virtual (Da := mD53) dX1_wasAhead_18 rfl mwc_53 (wg2 122 rfl rfl) mwn_53 mwv_53 mwi_53 mwd_53)
theorem t205_21 : e_ok mD205 21 (5, 0, 58, 0, 24) := okj_eq dX1_wasAhead_21 (by decide +kernel)
theorem t205_24 : e_ok mD205 24 (1, 1, 0, 0, 25) := okl_aload_n dX1_wasAhead_24 rfl
theorem t205_25 : e_ok mD205 25 (7, 0, 6, 1, 28) := And.intro (okw_get dX1_wasAhead_25 rfl hin_6 (by decide +kernel) (wg1 59 rfl rfl) rfl) (okx_none (by decide +kernel) _)
theorem t205_28 : e_ok mD205 28 (1, 0, 1, 0, 29) := okl_iload_n dX1_wasAhead_28 rfl
theorem t205_29 : e_ok mD205 29 (8, 0, 0, 0, 30) := And.intro (oka_i dX1_wasAhead_29) (oky_i dX1_wasAhead_29)
theorem t205_30 : e_ok mD205 30 (1, 1, 0, 0, 31) := okl_aload_n dX1_wasAhead_30 rfl
theorem t205_31 : e_ok mD205 31 (7, 0, 6, 1, 34) := And.intro (okw_get dX1_wasAhead_31 rfl hin_6 (by decide +kernel) (wg1 59 rfl rfl) rfl) (okx_none (by decide +kernel) _)
theorem t205_34 : e_ok mD205 34 (1, 0, 2, 0, 35) := okl_iload_n dX1_wasAhead_34 rfl
