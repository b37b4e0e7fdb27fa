/-! every entry of the tables -/
theorem t223_1142 : e_ok mD223 1142 (1, 1, 2, 0, 1143) := okl_aload_n dL_law_1142 rfl
theorem t223_1143 : e_ok mD223 1143 (1, 1, 0, 0, 1144) := okl_aload_n dL_law_1143 rfl
theorem t223_1144 : e_ok mD223 1144 (1, 0, 5, 0, 1146) := okl_iload dL_law_1144
theorem t223_1146 : e_ok mD223 1146 (0, 0, 1, 0, 1147) := Or.inl (okc_iconst dL_law_1146 (by decide +kernel))
theorem t223_1147 : e_ok mD223 1147 (3, 0, 0, 0, 1148) := okb_iadd dL_law_1147
theorem t223_1148 : e_ok mD223 1148 (14, 1, 0, 0, 1149) := trivial
theorem t223_1149 : e_ok mD223 1149 (11, 2, 125, 2, 1152) := And.intro (okCallX.M (okx_virtual (Da := mD125) dL_law_1149 rfl mwc_125 (wg7 158 rfl rfl) mwn_125 mwv_125 mwi_125 mwd_125)) (fun _ => okx_virtual (Da := mD125) dL_law_1149 rfl mwc_125 (wg7 158 rfl rfl) mwn_125 mwv_125 mwi_125 mwd_125)
theorem t223_1152 : e_ok mD223 1152 (1, 4, 7, 0, 1154) := oks_istore dL_law_1152 (by decide +kernel)
theorem t223_1154 : e_ok mD223 1154 (1, 1, 2, 0, 1155) := okl_aload_n dL_law_1154 rfl
theorem t223_1155 : e_ok mD223 1155 (11, 2, 156, 1, 1158) := And.intro (okCallX.M (okx_virtual (Da := mD156) dL_law_1155 rfl mwc_156 (wg5 33 rfl rfl) mwn_156 mwv_156 mwi_156 mwd_156)) (fun _ => okx_virtual (Da := mD156) dL_law_1155 rfl mwc_156 (wg5 33 rfl rfl) mwn_156 mwv_156 mwi_156 mwd_156)
theorem t223_1158 : e_ok mD223 1158 (1, 0, 6, 0, 1160) := okl_iload dL_law_1158
theorem t223_1160 : e_ok mD223 1160 (6, 0, 1165, 0, 1163) := okk_eq dL_law_1160 (by decide +kernel)
theorem t223_1163 : e_ok mD223 1163 (0, 0, 0, 0, 1164) := Or.inl (okc_iconst dL_law_1163 (by decide +kernel))
theorem t223_1164 : e_ok mD223 1164 (14, 9, 0, 0, 0) := trivial
theorem t223_1165 : e_ok mD223 1165 (1, 0, 6, 0, 1167) := okl_iload dL_law_1165
theorem t223_1167 : e_ok mD223 1167 (5, 1, 1182, 0, 1170) := okj_ne dL_law_1167 (by decide +kernel)
theorem t223_1170 : e_ok mD223 1170 (1, 1, 3, 0, 1171) := okl_aload_n dL_law_1170 rfl
theorem t223_1171 : e_ok mD223 1171 (0, 0, 0, 0, 1172) := Or.inl (okc_iconst dL_law_1171 (by decide +kernel))
theorem t223_1172 : e_ok mD223 1172 (8, 3, 0, 0, 1173) := And.intro (oka_l dL_law_1172) (oky_none (by decide) _)
theorem t223_1173 : e_ok mD223 1173 (1, 0, 7, 0, 1175) := okl_iload dL_law_1173
theorem t223_1175 : e_ok mD223 1175 (15, 5, 0, 0, 1176) := okm_i2l dL_law_1175
theorem t223_1176 : e_ok mD223 1176 (15, 4, 0, 0, 1177) := okm_lcmp dL_law_1176
theorem t223_1177 : e_ok mD223 1177 (5, 0, 1182, 0, 1180) := okj_eq dL_law_1177 (by decide +kernel)
theorem t223_1180 : e_ok mD223 1180 (0, 0, 0, 0, 1181) := Or.inl (okc_iconst dL_law_1180 (by decide +kernel))
theorem t223_1181 : e_ok mD223 1181 (14, 9, 0, 0, 0) := trivial
theorem t223_1182 : e_ok mD223 1182 (2, 4, 0, 0, 1644) := oki_goto dL_law_1182 (by decide +kernel)
theorem t223_1185 : e_ok mD223 1185 (1, 1, 1, 0, 1186) := okl_aload_n dL_law_1185 rfl
theorem t223_1186 : e_ok mD223 1186 (11, 2, 39, 1, 1189) := And.intro (okCallX.M (okx_virtual (Da := mD39) dL_law_1186 rfl mwc_39 (wg2 82 rfl rfl) mwn_39 mwv_39 mwi_39 mwd_39)) (fun _ => okx_virtual (Da := mD39) dL_law_1186 rfl mwc_39 (wg2 82 rfl rfl) mwn_39 mwv_39 mwi_39 mwd_39)
theorem t223_1189 : e_ok mD223 1189 (1, 1, 2, 0, 1190) := okl_aload_n dL_law_1189 rfl
theorem t223_1190 : e_ok mD223 1190 (11, 2, 160, 1, 1193) := And.intro (okCallX.M (okx_virtual (Da := mD160) dL_law_1190 rfl mwc_160 (wg7 220 rfl rfl) mwn_160 mwv_160 mwi_160 mwd_160)) (fun _ => okx_virtual (Da := mD160) dL_law_1190 rfl mwc_160 (wg7 220 rfl rfl) mwn_160 mwv_160 mwi_160 mwd_160)
theorem t223_1193 : e_ok mD223 1193 (6, 0, 1644, 0, 1196) := okk_eq dL_law_1193 (by decide +kernel)
theorem t223_1196 : e_ok mD223 1196 (0, 0, 0, 0, 1197) := Or.inl (okc_iconst dL_law_1196 (by decide +kernel))
theorem t223_1197 : e_ok mD223 1197 (14, 9, 0, 0, 0) := trivial
theorem t223_1198 : e_ok mD223 1198 (1, 1, 1, 0, 1199) := okl_aload_n dL_law_1198 rfl
theorem t223_1199 : e_ok mD223 1199 (1, 1, 0, 0, 1200) := okl_aload_n dL_law_1199 rfl
theorem t223_1200 : e_ok mD223 1200 (1, 0, 5, 0, 1202) := okl_iload dL_law_1200
theorem t223_1202 : e_ok mD223 1202 (0, 0, 1, 0, 1203) := Or.inl (okc_iconst dL_law_1202 (by decide +kernel))
theorem t223_1203 : e_ok mD223 1203 (3, 0, 0, 0, 1204) := okb_iadd dL_law_1203
theorem t223_1204 : e_ok mD223 1204 (14, 1, 0, 0, 1205) := trivial
theorem t223_1205 : e_ok mD223 1205 (1, 1, 3, 0, 1206) := okl_aload_n dL_law_1205 rfl
theorem t223_1206 : e_ok mD223 1206 (11, 4, 112, 3, 1209) := And.intro (okm_wrap (Da := mD112) dL_law_1206 rfl mwc_112 (wg4 184 rfl rfl) mws_112 mwi_112 mwd_112) (fun h => h.elim nofun nofun)
theorem t223_1209 : e_ok mD223 1209 (1, 4, 6, 0, 1211) := oks_istore dL_law_1209 (by decide +kernel)
theorem t223_1211 : e_ok mD223 1211 (1, 1, 2, 0, 1212) := okl_aload_n dL_law_1211 rfl
theorem t223_1212 : e_ok mD223 1212 (1, 1, 0, 0, 1213) := okl_aload_n dL_law_1212 rfl
theorem t223_1213 : e_ok mD223 1213 (1, 0, 5, 0, 1215) := okl_iload dL_law_1213
theorem t223_1215 : e_ok mD223 1215 (0, 0, 1, 0, 1216) := Or.inl (okc_iconst dL_law_1215 (by decide +kernel))
theorem t223_1216 : e_ok mD223 1216 (3, 0, 0, 0, 1217) := okb_iadd dL_law_1216
theorem t223_1217 : e_ok mD223 1217 (14, 1, 0, 0, 1218) := trivial
theorem t223_1218 : e_ok mD223 1218 (11, 2, 161, 2, 1221) := And.intro (okCallX.M (okx_virtual (Da := mD161) dL_law_1218 rfl mwc_161 (wg7 224 rfl rfl) mwn_161 mwv_161 mwi_161 mwd_161)) (fun _ => okx_virtual (Da := mD161) dL_law_1218 rfl mwc_161 (wg7 224 rfl rfl) mwn_161 mwv_161 mwi_161 mwd_161)
theorem t223_1221 : e_ok mD223 1221 (1, 4, 7, 0, 1223) := oks_istore dL_law_1221 (by decide +kernel)
theorem t223_1223 : e_ok mD223 1223 (1, 1, 2, 0, 1224) := okl_aload_n dL_law_1223 rfl
theorem t223_1224 : e_ok mD223 1224 (11, 2, 156, 1, 1227) := And.intro (okCallX.M (okx_virtual (Da := mD156) dL_law_1224 rfl mwc_156 (wg5 33 rfl rfl) mwn_156 mwv_156 mwi_156 mwd_156)) (fun _ => okx_virtual (Da := mD156) dL_law_1224 rfl mwc_156 (wg5 33 rfl rfl) mwn_156 mwv_156 mwi_156 mwd_156)
theorem t223_1227 : e_ok mD223 1227 (1, 0, 6, 0, 1229) := okl_iload dL_law_1227
theorem t223_1229 : e_ok mD223 1229 (6, 0, 1234, 0, 1232) := okk_eq dL_law_1229 (by decide +kernel)
theorem t223_1232 : e_ok mD223 1232 (0, 0, 0, 0, 1233) := Or.inl (okc_iconst dL_law_1232 (by decide +kernel))
theorem t223_1233 : e_ok mD223 1233 (14, 9, 0, 0, 0) := trivial
theorem t223_1234 : e_ok mD223 1234 (1, 0, 6, 0, 1236) := okl_iload dL_law_1234
theorem t223_1236 : e_ok mD223 1236 (5, 1, 1251, 0, 1239) := okj_ne dL_law_1236 (by decide +kernel)
theorem t223_1239 : e_ok mD223 1239 (1, 1, 3, 0, 1240) := okl_aload_n dL_law_1239 rfl
theorem t223_1240 : e_ok mD223 1240 (0, 0, 0, 0, 1241) := Or.inl (okc_iconst dL_law_1240 (by decide +kernel))
theorem t223_1241 : e_ok mD223 1241 (8, 3, 0, 0, 1242) := And.intro (oka_l dL_law_1241) (oky_none (by decide) _)
theorem t223_1242 : e_ok mD223 1242 (1, 0, 7, 0, 1244) := okl_iload dL_law_1242
theorem t223_1244 : e_ok mD223 1244 (15, 5, 0, 0, 1245) := okm_i2l dL_law_1244
theorem t223_1245 : e_ok mD223 1245 (15, 4, 0, 0, 1246) := okm_lcmp dL_law_1245
theorem t223_1246 : e_ok mD223 1246 (5, 0, 1251, 0, 1249) := okj_eq dL_law_1246 (by decide +kernel)
theorem t223_1249 : e_ok mD223 1249 (0, 0, 0, 0, 1250) := Or.inl (okc_iconst dL_law_1249 (by decide +kernel))
theorem t223_1250 : e_ok mD223 1250 (14, 9, 0, 0, 0) := trivial
theorem t223_1251 : e_ok mD223 1251 (2, 4, 0, 0, 1644) := oki_goto dL_law_1251 (by decide +kernel)
theorem t223_1254 : e_ok mD223 1254 (1, 1, 1, 0, 1255) := okl_aload_n dL_law_1254 rfl
theorem t223_1255 : e_ok mD223 1255 (1, 1, 0, 0, 1256) := okl_aload_n dL_law_1255 rfl
theorem t223_1256 : e_ok mD223 1256 (1, 0, 5, 0, 1258) := okl_iload dL_law_1256
theorem t223_1258 : e_ok mD223 1258 (0, 0, 1, 0, 1259) := Or.inl (okc_iconst dL_law_1258 (by decide +kernel))
theorem t223_1259 : e_ok mD223 1259 (3, 0, 0, 0, 1260) := okb_iadd dL_law_1259
theorem t223_1260 : e_ok mD223 1260 (14, 1, 0, 0, 1261) := trivial
theorem t223_1261 : e_ok mD223 1261 (1, 1, 3, 0, 1262) := okl_aload_n dL_law_1261 rfl
theorem t223_1262 : e_ok mD223 1262 (11, 4, 94, 3, 1265) := And.intro (okm_wrap (Da := mD94) dL_law_1262 rfl mwc_94 (wg4 216 rfl rfl) mws_94 mwi_94 mwd_94) (fun h => h.elim nofun nofun)
theorem t223_1265 : e_ok mD223 1265 (1, 4, 6, 0, 1267) := oks_istore dL_law_1265 (by decide +kernel)
theorem t223_1267 : e_ok mD223 1267 (1, 1, 2, 0, 1268) := okl_aload_n dL_law_1267 rfl
theorem t223_1268 : e_ok mD223 1268 (1, 1, 0, 0, 1269) := okl_aload_n dL_law_1268 rfl
theorem t223_1269 : e_ok mD223 1269 (1, 0, 5, 0, 1271) := okl_iload dL_law_1269
theorem t223_1271 : e_ok mD223 1271 (0, 0, 1, 0, 1272) := Or.inl (okc_iconst dL_law_1271 (by decide +kernel))
theorem t223_1272 : e_ok mD223 1272 (3, 0, 0, 0, 1273) := okb_iadd dL_law_1272
theorem t223_1273 : e_ok mD223 1273 (14, 1, 0, 0, 1274) := trivial
theorem t223_1274 : e_ok mD223 1274 (11, 2, 121, 2, 1277) := And.intro (okCallX.M (okx_virtual (Da := mD121) dL_law_1274 rfl mwc_121 (wg7 232 rfl rfl) mwn_121 mwv_121 mwi_121 mwd_121)) (fun _ => okx_virtual (Da := mD121) dL_law_1274 rfl mwc_121 (wg7 232 rfl rfl) mwn_121 mwv_121 mwi_121 mwd_121)
theorem t223_1277 : e_ok mD223 1277 (1, 4, 7, 0, 1279) := oks_istore dL_law_1277 (by decide +kernel)
theorem t223_1279 : e_ok mD223 1279 (1, 1, 2, 0, 1280) := okl_aload_n dL_law_1279 rfl
theorem t223_1280 : e_ok mD223 1280 (11, 2, 156, 1, 1283) := And.intro (okCallX.M (okx_virtual (Da := mD156) dL_law_1280 rfl mwc_156 (wg5 33 rfl rfl) mwn_156 mwv_156 mwi_156 mwd_156)) (fun _ => okx_virtual (Da := mD156) dL_law_1280 rfl mwc_156 (wg5 33 rfl rfl) mwn_156 mwv_156 mwi_156 mwd_156)
theorem t223_1283 : e_ok mD223 1283 (1, 0, 6, 0, 1285) := okl_iload dL_law_1283
theorem t223_1285 : e_ok mD223 1285 (6, 0, 1290, 0, 1288) := okk_eq dL_law_1285 (by decide +kernel)
theorem t223_1288 : e_ok mD223 1288 (0, 0, 0, 0, 1289) := Or.inl (okc_iconst dL_law_1288 (by decide +kernel))
theorem t223_1289 : e_ok mD223 1289 (14, 9, 0, 0, 0) := trivial
theorem t223_1290 : e_ok mD223 1290 (1, 0, 6, 0, 1292) := okl_iload dL_law_1290
theorem t223_1292 : e_ok mD223 1292 (5, 1, 1307, 0, 1295) := okj_ne dL_law_1292 (by decide +kernel)
theorem t223_1295 : e_ok mD223 1295 (1, 1, 3, 0, 1296) := okl_aload_n dL_law_1295 rfl
theorem t223_1296 : e_ok mD223 1296 (0, 0, 0, 0, 1297) := Or.inl (okc_iconst dL_law_1296 (by decide +kernel))
theorem t223_1297 : e_ok mD223 1297 (8, 3, 0, 0, 1298) := And.intro (oka_l dL_law_1297) (oky_none (by decide) _)
theorem t223_1298 : e_ok mD223 1298 (1, 0, 7, 0, 1300) := okl_iload dL_law_1298
theorem t223_1300 : e_ok mD223 1300 (15, 5, 0, 0, 1301) := okm_i2l dL_law_1300
theorem t223_1301 : e_ok mD223 1301 (15, 4, 0, 0, 1302) := okm_lcmp dL_law_1301
theorem t223_1302 : e_ok mD223 1302 (5, 0, 1307, 0, 1305) := okj_eq dL_law_1302 (by decide +kernel)
theorem t223_1305 : e_ok mD223 1305 (0, 0, 0, 0, 1306) := Or.inl (okc_iconst dL_law_1305 (by decide +kernel))
theorem t223_1306 : e_ok mD223 1306 (14, 9, 0, 0, 0) := trivial
theorem t223_1307 : e_ok mD223 1307 (2, 4, 0, 0, 1644) := oki_goto dL_law_1307 (by decide +kernel)
theorem t223_1310 : e_ok mD223 1310 (1, 1, 1, 0, 1311) := okl_aload_n dL_law_1310 rfl
theorem t223_1311 : e_ok mD223 1311 (11, 2, 33, 1, 1314) := And.intro (okCallX.M (okx_virtual (Da := mD33) dL_law_1311 rfl mwc_33 (wg2 86 rfl rfl) mwn_33 mwv_33 mwi_33 mwd_33)) (fun _ => okx_virtual (Da := mD33) dL_law_1311 rfl mwc_33 (wg2 86 rfl rfl) mwn_33 mwv_33 mwi_33 mwd_33)
theorem t223_1314 : e_ok mD223 1314 (1, 1, 2, 0, 1315) := okl_aload_n dL_law_1314 rfl
theorem t223_1315 : e_ok mD223 1315 (11, 2, 153, 1, 1318) := And.intro (okCallX.M (okx_virtual (Da := mD153) dL_law_1315 rfl mwc_153 (wg7 236 rfl rfl) mwn_153 mwv_153 mwi_153 mwd_153)) (fun _ => okx_virtual (Da := mD153) dL_law_1315 rfl mwc_153 (wg7 236 rfl rfl) mwn_153 mwv_153 mwi_153 mwd_153)
theorem t223_1318 : e_ok mD223 1318 (6, 0, 1644, 0, 1321) := okk_eq dL_law_1318 (by decide +kernel)
theorem t223_1321 : e_ok mD223 1321 (0, 0, 0, 0, 1322) := Or.inl (okc_iconst dL_law_1321 (by decide +kernel))
theorem t223_1322 : e_ok mD223 1322 (14, 9, 0, 0, 0) := trivial
theorem t223_1323 : e_ok mD223 1323 (1, 1, 1, 0, 1324) := okl_aload_n dL_law_1323 rfl
theorem t223_1324 : e_ok mD223 1324 (11, 2, 34, 1, 1327) := And.intro (okCallX.M (okx_virtual (Da := mD34) dL_law_1324 rfl mwc_34 (wg2 94 rfl rfl) mwn_34 mwv_34 mwi_34 mwd_34)) (fun _ => okx_virtual (Da := mD34) dL_law_1324 rfl mwc_34 (wg2 94 rfl rfl) mwn_34 mwv_34 mwi_34 mwd_34)
theorem t223_1327 : e_ok mD223 1327 (1, 1, 2, 0, 1328) := okl_aload_n dL_law_1327 rfl
theorem t223_1328 : e_ok mD223 1328 (11, 2, 154, 1, 1331) := And.intro (okCallX.M (okx_virtual (Da := mD154) dL_law_1328 rfl mwc_154 (wg8 0 rfl rfl) mwn_154 mwv_154 mwi_154 mwd_154)) (fun _ => okx_virtual (Da := mD154) dL_law_1328 rfl mwc_154 (wg8 0 rfl rfl) mwn_154 mwv_154 mwi_154 mwd_154)
theorem t223_1331 : e_ok mD223 1331 (6, 0, 1644, 0, 1334) := okk_eq dL_law_1331 (by decide +kernel)
theorem t223_1334 : e_ok mD223 1334 (0, 0, 0, 0, 1335) := Or.inl (okc_iconst dL_law_1334 (by decide +kernel))
theorem t223_1335 : e_ok mD223 1335 (14, 9, 0, 0, 0) := trivial
theorem t223_1336 : e_ok mD223 1336 (1, 1, 1, 0, 1337) := okl_aload_n dL_law_1336 rfl
theorem t223_1337 : e_ok mD223 1337 (11, 2, 38, 1, 1340) := And.intro (okCallX.M (okx_virtual (Da := mD38) dL_law_1337 rfl mwc_38 (wg2 102 rfl rfl) mwn_38 mwv_38 mwi_38 mwd_38)) (fun _ => okx_virtual (Da := mD38) dL_law_1337 rfl mwc_38 (wg2 102 rfl rfl) mwn_38 mwv_38 mwi_38 mwd_38)
theorem t223_1340 : e_ok mD223 1340 (1, 1, 2, 0, 1341) := okl_aload_n dL_law_1340 rfl
theorem t223_1341 : e_ok mD223 1341 (11, 2, 159, 1, 1344) := And.intro (okCallX.M (okx_virtual (Da := mD159) dL_law_1341 rfl mwc_159 (wg8 4 rfl rfl) mwn_159 mwv_159 mwi_159 mwd_159)) (fun _ => okx_virtual (Da := mD159) dL_law_1341 rfl mwc_159 (wg8 4 rfl rfl) mwn_159 mwv_159 mwi_159 mwd_159)
theorem t223_1344 : e_ok mD223 1344 (6, 0, 1644, 0, 1347) := okk_eq dL_law_1344 (by decide +kernel)
theorem t223_1347 : e_ok mD223 1347 (0, 0, 0, 0, 1348) := Or.inl (okc_iconst dL_law_1347 (by decide +kernel))
theorem t223_1348 : e_ok mD223 1348 (14, 9, 0, 0, 0) := trivial
theorem t223_1349 : e_ok mD223 1349 (1, 1, 1, 0, 1350) := okl_aload_n dL_law_1349 rfl
theorem t223_1350 : e_ok mD223 1350 (1, 1, 3, 0, 1351) := okl_aload_n dL_law_1350 rfl
theorem t223_1351 : e_ok mD223 1351 (11, 4, 106, 2, 1354) := And.intro (okm_wrap (Da := mD106) dL_law_1351 rfl mwc_106 (wg4 227 rfl rfl) mws_106 mwi_106 mwd_106) (fun h => h.elim nofun nofun)
theorem t223_1354 : e_ok mD223 1354 (1, 4, 6, 0, 1356) := oks_istore dL_law_1354 (by decide +kernel)
theorem t223_1356 : e_ok mD223 1356 (1, 1, 2, 0, 1357) := okl_aload_n dL_law_1356 rfl
theorem t223_1357 : e_ok mD223 1357 (11, 2, 149, 1, 1360) := And.intro (okCallX.M (okx_virtual (Da := mD149) dL_law_1357 rfl mwc_149 (wg8 8 rfl rfl) mwn_149 mwv_149 mwi_149 mwd_149)) (fun _ => okx_virtual (Da := mD149) dL_law_1357 rfl mwc_149 (wg8 8 rfl rfl) mwn_149 mwv_149 mwi_149 mwd_149)
theorem t223_1360 : e_ok mD223 1360 (1, 4, 7, 0, 1362) := oks_istore dL_law_1360 (by decide +kernel)
theorem t223_1362 : e_ok mD223 1362 (1, 1, 2, 0, 1363) := okl_aload_n dL_law_1362 rfl
theorem t223_1363 : e_ok mD223 1363 (11, 2, 156, 1, 1366) := And.intro (okCallX.M (okx_virtual (Da := mD156) dL_law_1363 rfl mwc_156 (wg5 33 rfl rfl) mwn_156 mwv_156 mwi_156 mwd_156)) (fun _ => okx_virtual (Da := mD156) dL_law_1363 rfl mwc_156 (wg5 33 rfl rfl) mwn_156 mwv_156 mwi_156 mwd_156)
theorem t223_1366 : e_ok mD223 1366 (1, 0, 6, 0, 1368) := okl_iload dL_law_1366
theorem t223_1368 : e_ok mD223 1368 (6, 0, 1373, 0, 1371) := okk_eq dL_law_1368 (by decide +kernel)
theorem t223_1371 : e_ok mD223 1371 (0, 0, 0, 0, 1372) := Or.inl (okc_iconst dL_law_1371 (by decide +kernel))
theorem t223_1372 : e_ok mD223 1372 (14, 9, 0, 0, 0) := trivial
theorem t223_1373 : e_ok mD223 1373 (1, 0, 6, 0, 1375) := okl_iload dL_law_1373
theorem t223_1375 : e_ok mD223 1375 (5, 1, 1390, 0, 1378) := okj_ne dL_law_1375 (by decide +kernel)
theorem t223_1378 : e_ok mD223 1378 (1, 1, 3, 0, 1379) := okl_aload_n dL_law_1378 rfl
theorem t223_1379 : e_ok mD223 1379 (0, 0, 0, 0, 1380) := Or.inl (okc_iconst dL_law_1379 (by decide +kernel))
theorem t223_1380 : e_ok mD223 1380 (8, 3, 0, 0, 1381) := And.intro (oka_l dL_law_1380) (oky_none (by decide) _)
theorem t223_1381 : e_ok mD223 1381 (1, 0, 7, 0, 1383) := okl_iload dL_law_1381
theorem t223_1383 : e_ok mD223 1383 (15, 5, 0, 0, 1384) := okm_i2l dL_law_1383
theorem t223_1384 : e_ok mD223 1384 (15, 4, 0, 0, 1385) := okm_lcmp dL_law_1384
theorem t223_1385 : e_ok mD223 1385 (5, 0, 1390, 0, 1388) := okj_eq dL_law_1385 (by decide +kernel)
theorem t223_1388 : e_ok mD223 1388 (0, 0, 0, 0, 1389) := Or.inl (okc_iconst dL_law_1388 (by decide +kernel))
theorem t223_1389 : e_ok mD223 1389 (14, 9, 0, 0, 0) := trivial
theorem t223_1390 : e_ok mD223 1390 (2, 4, 0, 0, 1644) := oki_goto dL_law_1390 (by decide +kernel)
theorem t223_1393 : e_ok mD223 1393 (1, 1, 1, 0, 1394) := okl_aload_n dL_law_1393 rfl
theorem t223_1394 : e_ok mD223 1394 (11, 2, 16, 1, 1397) := And.intro (okCallX.M (okx_virtual (Da := mD16) dL_law_1394 rfl mwc_16 (wg2 106 rfl rfl) mwn_16 mwv_16 mwi_16 mwd_16)) (fun _ => okx_virtual (Da := mD16) dL_law_1394 rfl mwc_16 (wg2 106 rfl rfl) mwn_16 mwv_16 mwi_16 mwd_16)
theorem t223_1397 : e_ok mD223 1397 (1, 1, 2, 0, 1398) := okl_aload_n dL_law_1397 rfl
theorem t223_1398 : e_ok mD223 1398 (11, 2, 139, 1, 1401) := And.intro (okCallX.M (okx_virtual (Da := mD139) dL_law_1398 rfl mwc_139 (wg8 12 rfl rfl) mwn_139 mwv_139 mwi_139 mwd_139)) (fun _ => okx_virtual (Da := mD139) dL_law_1398 rfl mwc_139 (wg8 12 rfl rfl) mwn_139 mwv_139 mwi_139 mwd_139)
theorem t223_1401 : e_ok mD223 1401 (15, 4, 0, 0, 1402) := okm_lcmp dL_law_1401
theorem t223_1402 : e_ok mD223 1402 (5, 0, 1644, 0, 1405) := okj_eq dL_law_1402 (by decide +kernel)
theorem t223_1405 : e_ok mD223 1405 (0, 0, 0, 0, 1406) := Or.inl (okc_iconst dL_law_1405 (by decide +kernel))
theorem t223_1406 : e_ok mD223 1406 (14, 9, 0, 0, 0) := trivial
theorem t223_1407 : e_ok mD223 1407 (1, 1, 1, 0, 1408) := okl_aload_n dL_law_1407 rfl
theorem t223_1408 : e_ok mD223 1408 (11, 2, 18, 1, 1411) := And.intro (okCallX.M (okx_virtual (Da := mD18) dL_law_1408 rfl mwc_18 (wg2 110 rfl rfl) mwn_18 mwv_18 mwi_18 mwd_18)) (fun _ => okx_virtual (Da := mD18) dL_law_1408 rfl mwc_18 (wg2 110 rfl rfl) mwn_18 mwv_18 mwi_18 mwd_18)
theorem t223_1411 : e_ok mD223 1411 (1, 1, 2, 0, 1412) := okl_aload_n dL_law_1411 rfl
theorem t223_1412 : e_ok mD223 1412 (11, 2, 142, 1, 1415) := And.intro (okCallX.M (okx_virtual (Da := mD142) dL_law_1412 rfl mwc_142 (wg8 16 rfl rfl) mwn_142 mwv_142 mwi_142 mwd_142)) (fun _ => okx_virtual (Da := mD142) dL_law_1412 rfl mwc_142 (wg8 16 rfl rfl) mwn_142 mwv_142 mwi_142 mwd_142)
theorem t223_1415 : e_ok mD223 1415 (15, 4, 0, 0, 1416) := okm_lcmp dL_law_1415
theorem t223_1416 : e_ok mD223 1416 (5, 0, 1644, 0, 1419) := okj_eq dL_law_1416 (by decide +kernel)
theorem t223_1419 : e_ok mD223 1419 (0, 0, 0, 0, 1420) := Or.inl (okc_iconst dL_law_1419 (by decide +kernel))
theorem t223_1420 : e_ok mD223 1420 (14, 9, 0, 0, 0) := trivial
theorem t223_1421 : e_ok mD223 1421 (1, 1, 1, 0, 1422) := okl_aload_n dL_law_1421 rfl
theorem t223_1422 : e_ok mD223 1422 (1, 1, 0, 0, 1423) := okl_aload_n dL_law_1422 rfl
theorem t223_1423 : e_ok mD223 1423 (1, 0, 5, 0, 1425) := okl_iload dL_law_1423
theorem t223_1425 : e_ok mD223 1425 (0, 0, 1, 0, 1426) := Or.inl (okc_iconst dL_law_1425 (by decide +kernel))
theorem t223_1426 : e_ok mD223 1426 (3, 0, 0, 0, 1427) := okb_iadd dL_law_1426
theorem t223_1427 : e_ok mD223 1427 (14, 1, 0, 0, 1428) := trivial
theorem t223_1428 : e_ok mD223 1428 (4, 7, 0, 0, 1429) := oku_i2c dL_law_1428
theorem t223_1429 : e_ok mD223 1429 (1, 1, 3, 0, 1430) := okl_aload_n dL_law_1429 rfl
theorem t223_1430 : e_ok mD223 1430 (11, 4, 111, 3, 1433) := And.intro (okm_wrap (Da := mD111) dL_law_1430 rfl mwc_111 (wg4 235 rfl rfl) mws_111 mwi_111 mwd_111) (fun h => h.elim nofun nofun)
theorem t223_1433 : e_ok mD223 1433 (1, 4, 6, 0, 1435) := oks_istore dL_law_1433 (by decide +kernel)
theorem t223_1435 : e_ok mD223 1435 (1, 1, 2, 0, 1436) := okl_aload_n dL_law_1435 rfl
theorem t223_1436 : e_ok mD223 1436 (1, 1, 0, 0, 1437) := okl_aload_n dL_law_1436 rfl
theorem t223_1437 : e_ok mD223 1437 (1, 0, 5, 0, 1439) := okl_iload dL_law_1437
theorem t223_1439 : e_ok mD223 1439 (0, 0, 1, 0, 1440) := Or.inl (okc_iconst dL_law_1439 (by decide +kernel))
theorem t223_1440 : e_ok mD223 1440 (3, 0, 0, 0, 1441) := okb_iadd dL_law_1440
theorem t223_1441 : e_ok mD223 1441 (14, 1, 0, 0, 1442) := trivial
theorem t223_1442 : e_ok mD223 1442 (4, 7, 0, 0, 1443) := oku_i2c dL_law_1442
theorem t223_1443 : e_ok mD223 1443 (11, 2, 158, 2, 1446) := And.intro (okCallX.M (okx_virtual (Da := mD158) dL_law_1443 rfl mwc_158 (wg8 20 rfl rfl) mwn_158 mwv_158 mwi_158 mwd_158)) (fun _ => okx_virtual (Da := mD158) dL_law_1443 rfl mwc_158 (wg8 20 rfl rfl) mwn_158 mwv_158 mwi_158 mwd_158)
theorem t223_1446 : e_ok mD223 1446 (1, 4, 7, 0, 1448) := oks_istore dL_law_1446 (by decide +kernel)
theorem t223_1448 : e_ok mD223 1448 (1, 1, 2, 0, 1449) := okl_aload_n dL_law_1448 rfl
theorem t223_1449 : e_ok mD223 1449 (11, 2, 156, 1, 1452) := And.intro (okCallX.M (okx_virtual (Da := mD156) dL_law_1449 rfl mwc_156 (wg5 33 rfl rfl) mwn_156 mwv_156 mwi_156 mwd_156)) (fun _ => okx_virtual (Da := mD156) dL_law_1449 rfl mwc_156 (wg5 33 rfl rfl) mwn_156 mwv_156 mwi_156 mwd_156)
theorem t223_1452 : e_ok mD223 1452 (1, 0, 6, 0, 1454) := okl_iload dL_law_1452
theorem t223_1454 : e_ok mD223 1454 (6, 0, 1459, 0, 1457) := okk_eq dL_law_1454 (by decide +kernel)
theorem t223_1457 : e_ok mD223 1457 (0, 0, 0, 0, 1458) := Or.inl (okc_iconst dL_law_1457 (by decide +kernel))
theorem t223_1458 : e_ok mD223 1458 (14, 9, 0, 0, 0) := trivial
theorem t223_1459 : e_ok mD223 1459 (1, 0, 6, 0, 1461) := okl_iload dL_law_1459
theorem t223_1461 : e_ok mD223 1461 (5, 1, 1476, 0, 1464) := okj_ne dL_law_1461 (by decide +kernel)
theorem t223_1464 : e_ok mD223 1464 (1, 1, 3, 0, 1465) := okl_aload_n dL_law_1464 rfl
theorem t223_1465 : e_ok mD223 1465 (0, 0, 0, 0, 1466) := Or.inl (okc_iconst dL_law_1465 (by decide +kernel))
theorem t223_1466 : e_ok mD223 1466 (8, 3, 0, 0, 1467) := And.intro (oka_l dL_law_1466) (oky_none (by decide) _)
theorem t223_1467 : e_ok mD223 1467 (1, 0, 7, 0, 1469) := okl_iload dL_law_1467
theorem t223_1469 : e_ok mD223 1469 (15, 5, 0, 0, 1470) := okm_i2l dL_law_1469
theorem t223_1470 : e_ok mD223 1470 (15, 4, 0, 0, 1471) := okm_lcmp dL_law_1470
theorem t223_1471 : e_ok mD223 1471 (5, 0, 1476, 0, 1474) := okj_eq dL_law_1471 (by decide +kernel)
theorem t223_1474 : e_ok mD223 1474 (0, 0, 0, 0, 1475) := Or.inl (okc_iconst dL_law_1474 (by decide +kernel))
theorem t223_1475 : e_ok mD223 1475 (14, 9, 0, 0, 0) := trivial
theorem t223_1476 : e_ok mD223 1476 (2, 4, 0, 0, 1644) := oki_goto dL_law_1476 (by decide +kernel)
theorem t223_1479 : e_ok mD223 1479 (1, 1, 1, 0, 1480) := okl_aload_n dL_law_1479 rfl
theorem t223_1480 : e_ok mD223 1480 (1, 1, 3, 0, 1481) := okl_aload_n dL_law_1480 rfl
theorem t223_1481 : e_ok mD223 1481 (11, 4, 95, 2, 1484) := And.intro (okm_wrap (Da := mD95) dL_law_1481 rfl mwc_95 (wg5 2 rfl rfl) mws_95 mwi_95 mwd_95) (fun h => h.elim nofun nofun)
theorem t223_1484 : e_ok mD223 1484 (1, 4, 6, 0, 1486) := oks_istore dL_law_1484 (by decide +kernel)
theorem t223_1486 : e_ok mD223 1486 (1, 1, 2, 0, 1487) := okl_aload_n dL_law_1486 rfl
theorem t223_1487 : e_ok mD223 1487 (11, 2, 123, 1, 1490) := And.intro (okCallX.M (okx_virtual (Da := mD123) dL_law_1487 rfl mwc_123 (wg8 24 rfl rfl) mwn_123 mwv_123 mwi_123 mwd_123)) (fun _ => okx_virtual (Da := mD123) dL_law_1487 rfl mwc_123 (wg8 24 rfl rfl) mwn_123 mwv_123 mwi_123 mwd_123)
theorem t223_1490 : e_ok mD223 1490 (1, 4, 7, 0, 1492) := oks_istore dL_law_1490 (by decide +kernel)
theorem t223_1492 : e_ok mD223 1492 (1, 1, 2, 0, 1493) := okl_aload_n dL_law_1492 rfl
theorem t223_1493 : e_ok mD223 1493 (11, 2, 156, 1, 1496) := And.intro (okCallX.M (okx_virtual (Da := mD156) dL_law_1493 rfl mwc_156 (wg5 33 rfl rfl) mwn_156 mwv_156 mwi_156 mwd_156)) (fun _ => okx_virtual (Da := mD156) dL_law_1493 rfl mwc_156 (wg5 33 rfl rfl) mwn_156 mwv_156 mwi_156 mwd_156)
theorem t223_1496 : e_ok mD223 1496 (1, 0, 6, 0, 1498) := okl_iload dL_law_1496
theorem t223_1498 : e_ok mD223 1498 (6, 0, 1503, 0, 1501) := okk_eq dL_law_1498 (by decide +kernel)
theorem t223_1501 : e_ok mD223 1501 (0, 0, 0, 0, 1502) := Or.inl (okc_iconst dL_law_1501 (by decide +kernel))
theorem t223_1502 : e_ok mD223 1502 (14, 9, 0, 0, 0) := trivial
theorem t223_1503 : e_ok mD223 1503 (1, 0, 6, 0, 1505) := okl_iload dL_law_1503
theorem t223_1505 : e_ok mD223 1505 (5, 1, 1520, 0, 1508) := okj_ne dL_law_1505 (by decide +kernel)
theorem t223_1508 : e_ok mD223 1508 (1, 1, 3, 0, 1509) := okl_aload_n dL_law_1508 rfl
theorem t223_1509 : e_ok mD223 1509 (0, 0, 0, 0, 1510) := Or.inl (okc_iconst dL_law_1509 (by decide +kernel))
theorem t223_1510 : e_ok mD223 1510 (8, 3, 0, 0, 1511) := And.intro (oka_l dL_law_1510) (oky_none (by decide) _)
theorem t223_1511 : e_ok mD223 1511 (1, 0, 7, 0, 1513) := okl_iload dL_law_1511
theorem t223_1513 : e_ok mD223 1513 (15, 5, 0, 0, 1514) := okm_i2l dL_law_1513
theorem t223_1514 : e_ok mD223 1514 (15, 4, 0, 0, 1515) := okm_lcmp dL_law_1514
theorem t223_1515 : e_ok mD223 1515 (5, 0, 1520, 0, 1518) := okj_eq dL_law_1515 (by decide +kernel)
theorem t223_1518 : e_ok mD223 1518 (0, 0, 0, 0, 1519) := Or.inl (okc_iconst dL_law_1518 (by decide +kernel))
theorem t223_1519 : e_ok mD223 1519 (14, 9, 0, 0, 0) := trivial
theorem t223_1520 : e_ok mD223 1520 (2, 4, 0, 0, 1644) := oki_goto dL_law_1520 (by decide +kernel)
theorem t223_1523 : e_ok mD223 1523 (1, 1, 1, 0, 1524) := okl_aload_n dL_law_1523 rfl
theorem t223_1524 : e_ok mD223 1524 (11, 2, 10, 1, 1527) := And.intro (okCallX.M (okx_virtual (Da := mD10) dL_law_1524 rfl mwc_10 (wg2 114 rfl rfl) mwn_10 mwv_10 mwi_10 mwd_10)) (fun _ => okx_virtual (Da := mD10) dL_law_1524 rfl mwc_10 (wg2 114 rfl rfl) mwn_10 mwv_10 mwi_10 mwd_10)
theorem t223_1527 : e_ok mD223 1527 (1, 1, 2, 0, 1528) := okl_aload_n dL_law_1527 rfl
theorem t223_1528 : e_ok mD223 1528 (11, 2, 128, 1, 1531) := And.intro (okCallX.M (okx_virtual (Da := mD128) dL_law_1528 rfl mwc_128 (wg8 28 rfl rfl) mwn_128 mwv_128 mwi_128 mwd_128)) (fun _ => okx_virtual (Da := mD128) dL_law_1528 rfl mwc_128 (wg8 28 rfl rfl) mwn_128 mwv_128 mwi_128 mwd_128)
theorem t223_1531 : e_ok mD223 1531 (6, 0, 1644, 0, 1534) := okk_eq dL_law_1531 (by decide +kernel)
theorem t223_1534 : e_ok mD223 1534 (0, 0, 0, 0, 1535) := Or.inl (okc_iconst dL_law_1534 (by decide +kernel))
theorem t223_1535 : e_ok mD223 1535 (14, 9, 0, 0, 0) := trivial
theorem t223_1536 : e_ok mD223 1536 (1, 1, 1, 0, 1537) := okl_aload_n dL_law_1536 rfl
theorem t223_1537 : e_ok mD223 1537 (11, 2, 5, 1, 1540) := And.intro (okCallX.M (okx_virtual (Da := mD5) dL_law_1537 rfl mwc_5 (wg2 141 rfl rfl) mwn_5 mwv_5 mwi_5 mwd_5)) (fun _ => okx_virtual (Da := mD5) dL_law_1537 rfl mwc_5 (wg2 141 rfl rfl) mwn_5 mwv_5 mwi_5 mwd_5)
theorem t223_1540 : e_ok mD223 1540 (15, 8, 0, 0, 1541) := okm_f2d dL_law_1540
theorem t223_1541 : e_ok mD223 1541 (1, 7, 6, 0, 1543) := oks_dstore dL_law_1541 (by decide +kernel)
theorem t223_1543 : e_ok mD223 1543 (1, 1, 2, 0, 1544) := okl_aload_n dL_law_1543 rfl
theorem t223_1544 : e_ok mD223 1544 (11, 2, 122, 1, 1547) := And.intro (okCallX.M (okx_virtual (Da := mD122) dL_law_1544 rfl mwc_122 (wg8 32 rfl rfl) mwn_122 mwv_122 mwi_122 mwd_122)) (fun _ => okx_virtual (Da := mD122) dL_law_1544 rfl mwc_122 (wg8 32 rfl rfl) mwn_122 mwv_122 mwi_122 mwd_122)
theorem t223_1547 : e_ok mD223 1547 (15, 8, 0, 0, 1548) := okm_f2d dL_law_1547
theorem t223_1548 : e_ok mD223 1548 (1, 7, 8, 0, 1550) := oks_dstore dL_law_1548 (by decide +kernel)
theorem t223_1550 : e_ok mD223 1550 (1, 3, 6, 0, 1552) := okl_dload dL_law_1550
theorem t223_1552 : e_ok mD223 1552 (1, 3, 8, 0, 1554) := okl_dload dL_law_1552
theorem t223_1554 : e_ok mD223 1554 (15, 9, 0, 0, 1555) := okm_dcmpl dL_law_1554
theorem t223_1555 : e_ok mD223 1555 (5, 0, 1576, 0, 1558) := okj_eq dL_law_1555 (by decide +kernel)
theorem t223_1558 : e_ok mD223 1558 (1, 3, 6, 0, 1560) := okl_dload dL_law_1558
theorem t223_1560 : e_ok mD223 1560 (1, 3, 6, 0, 1562) := okl_dload dL_law_1560
theorem t223_1562 : e_ok mD223 1562 (15, 9, 0, 0, 1563) := okm_dcmpl dL_law_1562
theorem t223_1563 : e_ok mD223 1563 (5, 0, 1574, 0, 1566) := okj_eq dL_law_1563 (by decide +kernel)
theorem t223_1566 : e_ok mD223 1566 (1, 3, 8, 0, 1568) := okl_dload dL_law_1566
theorem t223_1568 : e_ok mD223 1568 (1, 3, 8, 0, 1570) := okl_dload dL_law_1568
theorem t223_1570 : e_ok mD223 1570 (15, 9, 0, 0, 1571) := okm_dcmpl dL_law_1570
theorem t223_1571 : e_ok mD223 1571 (5, 1, 1576, 0, 1574) := okj_ne dL_law_1571 (by decide +kernel)
theorem t223_1574 : e_ok mD223 1574 (0, 0, 0, 0, 1575) := Or.inl (okc_iconst dL_law_1574 (by decide +kernel))
theorem t223_1575 : e_ok mD223 1575 (14, 9, 0, 0, 0) := trivial
theorem t223_1576 : e_ok mD223 1576 (2, 4, 0, 0, 1644) := oki_goto dL_law_1576 (by decide +kernel)
theorem t223_1579 : e_ok mD223 1579 (1, 1, 1, 0, 1580) := okl_aload_n dL_law_1579 rfl
theorem t223_1580 : e_ok mD223 1580 (1, 1, 4, 0, 1582) := okl_aload dL_law_1580
theorem t223_1582 : e_ok mD223 1582 (11, 4, 101, 2, 1585) := And.intro (okm_wrap (Da := mD101) dL_law_1582 rfl mwc_101 (wg5 26 rfl rfl) mws_101 mwi_101 mwd_101) (fun h => h.elim nofun nofun)
theorem t223_1585 : e_ok mD223 1585 (1, 4, 6, 0, 1587) := oks_istore dL_law_1585 (by decide +kernel)
theorem t223_1587 : e_ok mD223 1587 (1, 1, 2, 0, 1588) := okl_aload_n dL_law_1587 rfl
theorem t223_1588 : e_ok mD223 1588 (11, 2, 138, 1, 1591) := And.intro (okCallX.M (okx_virtual (Da := mD138) dL_law_1588 rfl mwc_138 (wg8 37 rfl rfl) mwn_138 mwv_138 mwi_138 mwd_138)) (fun _ => okx_virtual (Da := mD138) dL_law_1588 rfl mwc_138 (wg8 37 rfl rfl) mwn_138 mwv_138 mwi_138 mwd_138)
theorem t223_1591 : e_ok mD223 1591 (1, 7, 7, 0, 1593) := oks_dstore dL_law_1591 (by decide +kernel)
theorem t223_1593 : e_ok mD223 1593 (1, 1, 2, 0, 1594) := okl_aload_n dL_law_1593 rfl
theorem t223_1594 : e_ok mD223 1594 (11, 2, 156, 1, 1597) := And.intro (okCallX.M (okx_virtual (Da := mD156) dL_law_1594 rfl mwc_156 (wg5 33 rfl rfl) mwn_156 mwv_156 mwi_156 mwd_156)) (fun _ => okx_virtual (Da := mD156) dL_law_1594 rfl mwc_156 (wg5 33 rfl rfl) mwn_156 mwv_156 mwi_156 mwd_156)
theorem t223_1597 : e_ok mD223 1597 (1, 0, 6, 0, 1599) := okl_iload dL_law_1597
theorem t223_1599 : e_ok mD223 1599 (6, 0, 1604, 0, 1602) := okk_eq dL_law_1599 (by decide +kernel)
theorem t223_1602 : e_ok mD223 1602 (0, 0, 0, 0, 1603) := Or.inl (okc_iconst dL_law_1602 (by decide +kernel))
theorem t223_1603 : e_ok mD223 1603 (14, 9, 0, 0, 0) := trivial
theorem t223_1604 : e_ok mD223 1604 (1, 0, 6, 0, 1606) := okl_iload dL_law_1604
theorem t223_1606 : e_ok mD223 1606 (5, 1, 1641, 0, 1609) := okj_ne dL_law_1606 (by decide +kernel)
theorem t223_1609 : e_ok mD223 1609 (1, 1, 4, 0, 1611) := okl_aload dL_law_1609
theorem t223_1611 : e_ok mD223 1611 (0, 0, 0, 0, 1612) := Or.inl (okc_iconst dL_law_1611 (by decide +kernel))
theorem t223_1612 : e_ok mD223 1612 (8, 4, 0, 0, 1613) := And.intro (oka_d dL_law_1612) (oky_none (by decide) _)
theorem t223_1613 : e_ok mD223 1613 (1, 3, 7, 0, 1615) := okl_dload dL_law_1613
theorem t223_1615 : e_ok mD223 1615 (15, 9, 0, 0, 1616) := okm_dcmpl dL_law_1615
theorem t223_1616 : e_ok mD223 1616 (5, 0, 1641, 0, 1619) := okj_eq dL_law_1616 (by decide +kernel)
theorem t223_1619 : e_ok mD223 1619 (1, 1, 4, 0, 1621) := okl_aload dL_law_1619
theorem t223_1621 : e_ok mD223 1621 (0, 0, 0, 0, 1622) := Or.inl (okc_iconst dL_law_1621 (by decide +kernel))
theorem t223_1622 : e_ok mD223 1622 (8, 4, 0, 0, 1623) := And.intro (oka_d dL_law_1622) (oky_none (by decide) _)
theorem t223_1623 : e_ok mD223 1623 (1, 1, 4, 0, 1625) := okl_aload dL_law_1623
theorem t223_1625 : e_ok mD223 1625 (0, 0, 0, 0, 1626) := Or.inl (okc_iconst dL_law_1625 (by decide +kernel))
theorem t223_1626 : e_ok mD223 1626 (8, 4, 0, 0, 1627) := And.intro (oka_d dL_law_1626) (oky_none (by decide) _)
theorem t223_1627 : e_ok mD223 1627 (15, 9, 0, 0, 1628) := okm_dcmpl dL_law_1627
theorem t223_1628 : e_ok mD223 1628 (5, 0, 1639, 0, 1631) := okj_eq dL_law_1628 (by decide +kernel)
theorem t223_1631 : e_ok mD223 1631 (1, 3, 7, 0, 1633) := okl_dload dL_law_1631
theorem t223_1633 : e_ok mD223 1633 (1, 3, 7, 0, 1635) := okl_dload dL_law_1633
theorem t223_1635 : e_ok mD223 1635 (15, 9, 0, 0, 1636) := okm_dcmpl dL_law_1635
theorem t223_1636 : e_ok mD223 1636 (5, 1, 1641, 0, 1639) := okj_ne dL_law_1636 (by decide +kernel)
theorem t223_1639 : e_ok mD223 1639 (0, 0, 0, 0, 1640) := Or.inl (okc_iconst dL_law_1639 (by decide +kernel))
theorem t223_1640 : e_ok mD223 1640 (14, 9, 0, 0, 0) := trivial
theorem t223_1641 : e_ok mD223 1641 (2, 4, 0, 0, 1644) := oki_goto dL_law_1641 (by decide +kernel)
theorem t223_1644 : e_ok mD223 1644 (2, 0, 5, 3, 1647) := oki_iinc dL_law_1644 (by decide +kernel) (by decide +kernel)
theorem t223_1647 : e_ok mD223 1647 (2, 4, 0, 0, 28) := oki_goto dL_law_1647 (by decide +kernel)
theorem t223_1650 : e_ok mD223 1650 (0, 0, 1, 0, 1651) := Or.inl (okc_iconst dL_law_1650 (by decide +kernel))
theorem t223_1651 : e_ok mD223 1651 (14, 9, 0, 0, 0) := trivial
