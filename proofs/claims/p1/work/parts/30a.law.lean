theorem dL_law_188 : decode cL_law 188 = .ok (.aload_n 1, 1) := by decide +kernel
theorem dL_law_189 : decode cL_law 189 = .ok (.aload_n 0, 1) := by decide +kernel
theorem dL_law_190 : decode cL_law 190 = .ok (.iload 4, 2) := by decide +kernel
theorem dL_law_192 : decode cL_law 192 = .ok (.iconst 1, 1) := by decide +kernel
theorem dL_law_193 : decode cL_law 193 = .ok (.iadd, 1) := by decide +kernel
theorem dL_law_194 : decode cL_law 194 = .ok (.iaload, 1) := by decide +kernel
theorem dL_law_195 : decode cL_law 195 = .ok (.i2l, 1) := by decide +kernel
theorem dL_law_196 : decode cL_law 196 = .ok (.bipush 32, 2) := by decide +kernel
theorem dL_law_198 : decode cL_law 198 = .ok (.lshl, 1) := by decide +kernel
theorem dL_law_199 : decode cL_law 199 = .ok (.aload_n 0, 1) := by decide +kernel
theorem dL_law_200 : decode cL_law 200 = .ok (.iload 4, 2) := by decide +kernel
theorem dL_law_202 : decode cL_law 202 = .ok (.iconst 2, 1) := by decide +kernel
theorem dL_law_203 : decode cL_law 203 = .ok (.iadd, 1) := by decide +kernel
theorem dL_law_204 : decode cL_law 204 = .ok (.iaload, 1) := by decide +kernel
theorem dL_law_205 : decode cL_law 205 = .ok (.i2l, 1) := by decide +kernel
theorem dL_law_206 : decode cL_law 206 = .ok (.ldc2_w 19, 3) := by decide +kernel
theorem dL_law_209 : decode cL_law 209 = .ok (.land, 1) := by decide +kernel
theorem dL_law_210 : decode cL_law 210 = .ok (.lor, 1) := by decide +kernel
theorem dL_law_211 : decode cL_law 211 = .ok (.aload_n 0, 1) := by decide +kernel
theorem dL_law_212 : decode cL_law 212 = .ok (.iload 4, 2) := by decide +kernel
theorem dL_law_214 : decode cL_law 214 = .ok (.iconst 3, 1) := by decide +kernel
theorem dL_law_215 : decode cL_law 215 = .ok (.iadd, 1) := by decide +kernel
theorem dL_law_216 : decode cL_law 216 = .ok (.iaload, 1) := by decide +kernel
theorem dL_law_217 : decode cL_law 217 = .ok (.i2l, 1) := by decide +kernel
theorem dL_law_218 : decode cL_law 218 = .ok (.bipush 32, 2) := by decide +kernel
theorem dL_law_220 : decode cL_law 220 = .ok (.lshl, 1) := by decide +kernel
theorem dL_law_221 : decode cL_law 221 = .ok (.aload_n 0, 1) := by decide +kernel
theorem dL_law_222 : decode cL_law 222 = .ok (.iload 4, 2) := by decide +kernel
theorem dL_law_224 : decode cL_law 224 = .ok (.iconst 4, 1) := by decide +kernel
theorem dL_law_225 : decode cL_law 225 = .ok (.iadd, 1) := by decide +kernel
theorem dL_law_226 : decode cL_law 226 = .ok (.iaload, 1) := by decide +kernel
theorem dL_law_227 : decode cL_law 227 = .ok (.i2l, 1) := by decide +kernel
theorem dL_law_228 : decode cL_law 228 = .ok (.ldc2_w 19, 3) := by decide +kernel
theorem dL_law_231 : decode cL_law 231 = .ok (.land, 1) := by decide +kernel
theorem dL_law_232 : decode cL_law 232 = .ok (.lor, 1) := by decide +kernel
theorem dL_law_233 : decode cL_law 233 = .ok (.aload_n 0, 1) := by decide +kernel
theorem dL_law_234 : decode cL_law 234 = .ok (.iload 4, 2) := by decide +kernel
theorem dL_law_236 : decode cL_law 236 = .ok (.iconst 5, 1) := by decide +kernel
theorem dL_law_237 : decode cL_law 237 = .ok (.iadd, 1) := by decide +kernel
theorem dL_law_238 : decode cL_law 238 = .ok (.iaload, 1) := by decide +kernel
theorem dL_law_239 : decode cL_law 239 = .ok (.i2l, 1) := by decide +kernel
theorem dL_law_240 : decode cL_law 240 = .ok (.bipush 32, 2) := by decide +kernel
theorem dL_law_242 : decode cL_law 242 = .ok (.lshl, 1) := by decide +kernel
theorem dL_law_243 : decode cL_law 243 = .ok (.aload_n 0, 1) := by decide +kernel
theorem dL_law_244 : decode cL_law 244 = .ok (.iload 4, 2) := by decide +kernel
theorem dL_law_246 : decode cL_law 246 = .ok (.bipush 6, 2) := by decide +kernel
theorem dL_law_248 : decode cL_law 248 = .ok (.iadd, 1) := by decide +kernel
theorem dL_law_249 : decode cL_law 249 = .ok (.iaload, 1) := by decide +kernel
theorem dL_law_250 : decode cL_law 250 = .ok (.i2l, 1) := by decide +kernel
theorem dL_law_251 : decode cL_law 251 = .ok (.ldc2_w 19, 3) := by decide +kernel
theorem dL_law_254 : decode cL_law 254 = .ok (.land, 1) := by decide +kernel
theorem dL_law_255 : decode cL_law 255 = .ok (.lor, 1) := by decide +kernel
theorem dL_law_256 : decode cL_law 256 = .ok (.invokevirtual 21, 3) := by decide +kernel
theorem dL_law_259 : decode cL_law 259 = .ok (.aload_n 2, 1) := by decide +kernel
theorem dL_law_260 : decode cL_law 260 = .ok (.aload_n 0, 1) := by decide +kernel
theorem dL_law_261 : decode cL_law 261 = .ok (.iload 4, 2) := by decide +kernel
theorem dL_law_263 : decode cL_law 263 = .ok (.iconst 1, 1) := by decide +kernel
theorem dL_law_264 : decode cL_law 264 = .ok (.iadd, 1) := by decide +kernel
theorem dL_law_265 : decode cL_law 265 = .ok (.iaload, 1) := by decide +kernel
theorem dL_law_266 : decode cL_law 266 = .ok (.i2l, 1) := by decide +kernel
theorem dL_law_267 : decode cL_law 267 = .ok (.bipush 32, 2) := by decide +kernel
theorem dL_law_269 : decode cL_law 269 = .ok (.lshl, 1) := by decide +kernel
theorem dL_law_270 : decode cL_law 270 = .ok (.aload_n 0, 1) := by decide +kernel
theorem dL_law_271 : decode cL_law 271 = .ok (.iload 4, 2) := by decide +kernel
theorem dL_law_273 : decode cL_law 273 = .ok (.iconst 2, 1) := by decide +kernel
theorem dL_law_274 : decode cL_law 274 = .ok (.iadd, 1) := by decide +kernel
theorem dL_law_275 : decode cL_law 275 = .ok (.iaload, 1) := by decide +kernel
theorem dL_law_276 : decode cL_law 276 = .ok (.i2l, 1) := by decide +kernel
theorem dL_law_277 : decode cL_law 277 = .ok (.ldc2_w 19, 3) := by decide +kernel
theorem dL_law_280 : decode cL_law 280 = .ok (.land, 1) := by decide +kernel
theorem dL_law_281 : decode cL_law 281 = .ok (.lor, 1) := by decide +kernel
theorem dL_law_282 : decode cL_law 282 = .ok (.aload_n 0, 1) := by decide +kernel
theorem dL_law_283 : decode cL_law 283 = .ok (.iload 4, 2) := by decide +kernel
theorem dL_law_285 : decode cL_law 285 = .ok (.iconst 3, 1) := by decide +kernel
theorem dL_law_286 : decode cL_law 286 = .ok (.iadd, 1) := by decide +kernel
theorem dL_law_287 : decode cL_law 287 = .ok (.iaload, 1) := by decide +kernel
theorem dL_law_288 : decode cL_law 288 = .ok (.i2l, 1) := by decide +kernel
theorem dL_law_289 : decode cL_law 289 = .ok (.bipush 32, 2) := by decide +kernel
theorem dL_law_291 : decode cL_law 291 = .ok (.lshl, 1) := by decide +kernel
theorem dL_law_292 : decode cL_law 292 = .ok (.aload_n 0, 1) := by decide +kernel
theorem dL_law_293 : decode cL_law 293 = .ok (.iload 4, 2) := by decide +kernel
theorem dL_law_295 : decode cL_law 295 = .ok (.iconst 4, 1) := by decide +kernel
theorem dL_law_296 : decode cL_law 296 = .ok (.iadd, 1) := by decide +kernel
theorem dL_law_297 : decode cL_law 297 = .ok (.iaload, 1) := by decide +kernel
theorem dL_law_298 : decode cL_law 298 = .ok (.i2l, 1) := by decide +kernel
theorem dL_law_299 : decode cL_law 299 = .ok (.ldc2_w 19, 3) := by decide +kernel
theorem dL_law_302 : decode cL_law 302 = .ok (.land, 1) := by decide +kernel
theorem dL_law_303 : decode cL_law 303 = .ok (.lor, 1) := by decide +kernel
theorem dL_law_304 : decode cL_law 304 = .ok (.aload_n 0, 1) := by decide +kernel
theorem dL_law_305 : decode cL_law 305 = .ok (.iload 4, 2) := by decide +kernel
theorem dL_law_307 : decode cL_law 307 = .ok (.iconst 5, 1) := by decide +kernel
theorem dL_law_308 : decode cL_law 308 = .ok (.iadd, 1) := by decide +kernel
theorem dL_law_309 : decode cL_law 309 = .ok (.iaload, 1) := by decide +kernel
theorem dL_law_310 : decode cL_law 310 = .ok (.i2l, 1) := by decide +kernel
theorem dL_law_311 : decode cL_law 311 = .ok (.bipush 32, 2) := by decide +kernel
theorem dL_law_313 : decode cL_law 313 = .ok (.lshl, 1) := by decide +kernel
theorem dL_law_314 : decode cL_law 314 = .ok (.aload_n 0, 1) := by decide +kernel
theorem dL_law_315 : decode cL_law 315 = .ok (.iload 4, 2) := by decide +kernel
theorem dL_law_317 : decode cL_law 317 = .ok (.bipush 6, 2) := by decide +kernel
theorem dL_law_319 : decode cL_law 319 = .ok (.iadd, 1) := by decide +kernel
theorem dL_law_320 : decode cL_law 320 = .ok (.iaload, 1) := by decide +kernel
theorem dL_law_321 : decode cL_law 321 = .ok (.i2l, 1) := by decide +kernel
theorem dL_law_322 : decode cL_law 322 = .ok (.ldc2_w 19, 3) := by decide +kernel
theorem dL_law_325 : decode cL_law 325 = .ok (.land, 1) := by decide +kernel
theorem dL_law_326 : decode cL_law 326 = .ok (.lor, 1) := by decide +kernel
theorem dL_law_327 : decode cL_law 327 = .ok (.invokevirtual 25, 3) := by decide +kernel
theorem dL_law_330 : decode cL_law 330 = .ok (.if_icmp .eq 928, 3) := by decide +kernel
set_option maxRecDepth 20000 in
theorem ggL_law_X8_feed : GoodIn wsL_law wsX8_feed := goodIn_r _ [229, 17, 230, 231, 232, 233, 16, 234, 235, 236, 50, 1298, 1299, 1300, 1301, 1302, 1303, 1304, 1305, 1306, 1307, 1308, 1367, 1368, 1369, 1370, 1371, 1372, 1373, 1374, 1375] rfl (by decide +kernel)
set_option maxRecDepth 20000 in
theorem gL_law_X8_feed : GoodIn wsL_law (wsV RL 21 RX8 yX8_feed wsX8_feed) := goodIn_app (goodIn_of _ (by decide +kernel)) ggL_law_X8_feed
set_option maxRecDepth 20000 in
theorem ggL_law_X9_feed : GoodIn wsL_law wsX9_feed := goodIn_r _ [240, 241, 242, 243, 173, 1309, 1310, 1311, 1312, 1313, 1314, 1315, 1316, 1317, 1318, 1319, 1320, 1321, 1322, 1323, 1324, 1325, 1326, 1327, 1328, 1329, 1330, 1331, 1332, 1333, 1334, 1335, 1336, 1337, 1338, 1339, 1340, 1341, 1342, 1343, 1344, 1345, 1346, 1347, 1348, 1349, 1350, 1351, 1352, 1353, 1354, 1355, 1356, 1357, 1358, 1359, 1360, 1361, 1362, 1363, 1364, 1365, 1366] rfl (by decide +kernel)
set_option maxRecDepth 20000 in
theorem gL_law_X9_feed : GoodIn wsL_law (wsV RL 25 RX9 yX9_feed wsX9_feed) := goodIn_app (goodIn_of _ (by decide +kernel)) ggL_law_X9_feed
set_option maxHeartbeats 4000000 in
set_option maxRecDepth 100000 in
theorem law_case0 {p : Program} {l : Launch} {e : Env} {R : Room} {s : State} {m : MethodId} {args : Array Value} {below : List Frame} {meth : Method} {c : Code} {b : Nat} {xs : Nat → Int32} {Q : State → Prop} {A : Nat → Prop} (hx : p.tables.exec = Jvm.exec) (hb : c.code = code) (hml : c.maxLocals = 7) (hown : s.vm.findClass RL = some m.cls) (hts : ∀ w ∈ wsL_law, w.before args s = true) (hX0 : va_X b 7 xs s s.heap) (hbl : b < s.heap.size) (hbA : ¬ A b) (hA : ∀ q : Nat, s.heap.size ≤ q → A q) (hR : R = room_1) (q1 q2 q3 q4 q5 q6 : Int32) (e1 : xs (Int32.toNatClampNeg 1) = q1) (e2 : xs (Int32.toNatClampNeg 2) = q2) (e3 : xs (Int32.toNatClampNeg 3) = q3) (e4 : xs (Int32.toNatClampNeg 4) = q4) (e5 : xs (Int32.toNatClampNeg 5) = q5) (e6 : xs (Int32.toNatClampNeg 6) = q6) (D : va_G) (k : Nat → ClassId) (hK : va_K D vwCl (tysW k) s) (hE : kz_E s) (oa : Nat) (x : Nat) (tp : Nat) (x_told : Value) (x_draft : Value) (x_lines : Value) (x_draftLines : Value) (x_now : Value) (x_trial : Value) (x_sights : Value) (x_past : Value) (x_marks : Value) (x_drawn : Int64) (tp0 : Nat) (tp_words : Value) (tp_next : Int32) (tp_place : Int32) (tp_kind : Int32) (tp_value : Int32) (tp_letters : Int64) (tp_fault : Int32) (f : Nat → Int32) (y : Nat) (y_thrown : Int32) (b_tape : Nat) (y_size : Int32) (y_place : Int32) (y_begin : Int32) (y_token : Int32) (y_word : Int64) (y_told : Int32) (y_wrong : Int32) (y_supper : Value) (y_guestName : Value) (y_kind : Value) (y_offTold : Value) (y_pace : Value) (y_cooks : Value) (y_snow : Value) (y_lineFrom : Value) (y_lineTo : Value) (y_codes : Value) (y_code : Int32) (y_toldLines : Int32) (y_opened : Value) (y_compared : Value) (y_kept : Value) (y_keptBy : Value) (y_ahead : Value) (y_against : Value) (y_sum : Value) (y_sumBy : Value) (y_term : Value) (y_termBy : Value) (y_byNot : Value) (y_valueOf : Value) (y_given : Int32) (y_lines : Value) (y_lineWhat : Value) (y_lineA : Value) (y_lineB : Value) (y_seens : Value) (y_seenIn : Value) (y_seenYards : Value) (y_seenNear : Value) (y_s : Value) (y_aside : Value) (y_before : Value) (y_marked : Value) (y_undone : Value) (y_isLaid : Value) (y_done : Int32) (y_snowNow : Int32) (y_cameNow : Int32) (y_cookThen : Int32) (y_tasteThen : Int32) (y_places : Value) (y_comesAt : Value) (y_yardsIn : Value) (y_g : Int64) (c_tape : Nat → Int32) {H : Heap} {locs : List Loc} {ls : Array Slot} (hP : va_P D vwCl [(x, kO 8 [.ref tp, x_told, x_draft, x_lines, x_draftLines, x_now, x_trial, x_sights, x_past, x_marks, .long x_drawn]), (tp, kO 6 [.ref tp0, tp_words, .int 0, .int tp_next, .int tp_place, .int tp_kind, .int tp_value, .long tp_letters, .int tp_fault]), (tp0, kB k 1000 f), (y, kO 9 [.int y_thrown, .int 0, .ref b_tape, .int y_size, .int y_place, .int y_begin, .int y_token, .long y_word, .int y_told, .int y_wrong, y_supper, y_guestName, y_kind, y_offTold, y_pace, y_cooks, y_snow, y_lineFrom, y_lineTo, y_codes, .int y_code, .int y_toldLines, y_opened, y_compared, y_kept, y_keptBy, y_ahead, y_against, y_sum, y_sumBy, y_term, y_termBy, y_byNot, y_valueOf, .int y_given, y_lines, y_lineWhat, y_lineA, y_lineB, y_seens, y_seenIn, y_seenYards, y_seenNear, y_s, y_aside, y_before, y_marked, y_undone, y_isLaid, .int y_done, .int y_snowNow, .int y_cameNow, .int y_cookThen, .int y_tasteThen, y_places, y_comesAt, y_yardsIn, .long y_g]), (b_tape, kI k 1000 c_tape)] H) (hD : va_D A [(x, kO 8 [.ref tp, x_told, x_draft, x_lines, x_draftLines, x_now, x_trial, x_sights, x_past, x_marks, .long x_drawn]), (tp, kO 6 [.ref tp0, tp_words, .int 0, .int tp_next, .int tp_place, .int tp_kind, .int tp_value, .long tp_letters, .int tp_fault]), (tp0, kB k 1000 f), (y, kO 9 [.int y_thrown, .int 0, .ref b_tape, .int y_size, .int y_place, .int y_begin, .int y_token, .long y_word, .int y_told, .int y_wrong, y_supper, y_guestName, y_kind, y_offTold, y_pace, y_cooks, y_snow, y_lineFrom, y_lineTo, y_codes, .int y_code, .int y_toldLines, y_opened, y_compared, y_kept, y_keptBy, y_ahead, y_against, y_sum, y_sumBy, y_term, y_termBy, y_byNot, y_valueOf, .int y_given, y_lines, y_lineWhat, y_lineA, y_lineB, y_seens, y_seenIn, y_seenYards, y_seenNear, y_s, y_aside, y_before, y_marked, y_undone, y_isLaid, .int y_done, .int y_snowNow, .int y_cameNow, .int y_cookThen, .int y_tasteThen, y_places, y_comesAt, y_yardsIn, .long y_g]), (b_tape, kI k 1000 c_tape)]) (hS : va_S A s.heap H locs) (hl : lv_has ls 7 [(4, .int 0), (3, .ref oa), (2, .ref y), (1, .ref x), (0, .ref b)]) (tail : ∀ (H : Heap) (locs : List Loc) (ls : Array Slot), va_S A s.heap H locs → lv_has ls 7 [(4, .int 0), (0, .ref b)] → W p l e R s m args below meth c H locs 295 10895 Q (F0 m 1258 ls [])) : W p l e R s m args below meth c H locs 295 10895 Q (F0 m 188 ls []) := by
  have lc19 := hts (.constantLong RL 19 (4294967295)) (by decide +kernel)
  refine lv_aload_n hx hb dL_law_188 rfl (lv_at hl 3 rfl) ?_
  refine lv_aload_n hx hb dL_law_189 rfl (lv_at hl 4 rfl) ?_
  refine lv_iload hx hb dL_law_190 (lv_at hl 0 rfl) ?_
  refine lv_iconst (v := 1) hx hb dL_law_192 (by decide) ?_
  refine lv_iadd hx hb dL_law_193 ?_
  refine lv_topi (fun x1 ex1 => ?_)
  obtain rfl : x1 = 1 := ex1.trans (by decide)
  refine va_sld hx hb hX0 hbl hbA hS (vp_in_iff.mpr (by decide)) dL_law_194 ?_
  refine kz_top (w := .int q1) (by rw [e1]) ?_
  refine lv_i2l hx hb dL_law_195 rfl ?_
  refine lv_bipush (v := 32) hx hb dL_law_196 (by decide) ?_
  refine lv_lshl hx hb dL_law_198 rfl ?_
  refine lv_aload_n hx hb dL_law_199 rfl (lv_at hl 4 rfl) ?_
  refine lv_iload hx hb dL_law_200 (lv_at hl 0 rfl) ?_
  refine lv_iconst (v := 2) hx hb dL_law_202 (by decide) ?_
  refine lv_iadd hx hb dL_law_203 ?_
  refine lv_topi (fun x2 ex2 => ?_)
  obtain rfl : x2 = 2 := ex2.trans (by decide)
  refine va_sld hx hb hX0 hbl hbA hS (vp_in_iff.mpr (by decide)) dL_law_204 ?_
  refine kz_top (w := .int q2) (by rw [e2]) ?_
  refine lv_i2l hx hb dL_law_205 rfl ?_
  refine lv_ldc2 hx hb hown lc19 dL_law_206 ?_
  refine lv_land hx hb dL_law_209 ?_
  refine lv_lor hx hb dL_law_210 ?_
  refine lv_aload_n hx hb dL_law_211 rfl (lv_at hl 4 rfl) ?_
  refine lv_iload hx hb dL_law_212 (lv_at hl 0 rfl) ?_
  refine lv_iconst (v := 3) hx hb dL_law_214 (by decide) ?_
  refine lv_iadd hx hb dL_law_215 ?_
  refine lv_topi (fun x3 ex3 => ?_)
  obtain rfl : x3 = 3 := ex3.trans (by decide)
  refine va_sld hx hb hX0 hbl hbA hS (vp_in_iff.mpr (by decide)) dL_law_216 ?_
  refine kz_top (w := .int q3) (by rw [e3]) ?_
  refine lv_i2l hx hb dL_law_217 rfl ?_
  refine lv_bipush (v := 32) hx hb dL_law_218 (by decide) ?_
  refine lv_lshl hx hb dL_law_220 rfl ?_
  refine lv_aload_n hx hb dL_law_221 rfl (lv_at hl 4 rfl) ?_
  refine lv_iload hx hb dL_law_222 (lv_at hl 0 rfl) ?_
  refine lv_iconst (v := 4) hx hb dL_law_224 (by decide) ?_
  refine lv_iadd hx hb dL_law_225 ?_
  refine lv_topi (fun x4 ex4 => ?_)
  obtain rfl : x4 = 4 := ex4.trans (by decide)
  refine va_sld hx hb hX0 hbl hbA hS (vp_in_iff.mpr (by decide)) dL_law_226 ?_
  refine kz_top (w := .int q4) (by rw [e4]) ?_
  refine lv_i2l hx hb dL_law_227 rfl ?_
  refine lv_ldc2 hx hb hown lc19 dL_law_228 ?_
  refine lv_land hx hb dL_law_231 ?_
  refine lv_lor hx hb dL_law_232 ?_
  refine lv_aload_n hx hb dL_law_233 rfl (lv_at hl 4 rfl) ?_
  refine lv_iload hx hb dL_law_234 (lv_at hl 0 rfl) ?_
  refine lv_iconst (v := 5) hx hb dL_law_236 (by decide) ?_
  refine lv_iadd hx hb dL_law_237 ?_
  refine lv_topi (fun x5 ex5 => ?_)
  obtain rfl : x5 = 5 := ex5.trans (by decide)
  refine va_sld hx hb hX0 hbl hbA hS (vp_in_iff.mpr (by decide)) dL_law_238 ?_
  refine kz_top (w := .int q5) (by rw [e5]) ?_
  refine lv_i2l hx hb dL_law_239 rfl ?_
  refine lv_bipush (v := 32) hx hb dL_law_240 (by decide) ?_
  refine lv_lshl hx hb dL_law_242 rfl ?_
  refine lv_aload_n hx hb dL_law_243 rfl (lv_at hl 4 rfl) ?_
  refine lv_iload hx hb dL_law_244 (lv_at hl 0 rfl) ?_
  refine lv_bipush (v := 6) hx hb dL_law_246 (by decide) ?_
  refine lv_iadd hx hb dL_law_248 ?_
  refine lv_topi (fun x6 ex6 => ?_)
  obtain rfl : x6 = 6 := ex6.trans (by decide)
  refine va_sld hx hb hX0 hbl hbA hS (vp_in_iff.mpr (by decide)) dL_law_249 ?_
  refine kz_top (w := .int q6) (by rw [e6]) ?_
  refine lv_i2l hx hb dL_law_250 rfl ?_
  refine lv_ldc2 hx hb hown lc19 dL_law_251 ?_
  refine lv_land hx hb dL_law_254 ?_
  refine lv_lor hx hb dL_law_255 ?_
  refine kz_Vi (As := [.long ((q1.toInt64 <<< ((32 : Int32).toInt64 &&& 63)) ||| (q2.toInt64 &&& 4294967295)), .long ((q3.toInt64 <<< ((32 : Int32).toInt64 &&& 63)) ||| (q4.toInt64 &&& 4294967295)), .long ((q5.toInt64 <<< ((32 : Int32).toInt64 &&& 63)) ||| (q6.toInt64 &&& 4294967295))]) (rest := []) (wc := [(x, kO 8 [.ref tp, x_told, x_draft, x_lines, x_draftLines, x_now, x_trial, x_sights, x_past, x_marks, .long x_drawn]), (tp, kO 6 [.ref tp0, tp_words, .int 0, .int tp_next, .int tp_place, .int tp_kind, .int tp_value, .long tp_letters, .int tp_fault]), (tp0, kB k 1000 f)]) (wr := [(y, kO 9 [.int y_thrown, .int 0, .ref b_tape, .int y_size, .int y_place, .int y_begin, .int y_token, .long y_word, .int y_told, .int y_wrong, y_supper, y_guestName, y_kind, y_offTold, y_pace, y_cooks, y_snow, y_lineFrom, y_lineTo, y_codes, .int y_code, .int y_toldLines, y_opened, y_compared, y_kept, y_keptBy, y_ahead, y_against, y_sum, y_sumBy, y_term, y_termBy, y_byNot, y_valueOf, .int y_given, y_lines, y_lineWhat, y_lineA, y_lineB, y_seens, y_seenIn, y_seenYards, y_seenNear, y_s, y_aside, y_before, y_marked, y_undone, y_isLaid, .int y_done, .int y_snowNow, .int y_cameNow, .int y_cookThen, .int y_tasteThen, y_places, y_comesAt, y_yardsIn, .long y_g]), (b_tape, kI k 1000 c_tape)]) ⟨hx, hb, hml, hown, hts⟩ hK hE hP hD hS hA (mX8_feed l D k H.size x ((q1.toInt64 <<< ((32 : Int32).toInt64 &&& 63)) ||| (q2.toInt64 &&& 4294967295)) ((q3.toInt64 <<< ((32 : Int32).toInt64 &&& 63)) ||| (q4.toInt64 &&& 4294967295)) ((q5.toInt64 <<< ((32 : Int32).toInt64 &&& 63)) ||| (q6.toInt64 &&& 4294967295)) tp x_told x_draft x_lines x_draftLines x_now x_trial x_sights x_past x_marks x_drawn tp0 tp_words tp_next tp_place tp_kind tp_value tp_letters tp_fault f) (cwV 3 hts gL_law_X8_feed rfl rfl rfl (by decide +kernel) (by rw [hR]; exact ⟨Nat.le_of_ble_eq_true rfl, Nat.le_of_ble_eq_true rfl⟩)) [0, 1, 2] [3, 4] rfl rfl (by decide) (by decide) (by decide) 0 rfl rfl rfl hl.1 rfl (Nat.le_of_ble_eq_true rfl) dL_law_256 (by rw [hR]; exact ⟨Nat.le_of_ble_eq_true rfl, Nat.le_of_ble_eq_true rfl⟩) (fun r7 u7 H locs hw7 hP hD hS => ?_)
  try dsimp only at hw7
  obtain rfl : r7 = aF ((q1.toInt64 <<< ((32 : Int32).toInt64 &&& 63)) ||| (q2.toInt64 &&& 4294967295)) ((q3.toInt64 <<< ((32 : Int32).toInt64 &&& 63)) ||| (q4.toInt64 &&& 4294967295)) ((q5.toInt64 <<< ((32 : Int32).toInt64 &&& 63)) ||| (q6.toInt64 &&& 4294967295)) := hw7
  have hP : va_P D vwCl [(y, kO 9 [.int y_thrown, .int 0, .ref b_tape, .int y_size, .int y_place, .int y_begin, .int y_token, .long y_word, .int y_told, .int y_wrong, y_supper, y_guestName, y_kind, y_offTold, y_pace, y_cooks, y_snow, y_lineFrom, y_lineTo, y_codes, .int y_code, .int y_toldLines, y_opened, y_compared, y_kept, y_keptBy, y_ahead, y_against, y_sum, y_sumBy, y_term, y_termBy, y_byNot, y_valueOf, .int y_given, y_lines, y_lineWhat, y_lineA, y_lineB, y_seens, y_seenIn, y_seenYards, y_seenNear, y_s, y_aside, y_before, y_marked, y_undone, y_isLaid, .int y_done, .int y_snowNow, .int y_cameNow, .int y_cookThen, .int y_tasteThen, y_places, y_comesAt, y_yardsIn, .long y_g]), (b_tape, kI k 1000 c_tape)] H := hP
  have hD : va_D A [(y, kO 9 [.int y_thrown, .int 0, .ref b_tape, .int y_size, .int y_place, .int y_begin, .int y_token, .long y_word, .int y_told, .int y_wrong, y_supper, y_guestName, y_kind, y_offTold, y_pace, y_cooks, y_snow, y_lineFrom, y_lineTo, y_codes, .int y_code, .int y_toldLines, y_opened, y_compared, y_kept, y_keptBy, y_ahead, y_against, y_sum, y_sumBy, y_term, y_termBy, y_byNot, y_valueOf, .int y_given, y_lines, y_lineWhat, y_lineA, y_lineB, y_seens, y_seenIn, y_seenYards, y_seenNear, y_s, y_aside, y_before, y_marked, y_undone, y_isLaid, .int y_done, .int y_snowNow, .int y_cameNow, .int y_cookThen, .int y_tasteThen, y_places, y_comesAt, y_yardsIn, .long y_g]), (b_tape, kI k 1000 c_tape)] := hD
  refine lv_aload_n hx hb dL_law_259 rfl (lv_at hl 2 rfl) ?_
  refine lv_aload_n hx hb dL_law_260 rfl (lv_at hl 4 rfl) ?_
  refine lv_iload hx hb dL_law_261 (lv_at hl 0 rfl) ?_
  refine lv_iconst (v := 1) hx hb dL_law_263 (by decide) ?_
  refine lv_iadd hx hb dL_law_264 ?_
  refine lv_topi (fun x8 ex8 => ?_)
  obtain rfl : x8 = 1 := ex8.trans (by decide)
  refine va_sld hx hb hX0 hbl hbA hS (vp_in_iff.mpr (by decide)) dL_law_265 ?_
  refine kz_top (w := .int q1) (by rw [e1]) ?_
  refine lv_i2l hx hb dL_law_266 rfl ?_
  refine lv_bipush (v := 32) hx hb dL_law_267 (by decide) ?_
  refine lv_lshl hx hb dL_law_269 rfl ?_
  refine lv_aload_n hx hb dL_law_270 rfl (lv_at hl 4 rfl) ?_
  refine lv_iload hx hb dL_law_271 (lv_at hl 0 rfl) ?_
  refine lv_iconst (v := 2) hx hb dL_law_273 (by decide) ?_
  refine lv_iadd hx hb dL_law_274 ?_
  refine lv_topi (fun x9 ex9 => ?_)
  obtain rfl : x9 = 2 := ex9.trans (by decide)
  refine va_sld hx hb hX0 hbl hbA hS (vp_in_iff.mpr (by decide)) dL_law_275 ?_
  refine kz_top (w := .int q2) (by rw [e2]) ?_
  refine lv_i2l hx hb dL_law_276 rfl ?_
  refine lv_ldc2 hx hb hown lc19 dL_law_277 ?_
  refine lv_land hx hb dL_law_280 ?_
  refine lv_lor hx hb dL_law_281 ?_
  refine lv_aload_n hx hb dL_law_282 rfl (lv_at hl 4 rfl) ?_
  refine lv_iload hx hb dL_law_283 (lv_at hl 0 rfl) ?_
  refine lv_iconst (v := 3) hx hb dL_law_285 (by decide) ?_
  refine lv_iadd hx hb dL_law_286 ?_
  refine lv_topi (fun x10 ex10 => ?_)
  obtain rfl : x10 = 3 := ex10.trans (by decide)
  refine va_sld hx hb hX0 hbl hbA hS (vp_in_iff.mpr (by decide)) dL_law_287 ?_
  refine kz_top (w := .int q3) (by rw [e3]) ?_
  refine lv_i2l hx hb dL_law_288 rfl ?_
  refine lv_bipush (v := 32) hx hb dL_law_289 (by decide) ?_
  refine lv_lshl hx hb dL_law_291 rfl ?_
  refine lv_aload_n hx hb dL_law_292 rfl (lv_at hl 4 rfl) ?_
  refine lv_iload hx hb dL_law_293 (lv_at hl 0 rfl) ?_
  refine lv_iconst (v := 4) hx hb dL_law_295 (by decide) ?_
  refine lv_iadd hx hb dL_law_296 ?_
  refine lv_topi (fun x11 ex11 => ?_)
  obtain rfl : x11 = 4 := ex11.trans (by decide)
  refine va_sld hx hb hX0 hbl hbA hS (vp_in_iff.mpr (by decide)) dL_law_297 ?_
  refine kz_top (w := .int q4) (by rw [e4]) ?_
  refine lv_i2l hx hb dL_law_298 rfl ?_
  refine lv_ldc2 hx hb hown lc19 dL_law_299 ?_
  refine lv_land hx hb dL_law_302 ?_
  refine lv_lor hx hb dL_law_303 ?_
  refine lv_aload_n hx hb dL_law_304 rfl (lv_at hl 4 rfl) ?_
  refine lv_iload hx hb dL_law_305 (lv_at hl 0 rfl) ?_
  refine lv_iconst (v := 5) hx hb dL_law_307 (by decide) ?_
  refine lv_iadd hx hb dL_law_308 ?_
  refine lv_topi (fun x12 ex12 => ?_)
  obtain rfl : x12 = 5 := ex12.trans (by decide)
  refine va_sld hx hb hX0 hbl hbA hS (vp_in_iff.mpr (by decide)) dL_law_309 ?_
  refine kz_top (w := .int q5) (by rw [e5]) ?_
  refine lv_i2l hx hb dL_law_310 rfl ?_
  refine lv_bipush (v := 32) hx hb dL_law_311 (by decide) ?_
  refine lv_lshl hx hb dL_law_313 rfl ?_
  refine lv_aload_n hx hb dL_law_314 rfl (lv_at hl 4 rfl) ?_
  refine lv_iload hx hb dL_law_315 (lv_at hl 0 rfl) ?_
  refine lv_bipush (v := 6) hx hb dL_law_317 (by decide) ?_
  refine lv_iadd hx hb dL_law_319 ?_
  refine lv_topi (fun x13 ex13 => ?_)
  obtain rfl : x13 = 6 := ex13.trans (by decide)
  refine va_sld hx hb hX0 hbl hbA hS (vp_in_iff.mpr (by decide)) dL_law_320 ?_
  refine kz_top (w := .int q6) (by rw [e6]) ?_
  refine lv_i2l hx hb dL_law_321 rfl ?_
  refine lv_ldc2 hx hb hown lc19 dL_law_322 ?_
  refine lv_land hx hb dL_law_325 ?_
  refine lv_lor hx hb dL_law_326 ?_
  refine kz_Vi (As := [.long ((q1.toInt64 <<< ((32 : Int32).toInt64 &&& 63)) ||| (q2.toInt64 &&& 4294967295)), .long ((q3.toInt64 <<< ((32 : Int32).toInt64 &&& 63)) ||| (q4.toInt64 &&& 4294967295)), .long ((q5.toInt64 <<< ((32 : Int32).toInt64 &&& 63)) ||| (q6.toInt64 &&& 4294967295))]) (rest := [.int (aF ((q1.toInt64 <<< ((32 : Int32).toInt64 &&& 63)) ||| (q2.toInt64 &&& 4294967295)) ((q3.toInt64 <<< ((32 : Int32).toInt64 &&& 63)) ||| (q4.toInt64 &&& 4294967295)) ((q5.toInt64 <<< ((32 : Int32).toInt64 &&& 63)) ||| (q6.toInt64 &&& 4294967295)))]) (wc := [(y, kO 9 [.int y_thrown, .int 0, .ref b_tape, .int y_size, .int y_place, .int y_begin, .int y_token, .long y_word, .int y_told, .int y_wrong, y_supper, y_guestName, y_kind, y_offTold, y_pace, y_cooks, y_snow, y_lineFrom, y_lineTo, y_codes, .int y_code, .int y_toldLines, y_opened, y_compared, y_kept, y_keptBy, y_ahead, y_against, y_sum, y_sumBy, y_term, y_termBy, y_byNot, y_valueOf, .int y_given, y_lines, y_lineWhat, y_lineA, y_lineB, y_seens, y_seenIn, y_seenYards, y_seenNear, y_s, y_aside, y_before, y_marked, y_undone, y_isLaid, .int y_done, .int y_snowNow, .int y_cameNow, .int y_cookThen, .int y_tasteThen, y_places, y_comesAt, y_yardsIn, .long y_g]), (b_tape, kI k 1000 c_tape)]) (wr := []) ⟨hx, hb, hml, hown, hts⟩ hK hE hP hD hS hA (mX9_feed l D k H.size y ((q1.toInt64 <<< ((32 : Int32).toInt64 &&& 63)) ||| (q2.toInt64 &&& 4294967295)) ((q3.toInt64 <<< ((32 : Int32).toInt64 &&& 63)) ||| (q4.toInt64 &&& 4294967295)) ((q5.toInt64 <<< ((32 : Int32).toInt64 &&& 63)) ||| (q6.toInt64 &&& 4294967295)) y_thrown b_tape y_size y_place y_begin y_token y_word y_told y_wrong y_supper y_guestName y_kind y_offTold y_pace y_cooks y_snow y_lineFrom y_lineTo y_codes y_code y_toldLines y_opened y_compared y_kept y_keptBy y_ahead y_against y_sum y_sumBy y_term y_termBy y_byNot y_valueOf y_given y_lines y_lineWhat y_lineA y_lineB y_seens y_seenIn y_seenYards y_seenNear y_s y_aside y_before y_marked y_undone y_isLaid y_done y_snowNow y_cameNow y_cookThen y_tasteThen y_places y_comesAt y_yardsIn y_g c_tape) (cwV 3 hts gL_law_X9_feed rfl rfl rfl (by decide +kernel) (by rw [hR]; exact ⟨Nat.le_of_ble_eq_true rfl, Nat.le_of_ble_eq_true rfl⟩)) [0, 1] [] rfl rfl (by decide) (by decide) (by decide) 0 rfl rfl rfl hl.1 rfl (Nat.le_of_ble_eq_true rfl) dL_law_327 (by rw [hR]; exact ⟨Nat.le_of_ble_eq_true rfl, Nat.le_of_ble_eq_true rfl⟩) (fun r14 u14 H locs hw14 hP hD hS => ?_)
  try dsimp only at hw14
  obtain rfl : r14 = aF ((q1.toInt64 <<< ((32 : Int32).toInt64 &&& 63)) ||| (q2.toInt64 &&& 4294967295)) ((q3.toInt64 <<< ((32 : Int32).toInt64 &&& 63)) ||| (q4.toInt64 &&& 4294967295)) ((q5.toInt64 <<< ((32 : Int32).toInt64 &&& 63)) ||| (q6.toInt64 &&& 4294967295)) := hw14
  have hP : va_P D vwCl [] H := hP
  have hD : va_D A [] := hD
  refine lv_icmp_eq (tgt := 1258) hx hb dL_law_330 (by decide) (fun c_15 => ?_) (fun c_15 => absurd rfl c_15)
  exact tail _ _ _ hS (lv_sub hl [0, 4] rfl)
theorem dL_law_335 : decode cL_law 335 = .ok (.aload_n 1, 1) := by decide +kernel
theorem dL_law_336 : decode cL_law 336 = .ok (.invokevirtual 26, 3) := by decide +kernel
theorem dL_law_339 : decode cL_law 339 = .ok (.aload_n 2, 1) := by decide +kernel
theorem dL_law_340 : decode cL_law 340 = .ok (.invokevirtual 30, 3) := by decide +kernel
theorem dL_law_343 : decode cL_law 343 = .ok (.if_icmp .eq 915, 3) := by decide +kernel
set_option maxRecDepth 20000 in
theorem ggL_law_X8_supper : GoodIn wsL_law wsX8_supper := goodIn_r _ [247, 17, 22, 248, 21, 249, 250, 251, 16, 252, 253, 254, 255, 256, 257, 258, 236, 50, 259, 260, 261, 101, 102, 103, 262, 263, 264, 265, 266, 51, 104, 105, 106, 107, 267, 268, 269, 270, 271, 272, 273, 274, 275, 276, 55, 277, 278, 279, 280, 281, 57, 68, 69, 70, 71, 62, 63, 282, 53, 54, 56, 58, 59, 60, 61, 283, 284, 74, 285, 286, 287, 288, 289, 290, 291, 292, 293, 294, 295, 296, 297, 298, 299, 300, 86, 301, 302, 303, 304, 305, 306, 307, 308, 309, 310, 91, 92, 93, 311, 312, 313, 79, 314, 315, 82, 316, 317, 318, 319, 95, 96, 97, 98, 99, 100, 320, 321, 322, 323, 324, 325, 326, 327, 328, 329, 330, 331, 332, 333, 334, 335, 336, 337, 20, 338, 121, 339, 340, 341, 342, 343, 344, 122, 123, 345, 346, 347, 348, 349, 120, 350, 351, 352, 353, 354, 355, 356, 357, 358, 359, 360, 361, 362, 363, 111, 364, 113, 114, 115, 116, 365, 366, 367, 368, 369, 370, 371, 372, 373, 374, 375, 376, 377, 378, 379, 380, 381, 382, 383, 384, 385, 386, 387, 388, 389, 390, 391, 392, 393, 394, 395, 396, 397, 398, 2, 399, 400, 401, 402, 403, 404, 405, 406, 407, 408, 409, 410, 411, 117, 412, 413, 414, 415, 416, 417, 418, 419, 420, 421, 422, 423, 424, 425, 426, 427, 428, 429, 430, 431, 432, 433, 434, 435, 436, 437, 438, 439, 440, 441, 442, 443, 444, 445, 446, 127, 447, 448, 449, 450, 451, 452, 453, 454, 455, 456, 457, 458, 459, 460, 461, 462, 463, 464, 31, 26, 36, 40, 42, 465, 466, 467, 468, 30, 469, 470, 471, 146, 145, 472, 473, 474, 475, 476, 477, 478, 139, 479, 140, 480, 141, 142, 143, 144, 481, 482, 483, 25, 484, 485, 486, 487, 488, 35, 489, 490, 491, 492, 493, 39, 494, 495, 1298, 1299, 1300, 1301, 1302, 1303, 1304, 1305, 1306, 1307, 1308, 1367, 1368, 1369, 1370, 1371, 1372, 1373, 1374, 1375, 1376, 1377, 1378, 1379, 1380, 1381, 1382, 1383, 1384, 1385, 1386, 1387, 1388, 1417, 1418, 1419, 1420, 1421, 1413, 1414, 1415, 1416, 1393, 1394, 1395, 1396, 1397, 1398, 1399, 1400, 1401, 1402, 1403, 1404, 1405, 1389, 1390, 1391, 1392, 1406, 1407, 1408, 1409, 1410, 1411, 1412] rfl (by decide +kernel)
set_option maxRecDepth 20000 in
theorem gL_law_X8_supper : GoodIn wsL_law (wsV RL 26 RX8 yX8_supper wsX8_supper) := goodIn_app (goodIn_of _ (by decide +kernel)) ggL_law_X8_supper
set_option maxRecDepth 20000 in
theorem ggL_law_X9_supper : GoodIn wsL_law wsX9_supper := goodIn_r _ [499, 241, 500, 196, 200, 501, 209, 502, 503, 504, 5, 505, 181, 182, 506, 507, 508, 509, 510, 511, 512, 513, 214, 215, 216, 217, 174, 514, 515, 516, 517, 243, 518, 519, 520, 521, 522, 523, 173, 524, 525, 526, 527, 528, 529, 530, 531, 532, 533, 534, 535, 536, 537, 538, 539, 540, 176, 541, 542, 543, 544, 545, 177, 546, 547, 178, 548, 179, 175, 549, 550, 551, 552, 553, 554, 555, 556, 557, 558, 559, 560, 561, 562, 563, 564, 565, 566, 567, 568, 569, 570, 571, 572, 573, 574, 575, 576, 577, 578, 579, 580, 581, 582, 583, 584, 585, 586, 587, 588, 589, 590, 591, 592, 593, 594, 180, 595, 596, 597, 598, 599, 600, 601, 602, 185, 184, 603, 604, 605, 606, 607, 608, 609, 610, 611, 612, 613, 614, 183, 615, 616, 617, 618, 619, 620, 621, 218, 219, 220, 221, 204, 222, 223, 224, 225, 1309, 1310, 1311, 1312, 1313, 1314, 1315, 1316, 1317, 1318, 1319, 1320, 1321, 1322, 1323, 1324, 1325, 1326, 1327, 1328, 1329, 1330, 1331, 1332, 1333, 1334, 1335, 1336, 1337, 1338, 1339, 1340, 1341, 1342, 1343, 1344, 1345, 1346, 1347, 1348, 1349, 1350, 1351, 1352, 1353, 1354, 1355, 1356, 1357, 1358, 1359, 1360, 1361, 1362, 1363, 1364, 1365, 1366] rfl (by decide +kernel)
set_option maxRecDepth 20000 in
theorem gL_law_X9_supper : GoodIn wsL_law (wsV RL 30 RX9 yX9_supper wsX9_supper) := goodIn_app (goodIn_of _ (by decide +kernel)) ggL_law_X9_supper
set_option maxHeartbeats 4000000 in
set_option maxRecDepth 100000 in
theorem law_case1 {p : Program} {l : Launch} {e : Env} {R : Room} {s : State} {m : MethodId} {args : Array Value} {below : List Frame} {meth : Method} {c : Code} {b : Nat} {xs : Nat → Int32} {Q : State → Prop} {A : Nat → Prop} (hx : p.tables.exec = Jvm.exec) (hb : c.code = code) (hml : c.maxLocals = 7) (hown : s.vm.findClass RL = some m.cls) (hts : ∀ w ∈ wsL_law, w.before args s = true) (hX0 : va_X b 7 xs s s.heap) (hbl : b < s.heap.size) (hbA : ¬ A b) (hA : ∀ q : Nat, s.heap.size ≤ q → A q) (hR : R = room_1) (q1 q2 q3 q4 q5 q6 : Int32) (e1 : xs (Int32.toNatClampNeg 1) = q1) (e2 : xs (Int32.toNatClampNeg 2) = q2) (e3 : xs (Int32.toNatClampNeg 3) = q3) (e4 : xs (Int32.toNatClampNeg 4) = q4) (e5 : xs (Int32.toNatClampNeg 5) = q5) (e6 : xs (Int32.toNatClampNeg 6) = q6) (D : va_G) (k : Nat → ClassId) (hK : va_K D vwCl (tysW k) s) (hE : kz_E s) (oa : Nat) (x : Nat) (tp : Nat) (td : Nat) (dr : Nat) (li : Nat) (x_draftLines : Value) (nw : Nat) (x_trial : Value) (sg : Nat) (pa : Nat) (mk : Nat) (x_drawn : Int64) (tp_signs : Value) (tp_words : Value) (tp_next : Int32) (tp_place : Int32) (tp_kind : Int32) (tp_value : Int32) (tp_letters : Int64) (tp_fault : Int32) (dr_names : Value) (dr_kinds : Value) (dr_yards : Value) (dr_paces : Value) (dr_skills : Value) (dr_snow : Value) (dw : Nat) (dr_guests : Int32) (dr_snows : Int32) (dr_bend : Int32) (dr_hour : Int32) (dr_bendTold : Int32) (dr_hourTold : Int32) (dw_code : Value) (dw_stack : Value) (dw_facts : Value) (dw_length : Int32) (dw_top : Int32) (nw0 : Nat) (nw1 : Nat) (nw2 : Nat) (nw3 : Nat) (nw4 : Nat) (nw5 : Nat) (nw6 : Nat) (nw_inside : Int32) (nw_night : Int32) (nw_minute : Int32) (nw_tasted : Int32) (nw_lastCook : Int32) (nw_stirred : Int32) (nwf0 : Nat → Int32) (nwf1 : Nat → Int32) (nwf2 : Nat → Int32) (nwf3 : Nat → Int32) (nwf4 : Nat → Int32) (nwf5 : Nat → Int32) (nwf6 : Nat → Int32) (li_deeds : Value) (li_guests : Value) (li_wholes : Value) (li_size : Int32) (sg_minutes : Value) (sg_yards : Value) (sg_near : Value) (sg_size : Int32) (pa_kept : Value) (pa_first : Int32) (pa_size : Int32) (mf : Nat → Option Nat) (mk0 : Nat) (mk0_road : Value) (mk0_lines : Value) (mk0_sights : Value) (mk0_laid : Int32) (mk1 : Nat) (mk1_road : Value) (mk1_lines : Value) (mk1_sights : Value) (mk1_laid : Int32) (mk2 : Nat) (mk2_road : Value) (mk2_lines : Value) (mk2_sights : Value) (mk2_laid : Int32) (mk3 : Nat) (mk3_road : Value) (mk3_lines : Value) (mk3_sights : Value) (mk3_laid : Int32) (y : Nat) (y_thrown : Int32) (y_tape : Value) (y_size : Int32) (y_place : Int32) (y_begin : Int32) (y_token : Int32) (y_word : Int64) (y_told : Int32) (y_wrong : Int32) (b_supper : Nat) (b_guestName : Nat) (b_kind : Nat) (b_offTold : Nat) (b_pace : Nat) (b_cooks : Nat) (b_snow : Nat) (b_lineFrom : Nat) (b_lineTo : Nat) (b_codes : Nat) (y_code : Int32) (y_toldLines : Int32) (y_opened : Value) (y_compared : Value) (y_kept : Value) (y_keptBy : Value) (y_ahead : Value) (y_against : Value) (y_sum : Value) (y_sumBy : Value) (y_term : Value) (y_termBy : Value) (y_byNot : Value) (y_valueOf : Value) (y_given : Int32) (b_lines : Nat) (y_lineWhat : Value) (y_lineA : Value) (y_lineB : Value) (b_seens : Nat) (y_seenIn : Value) (y_seenYards : Value) (y_seenNear : Value) (b_s : Nat) (y_aside : Value) (y_before : Value) (y_marked : Value) (y_undone : Value) (b_isLaid : Nat) (y_done : Int32) (y_snowNow : Int32) (y_cameNow : Int32) (y_cookThen : Int32) (y_tasteThen : Int32) (y_places : Value) (y_comesAt : Value) (y_yardsIn : Value) (y_g : Int64) (c_supper : Nat → Int32) (c_guestName : Nat → Int64) (c_kind : Nat → Int32) (c_offTold : Nat → Int32) (c_pace : Nat → Int32) (c_cooks : Nat → Int32) (c_snow : Nat → Int32) (c_codes : Nat → Int32) (c_lineFrom : Nat → Int32) (c_lineTo : Nat → Int32) (c_s : Nat → Int32) (c_lines : Nat → Int32) (c_seens : Nat → Int32) (c_isLaid : Nat → Int32) (hm0 : mf 0 = some mk0) (hm1 : mf 1 = some mk1) (hm2 : mf 2 = some mk2) (hm3 : mf 3 = some mk3) {H : Heap} {locs : List Loc} {ls : Array Slot} (hP : va_P D vwCl [(x, kO 8 [.ref tp, .ref td, .ref dr, .ref li, x_draftLines, .ref nw, x_trial, .ref sg, .ref pa, .ref mk, .long x_drawn]), (tp, kO 6 [tp_signs, tp_words, .int 0, .int tp_next, .int tp_place, .int tp_kind, .int tp_value, .long tp_letters, .int tp_fault]), (dr, kO 7 [dr_names, dr_kinds, dr_yards, dr_paces, dr_skills, dr_snow, .ref dw, .int dr_guests, .int dr_snows, .int dr_bend, .int dr_hour, .int dr_bendTold, .int dr_hourTold]), (dw, kO 0 [dw_code, dw_stack, dw_facts, .int dw_length, .int dw_top]), (nw, kO 4 [.ref nw0, .ref nw1, .ref nw2, .ref nw3, .ref nw4, .ref nw5, .ref nw6, .int nw_inside, .int nw_night, .int nw_minute, .int nw_tasted, .int nw_lastCook, .int nw_stirred]), (nw0, kI k 6 nwf0), (nw1, kI k 6 nwf1), (nw2, kI k 6 nwf2), (nw3, kI k 6 nwf3), (nw4, kI k 6 nwf4), (nw5, kI k 6 nwf5), (nw6, kI k 6 nwf6), (li, kO 1 [li_deeds, li_guests, li_wholes, .int li_size]), (sg, kO 5 [sg_minutes, sg_yards, sg_near, .int sg_size]), (pa, kO 3 [pa_kept, .int pa_first, .int pa_size]), (mk, kM k 4 mf), (mk0, kO 2 [mk0_road, mk0_lines, mk0_sights, .int mk0_laid]), (mk1, kO 2 [mk1_road, mk1_lines, mk1_sights, .int mk1_laid]), (mk2, kO 2 [mk2_road, mk2_lines, mk2_sights, .int mk2_laid]), (mk3, kO 2 [mk3_road, mk3_lines, mk3_sights, .int mk3_laid]), (y, kO 9 [.int y_thrown, .int 0, y_tape, .int y_size, .int y_place, .int y_begin, .int y_token, .long y_word, .int y_told, .int y_wrong, .ref b_supper, .ref b_guestName, .ref b_kind, .ref b_offTold, .ref b_pace, .ref b_cooks, .ref b_snow, .ref b_lineFrom, .ref b_lineTo, .ref b_codes, .int y_code, .int y_toldLines, y_opened, y_compared, y_kept, y_keptBy, y_ahead, y_against, y_sum, y_sumBy, y_term, y_termBy, y_byNot, y_valueOf, .int y_given, .ref b_lines, y_lineWhat, y_lineA, y_lineB, .ref b_seens, y_seenIn, y_seenYards, y_seenNear, .ref b_s, y_aside, y_before, y_marked, y_undone, .ref b_isLaid, .int y_done, .int y_snowNow, .int y_cameNow, .int y_cookThen, .int y_tasteThen, y_places, y_comesAt, y_yardsIn, .long y_g]), (b_supper, kI k 8 c_supper), (b_guestName, kJ k 12 c_guestName), (b_kind, kI k 12 c_kind), (b_offTold, kI k 12 c_offTold), (b_pace, kI k 12 c_pace), (b_cooks, kI k 12 c_cooks), (b_snow, kI k 24 c_snow), (b_codes, kI k 2000 c_codes), (b_lineFrom, kI k 2 c_lineFrom), (b_lineTo, kI k 2 c_lineTo), (b_s, kI k 46 c_s), (b_lines, kI k 6 c_lines), (b_seens, kI k 5 c_seens), (b_isLaid, kZ k 4 c_isLaid)] H) (hD : va_D A [(x, kO 8 [.ref tp, .ref td, .ref dr, .ref li, x_draftLines, .ref nw, x_trial, .ref sg, .ref pa, .ref mk, .long x_drawn]), (tp, kO 6 [tp_signs, tp_words, .int 0, .int tp_next, .int tp_place, .int tp_kind, .int tp_value, .long tp_letters, .int tp_fault]), (dr, kO 7 [dr_names, dr_kinds, dr_yards, dr_paces, dr_skills, dr_snow, .ref dw, .int dr_guests, .int dr_snows, .int dr_bend, .int dr_hour, .int dr_bendTold, .int dr_hourTold]), (dw, kO 0 [dw_code, dw_stack, dw_facts, .int dw_length, .int dw_top]), (nw, kO 4 [.ref nw0, .ref nw1, .ref nw2, .ref nw3, .ref nw4, .ref nw5, .ref nw6, .int nw_inside, .int nw_night, .int nw_minute, .int nw_tasted, .int nw_lastCook, .int nw_stirred]), (nw0, kI k 6 nwf0), (nw1, kI k 6 nwf1), (nw2, kI k 6 nwf2), (nw3, kI k 6 nwf3), (nw4, kI k 6 nwf4), (nw5, kI k 6 nwf5), (nw6, kI k 6 nwf6), (li, kO 1 [li_deeds, li_guests, li_wholes, .int li_size]), (sg, kO 5 [sg_minutes, sg_yards, sg_near, .int sg_size]), (pa, kO 3 [pa_kept, .int pa_first, .int pa_size]), (mk, kM k 4 mf), (mk0, kO 2 [mk0_road, mk0_lines, mk0_sights, .int mk0_laid]), (mk1, kO 2 [mk1_road, mk1_lines, mk1_sights, .int mk1_laid]), (mk2, kO 2 [mk2_road, mk2_lines, mk2_sights, .int mk2_laid]), (mk3, kO 2 [mk3_road, mk3_lines, mk3_sights, .int mk3_laid]), (y, kO 9 [.int y_thrown, .int 0, y_tape, .int y_size, .int y_place, .int y_begin, .int y_token, .long y_word, .int y_told, .int y_wrong, .ref b_supper, .ref b_guestName, .ref b_kind, .ref b_offTold, .ref b_pace, .ref b_cooks, .ref b_snow, .ref b_lineFrom, .ref b_lineTo, .ref b_codes, .int y_code, .int y_toldLines, y_opened, y_compared, y_kept, y_keptBy, y_ahead, y_against, y_sum, y_sumBy, y_term, y_termBy, y_byNot, y_valueOf, .int y_given, .ref b_lines, y_lineWhat, y_lineA, y_lineB, .ref b_seens, y_seenIn, y_seenYards, y_seenNear, .ref b_s, y_aside, y_before, y_marked, y_undone, .ref b_isLaid, .int y_done, .int y_snowNow, .int y_cameNow, .int y_cookThen, .int y_tasteThen, y_places, y_comesAt, y_yardsIn, .long y_g]), (b_supper, kI k 8 c_supper), (b_guestName, kJ k 12 c_guestName), (b_kind, kI k 12 c_kind), (b_offTold, kI k 12 c_offTold), (b_pace, kI k 12 c_pace), (b_cooks, kI k 12 c_cooks), (b_snow, kI k 24 c_snow), (b_codes, kI k 2000 c_codes), (b_lineFrom, kI k 2 c_lineFrom), (b_lineTo, kI k 2 c_lineTo), (b_s, kI k 46 c_s), (b_lines, kI k 6 c_lines), (b_seens, kI k 5 c_seens), (b_isLaid, kZ k 4 c_isLaid)]) (hS : va_S A s.heap H locs) (hl : lv_has ls 7 [(4, .int 0), (3, .ref oa), (2, .ref y), (1, .ref x), (0, .ref b)]) (tail : ∀ (H : Heap) (locs : List Loc) (ls : Array Slot), va_S A s.heap H locs → lv_has ls 7 [(4, .int 0), (0, .ref b)] → W p l e R s m args below meth c H locs 295 10895 Q (F0 m 1258 ls [])) : W p l e R s m args below meth c H locs 295 10895 Q (F0 m 335 ls []) := by
  refine lv_aload_n hx hb dL_law_335 rfl (lv_at hl 3 rfl) ?_
  refine kz_Vi (As := []) (rest := []) (wc := [(x, kO 8 [.ref tp, .ref td, .ref dr, .ref li, x_draftLines, .ref nw, x_trial, .ref sg, .ref pa, .ref mk, .long x_drawn]), (tp, kO 6 [tp_signs, tp_words, .int 0, .int tp_next, .int tp_place, .int tp_kind, .int tp_value, .long tp_letters, .int tp_fault]), (dr, kO 7 [dr_names, dr_kinds, dr_yards, dr_paces, dr_skills, dr_snow, .ref dw, .int dr_guests, .int dr_snows, .int dr_bend, .int dr_hour, .int dr_bendTold, .int dr_hourTold]), (dw, kO 0 [dw_code, dw_stack, dw_facts, .int dw_length, .int dw_top]), (nw, kO 4 [.ref nw0, .ref nw1, .ref nw2, .ref nw3, .ref nw4, .ref nw5, .ref nw6, .int nw_inside, .int nw_night, .int nw_minute, .int nw_tasted, .int nw_lastCook, .int nw_stirred]), (nw0, kI k 6 nwf0), (nw1, kI k 6 nwf1), (nw2, kI k 6 nwf2), (nw3, kI k 6 nwf3), (nw4, kI k 6 nwf4), (nw5, kI k 6 nwf5), (nw6, kI k 6 nwf6), (li, kO 1 [li_deeds, li_guests, li_wholes, .int li_size]), (sg, kO 5 [sg_minutes, sg_yards, sg_near, .int sg_size]), (pa, kO 3 [pa_kept, .int pa_first, .int pa_size]), (mk, kM k 4 mf), (mk0, kO 2 [mk0_road, mk0_lines, mk0_sights, .int mk0_laid]), (mk1, kO 2 [mk1_road, mk1_lines, mk1_sights, .int mk1_laid]), (mk2, kO 2 [mk2_road, mk2_lines, mk2_sights, .int mk2_laid]), (mk3, kO 2 [mk3_road, mk3_lines, mk3_sights, .int mk3_laid])]) (wr := [(y, kO 9 [.int y_thrown, .int 0, y_tape, .int y_size, .int y_place, .int y_begin, .int y_token, .long y_word, .int y_told, .int y_wrong, .ref b_supper, .ref b_guestName, .ref b_kind, .ref b_offTold, .ref b_pace, .ref b_cooks, .ref b_snow, .ref b_lineFrom, .ref b_lineTo, .ref b_codes, .int y_code, .int y_toldLines, y_opened, y_compared, y_kept, y_keptBy, y_ahead, y_against, y_sum, y_sumBy, y_term, y_termBy, y_byNot, y_valueOf, .int y_given, .ref b_lines, y_lineWhat, y_lineA, y_lineB, .ref b_seens, y_seenIn, y_seenYards, y_seenNear, .ref b_s, y_aside, y_before, y_marked, y_undone, .ref b_isLaid, .int y_done, .int y_snowNow, .int y_cameNow, .int y_cookThen, .int y_tasteThen, y_places, y_comesAt, y_yardsIn, .long y_g]), (b_supper, kI k 8 c_supper), (b_guestName, kJ k 12 c_guestName), (b_kind, kI k 12 c_kind), (b_offTold, kI k 12 c_offTold), (b_pace, kI k 12 c_pace), (b_cooks, kI k 12 c_cooks), (b_snow, kI k 24 c_snow), (b_codes, kI k 2000 c_codes), (b_lineFrom, kI k 2 c_lineFrom), (b_lineTo, kI k 2 c_lineTo), (b_s, kI k 46 c_s), (b_lines, kI k 6 c_lines), (b_seens, kI k 5 c_seens), (b_isLaid, kZ k 4 c_isLaid)]) ⟨hx, hb, hml, hown, hts⟩ hK hE hP hD hS hA (mX8_supper l D k H.size x tp td dr li x_draftLines nw x_trial sg pa mk x_drawn tp_signs tp_words tp_next tp_place tp_kind tp_value tp_letters tp_fault dr_names dr_kinds dr_yards dr_paces dr_skills dr_snow dw dr_guests dr_snows dr_bend dr_hour dr_bendTold dr_hourTold dw_code dw_stack dw_facts dw_length dw_top nw0 nw1 nw2 nw3 nw4 nw5 nw6 nw_inside nw_night nw_minute nw_tasted nw_lastCook nw_stirred nwf0 nwf1 nwf2 nwf3 nwf4 nwf5 nwf6 li_deeds li_guests li_wholes li_size sg_minutes sg_yards sg_near sg_size pa_kept pa_first pa_size mf mk0 mk0_road mk0_lines mk0_sights mk0_laid mk1 mk1_road mk1_lines mk1_sights mk1_laid mk2 mk2_road mk2_lines mk2_sights mk2_laid mk3 mk3_road mk3_lines mk3_sights mk3_laid hm0 hm1 hm2 hm3) (cwV 0 hts gL_law_X8_supper rfl rfl rfl (by decide +kernel) (by rw [hR]; exact ⟨Nat.le_of_ble_eq_true rfl, Nat.le_of_ble_eq_true rfl⟩)) [0, 1, 2, 3, 4, 5, 6, 7, 8, 9, 10, 11, 12, 13, 14, 15, 16, 17, 18, 19] [20, 21, 22, 23, 24, 25, 26, 27, 28, 29, 30, 31, 32, 33, 34] rfl rfl (by decide) (by decide) (by decide) 0 rfl rfl rfl hl.1 rfl (Nat.le_of_ble_eq_true rfl) dL_law_336 (by rw [hR]; exact ⟨Nat.le_of_ble_eq_true rfl, Nat.le_of_ble_eq_true rfl⟩) (fun r1 u1 H locs hw1 hP hD hS => ?_)
  try dsimp only at hw1
  obtain rfl : r1 = 0 := hw1
  have hP : va_P D vwCl [(y, kO 9 [.int y_thrown, .int 0, y_tape, .int y_size, .int y_place, .int y_begin, .int y_token, .long y_word, .int y_told, .int y_wrong, .ref b_supper, .ref b_guestName, .ref b_kind, .ref b_offTold, .ref b_pace, .ref b_cooks, .ref b_snow, .ref b_lineFrom, .ref b_lineTo, .ref b_codes, .int y_code, .int y_toldLines, y_opened, y_compared, y_kept, y_keptBy, y_ahead, y_against, y_sum, y_sumBy, y_term, y_termBy, y_byNot, y_valueOf, .int y_given, .ref b_lines, y_lineWhat, y_lineA, y_lineB, .ref b_seens, y_seenIn, y_seenYards, y_seenNear, .ref b_s, y_aside, y_before, y_marked, y_undone, .ref b_isLaid, .int y_done, .int y_snowNow, .int y_cameNow, .int y_cookThen, .int y_tasteThen, y_places, y_comesAt, y_yardsIn, .long y_g]), (b_supper, kI k 8 c_supper), (b_guestName, kJ k 12 c_guestName), (b_kind, kI k 12 c_kind), (b_offTold, kI k 12 c_offTold), (b_pace, kI k 12 c_pace), (b_cooks, kI k 12 c_cooks), (b_snow, kI k 24 c_snow), (b_codes, kI k 2000 c_codes), (b_lineFrom, kI k 2 c_lineFrom), (b_lineTo, kI k 2 c_lineTo), (b_s, kI k 46 c_s), (b_lines, kI k 6 c_lines), (b_seens, kI k 5 c_seens), (b_isLaid, kZ k 4 c_isLaid)] H := hP
  have hD : va_D A [(y, kO 9 [.int y_thrown, .int 0, y_tape, .int y_size, .int y_place, .int y_begin, .int y_token, .long y_word, .int y_told, .int y_wrong, .ref b_supper, .ref b_guestName, .ref b_kind, .ref b_offTold, .ref b_pace, .ref b_cooks, .ref b_snow, .ref b_lineFrom, .ref b_lineTo, .ref b_codes, .int y_code, .int y_toldLines, y_opened, y_compared, y_kept, y_keptBy, y_ahead, y_against, y_sum, y_sumBy, y_term, y_termBy, y_byNot, y_valueOf, .int y_given, .ref b_lines, y_lineWhat, y_lineA, y_lineB, .ref b_seens, y_seenIn, y_seenYards, y_seenNear, .ref b_s, y_aside, y_before, y_marked, y_undone, .ref b_isLaid, .int y_done, .int y_snowNow, .int y_cameNow, .int y_cookThen, .int y_tasteThen, y_places, y_comesAt, y_yardsIn, .long y_g]), (b_supper, kI k 8 c_supper), (b_guestName, kJ k 12 c_guestName), (b_kind, kI k 12 c_kind), (b_offTold, kI k 12 c_offTold), (b_pace, kI k 12 c_pace), (b_cooks, kI k 12 c_cooks), (b_snow, kI k 24 c_snow), (b_codes, kI k 2000 c_codes), (b_lineFrom, kI k 2 c_lineFrom), (b_lineTo, kI k 2 c_lineTo), (b_s, kI k 46 c_s), (b_lines, kI k 6 c_lines), (b_seens, kI k 5 c_seens), (b_isLaid, kZ k 4 c_isLaid)] := hD
  refine lv_aload_n hx hb dL_law_339 rfl (lv_at hl 2 rfl) ?_
  refine kz_Vi (As := []) (rest := [.int 0]) (wc := [(y, kO 9 [.int y_thrown, .int 0, y_tape, .int y_size, .int y_place, .int y_begin, .int y_token, .long y_word, .int y_told, .int y_wrong, .ref b_supper, .ref b_guestName, .ref b_kind, .ref b_offTold, .ref b_pace, .ref b_cooks, .ref b_snow, .ref b_lineFrom, .ref b_lineTo, .ref b_codes, .int y_code, .int y_toldLines, y_opened, y_compared, y_kept, y_keptBy, y_ahead, y_against, y_sum, y_sumBy, y_term, y_termBy, y_byNot, y_valueOf, .int y_given, .ref b_lines, y_lineWhat, y_lineA, y_lineB, .ref b_seens, y_seenIn, y_seenYards, y_seenNear, .ref b_s, y_aside, y_before, y_marked, y_undone, .ref b_isLaid, .int y_done, .int y_snowNow, .int y_cameNow, .int y_cookThen, .int y_tasteThen, y_places, y_comesAt, y_yardsIn, .long y_g]), (b_supper, kI k 8 c_supper), (b_guestName, kJ k 12 c_guestName), (b_kind, kI k 12 c_kind), (b_offTold, kI k 12 c_offTold), (b_pace, kI k 12 c_pace), (b_cooks, kI k 12 c_cooks), (b_snow, kI k 24 c_snow), (b_codes, kI k 2000 c_codes), (b_lineFrom, kI k 2 c_lineFrom), (b_lineTo, kI k 2 c_lineTo), (b_s, kI k 46 c_s), (b_lines, kI k 6 c_lines), (b_seens, kI k 5 c_seens), (b_isLaid, kZ k 4 c_isLaid)]) (wr := []) ⟨hx, hb, hml, hown, hts⟩ hK hE hP hD hS hA (mX9_supper l D k H.size y y_thrown y_tape y_size y_place y_begin y_token y_word y_told y_wrong b_supper b_guestName b_kind b_offTold b_pace b_cooks b_snow b_lineFrom b_lineTo b_codes y_code y_toldLines y_opened y_compared y_kept y_keptBy y_ahead y_against y_sum y_sumBy y_term y_termBy y_byNot y_valueOf y_given b_lines y_lineWhat y_lineA y_lineB b_seens y_seenIn y_seenYards y_seenNear b_s y_aside y_before y_marked y_undone b_isLaid y_done y_snowNow y_cameNow y_cookThen y_tasteThen y_places y_comesAt y_yardsIn y_g c_supper c_guestName c_kind c_offTold c_pace c_cooks c_snow c_codes c_lineFrom c_lineTo c_s c_lines c_seens c_isLaid) (cwV 0 hts gL_law_X9_supper rfl rfl rfl (by decide +kernel) (by rw [hR]; exact ⟨Nat.le_of_ble_eq_true rfl, Nat.le_of_ble_eq_true rfl⟩)) [0, 1, 2, 3, 4, 5, 6, 7, 8, 9, 10, 11, 12, 13, 14] [] rfl rfl (by decide) (by decide) (by decide) 0 rfl rfl rfl hl.1 rfl (Nat.le_of_ble_eq_true rfl) dL_law_340 (by rw [hR]; exact ⟨Nat.le_of_ble_eq_true rfl, Nat.le_of_ble_eq_true rfl⟩) (fun r2 u2 H locs hw2 hP hD hS => ?_)
  try dsimp only at hw2
  obtain rfl : r2 = 0 := hw2
  have hP : va_P D vwCl [] H := hP
  have hD : va_D A [] := hD
  refine lv_icmp_eq (tgt := 1258) hx hb dL_law_343 (by decide) (fun c_3 => ?_) (fun c_3 => absurd rfl c_3)
  exact tail _ _ _ hS (lv_sub hl [0, 4] rfl)
theorem dL_law_348 : decode cL_law 348 = .ok (.aload_n 1, 1) := by decide +kernel
theorem dL_law_349 : decode cL_law 349 = .ok (.invokevirtual 31, 3) := by decide +kernel
theorem dL_law_352 : decode cL_law 352 = .ok (.aload_n 2, 1) := by decide +kernel
theorem dL_law_353 : decode cL_law 353 = .ok (.invokevirtual 34, 3) := by decide +kernel
theorem dL_law_356 : decode cL_law 356 = .ok (.if_icmp .eq 902, 3) := by decide +kernel
set_option maxRecDepth 20000 in
theorem ggL_law_X8_night : GoodIn wsL_law wsX8_night := goodIn_r _ [625, 17, 27, 21, 248, 26, 249, 250, 251, 16, 252, 253, 254, 255, 256, 257, 258, 236, 50, 259, 260, 261, 101, 102, 103, 262, 263, 264, 265, 266, 51, 104, 105, 106, 107, 267, 268, 269, 270, 271, 272, 273, 274, 275, 276, 55, 277, 278, 279, 280, 281, 57, 68, 69, 70, 71, 62, 63, 282, 53, 54, 56, 58, 59, 60, 61, 283, 284, 74, 285, 286, 287, 288, 289, 290, 291, 292, 293, 294, 295, 296, 297, 298, 299, 300, 86, 301, 302, 303, 304, 305, 306, 307, 308, 309, 310, 91, 92, 93, 311, 312, 313, 79, 314, 315, 82, 316, 317, 318, 319, 95, 96, 97, 98, 99, 100, 320, 321, 322, 323, 324, 325, 326, 327, 328, 329, 330, 331, 332, 333, 334, 626, 627, 628, 25, 629, 630, 482, 483, 484, 485, 631, 353, 354, 355, 632, 633, 634, 635, 133, 134, 135, 636, 357, 358, 359, 637, 366, 367, 368, 638, 639, 640, 641, 642, 643, 371, 372, 373, 644, 375, 376, 20, 377, 343, 111, 645, 646, 647, 648, 649, 391, 392, 393, 394, 395, 396, 397, 389, 398, 2, 399, 650, 452, 453, 454, 455, 436, 437, 438, 457, 458, 459, 460, 1298, 1299, 1300, 1301, 1302, 1303, 1304, 1305, 1306, 1307, 1308, 1367, 1368, 1369, 1370, 1371, 1372, 1373, 1374, 1375, 1389, 1390, 1391, 1392, 1376, 1377, 1378, 1379, 1380, 1381, 1382, 1383, 1384, 1385, 1386, 1387, 1388] rfl (by decide +kernel)
set_option maxRecDepth 20000 in
theorem gL_law_X8_night : GoodIn wsL_law (wsV RL 31 RX8 yX8_night wsX8_night) := goodIn_app (goodIn_of _ (by decide +kernel)) ggL_law_X8_night
set_option maxRecDepth 20000 in
theorem ggL_law_X9_night : GoodIn wsL_law wsX9_night := goodIn_r _ [654, 241, 196, 508, 500, 514, 515, 516, 5, 517, 243, 518, 519, 520, 521, 522, 523, 173, 524, 525, 526, 527, 528, 529, 530, 531, 532, 655, 656, 657, 658, 557, 558, 559, 560, 197, 198, 546, 199, 533, 534, 535, 536, 549, 550, 551, 552, 659, 660, 661, 662, 553, 554, 555, 556, 509, 545, 547, 548, 510, 511, 512, 513, 541, 542, 543, 544, 561, 562, 563, 564, 565, 566, 567, 174, 175, 572, 573, 574, 575, 576, 577, 578, 579, 580, 581, 582, 583, 584, 585, 586, 663, 664, 665, 666, 1309, 1310, 1311, 1312, 1313, 1314, 1315, 1316, 1317, 1318, 1319, 1320, 1321, 1322, 1323, 1324, 1325, 1326, 1327, 1328, 1329, 1330, 1331, 1332, 1333, 1334, 1335, 1336, 1337, 1338, 1339, 1340, 1341, 1342, 1343, 1344, 1345, 1346, 1347, 1348, 1349, 1350, 1351, 1352, 1353, 1354, 1355, 1356, 1357, 1358, 1359, 1360, 1361, 1362, 1363, 1364, 1365, 1366] rfl (by decide +kernel)
set_option maxRecDepth 20000 in
theorem gL_law_X9_night : GoodIn wsL_law (wsV RL 34 RX9 yX9_night wsX9_night) := goodIn_app (goodIn_of _ (by decide +kernel)) ggL_law_X9_night
set_option maxHeartbeats 4000000 in
set_option maxRecDepth 100000 in
theorem law_case2 {p : Program} {l : Launch} {e : Env} {R : Room} {s : State} {m : MethodId} {args : Array Value} {below : List Frame} {meth : Method} {c : Code} {b : Nat} {xs : Nat → Int32} {Q : State → Prop} {A : Nat → Prop} (hx : p.tables.exec = Jvm.exec) (hb : c.code = code) (hml : c.maxLocals = 7) (hown : s.vm.findClass RL = some m.cls) (hts : ∀ w ∈ wsL_law, w.before args s = true) (hX0 : va_X b 7 xs s s.heap) (hbl : b < s.heap.size) (hbA : ¬ A b) (hA : ∀ q : Nat, s.heap.size ≤ q → A q) (hR : R = room_1) (q1 q2 q3 q4 q5 q6 : Int32) (e1 : xs (Int32.toNatClampNeg 1) = q1) (e2 : xs (Int32.toNatClampNeg 2) = q2) (e3 : xs (Int32.toNatClampNeg 3) = q3) (e4 : xs (Int32.toNatClampNeg 4) = q4) (e5 : xs (Int32.toNatClampNeg 5) = q5) (e6 : xs (Int32.toNatClampNeg 6) = q6) (D : va_G) (k : Nat → ClassId) (hK : va_K D vwCl (tysW k) s) (hE : kz_E s) (oa : Nat) (x : Nat) (tp : Nat) (td : Nat) (x_draft : Value) (li : Nat) (dl : Nat) (x_now : Value) (x_trial : Value) (x_sights : Value) (x_past : Value) (x_marks : Value) (x_drawn : Int64) (tp_signs : Value) (tp_words : Value) (tp_next : Int32) (tp_place : Int32) (tp_kind : Int32) (tp_value : Int32) (tp_letters : Int64) (tp_fault : Int32) (dl_deeds : Value) (dl_guests : Value) (dl_wholes : Value) (dl_size : Int32) (y : Nat) (y_thrown : Int32) (y_tape : Value) (y_size : Int32) (y_place : Int32) (y_begin : Int32) (y_token : Int32) (y_word : Int64) (y_told : Int32) (y_wrong : Int32) (y_supper : Value) (y_guestName : Value) (y_kind : Value) (y_offTold : Value) (y_pace : Value) (y_cooks : Value) (y_snow : Value) (y_lineFrom : Value) (y_lineTo : Value) (y_codes : Value) (y_code : Int32) (y_toldLines : Int32) (y_opened : Value) (y_compared : Value) (y_kept : Value) (y_keptBy : Value) (y_ahead : Value) (y_against : Value) (y_sum : Value) (y_sumBy : Value) (y_term : Value) (y_termBy : Value) (y_byNot : Value) (y_valueOf : Value) (y_given : Int32) (b_lines : Nat) (b_lineWhat : Nat) (b_lineA : Nat) (b_lineB : Nat) (y_seens : Value) (y_seenIn : Value) (y_seenYards : Value) (y_seenNear : Value) (y_s : Value) (y_aside : Value) (y_before : Value) (y_marked : Value) (y_undone : Value) (y_isLaid : Value) (y_done : Int32) (y_snowNow : Int32) (y_cameNow : Int32) (y_cookThen : Int32) (y_tasteThen : Int32) (y_places : Value) (y_comesAt : Value) (y_yardsIn : Value) (y_g : Int64) (c_lines : Nat → Int32) (c_lineWhat : Nat → Int32) (c_lineA : Nat → Int32) (c_lineB : Nat → Int32) {H : Heap} {locs : List Loc} {ls : Array Slot} (hP : va_P D vwCl [(x, kO 8 [.ref tp, .ref td, x_draft, .ref li, .ref dl, x_now, x_trial, x_sights, x_past, x_marks, .long x_drawn]), (tp, kO 6 [tp_signs, tp_words, .int 0, .int tp_next, .int tp_place, .int tp_kind, .int tp_value, .long tp_letters, .int tp_fault]), (dl, kO 1 [dl_deeds, dl_guests, dl_wholes, .int dl_size]), (y, kO 9 [.int y_thrown, .int 0, y_tape, .int y_size, .int y_place, .int y_begin, .int y_token, .long y_word, .int y_told, .int y_wrong, y_supper, y_guestName, y_kind, y_offTold, y_pace, y_cooks, y_snow, y_lineFrom, y_lineTo, y_codes, .int y_code, .int y_toldLines, y_opened, y_compared, y_kept, y_keptBy, y_ahead, y_against, y_sum, y_sumBy, y_term, y_termBy, y_byNot, y_valueOf, .int y_given, .ref b_lines, .ref b_lineWhat, .ref b_lineA, .ref b_lineB, y_seens, y_seenIn, y_seenYards, y_seenNear, y_s, y_aside, y_before, y_marked, y_undone, y_isLaid, .int y_done, .int y_snowNow, .int y_cameNow, .int y_cookThen, .int y_tasteThen, y_places, y_comesAt, y_yardsIn, .long y_g]), (b_lines, kI k 6 c_lines), (b_lineWhat, kI k 240 c_lineWhat), (b_lineA, kI k 240 c_lineA), (b_lineB, kI k 240 c_lineB)] H) (hD : va_D A [(x, kO 8 [.ref tp, .ref td, x_draft, .ref li, .ref dl, x_now, x_trial, x_sights, x_past, x_marks, .long x_drawn]), (tp, kO 6 [tp_signs, tp_words, .int 0, .int tp_next, .int tp_place, .int tp_kind, .int tp_value, .long tp_letters, .int tp_fault]), (dl, kO 1 [dl_deeds, dl_guests, dl_wholes, .int dl_size]), (y, kO 9 [.int y_thrown, .int 0, y_tape, .int y_size, .int y_place, .int y_begin, .int y_token, .long y_word, .int y_told, .int y_wrong, y_supper, y_guestName, y_kind, y_offTold, y_pace, y_cooks, y_snow, y_lineFrom, y_lineTo, y_codes, .int y_code, .int y_toldLines, y_opened, y_compared, y_kept, y_keptBy, y_ahead, y_against, y_sum, y_sumBy, y_term, y_termBy, y_byNot, y_valueOf, .int y_given, .ref b_lines, .ref b_lineWhat, .ref b_lineA, .ref b_lineB, y_seens, y_seenIn, y_seenYards, y_seenNear, y_s, y_aside, y_before, y_marked, y_undone, y_isLaid, .int y_done, .int y_snowNow, .int y_cameNow, .int y_cookThen, .int y_tasteThen, y_places, y_comesAt, y_yardsIn, .long y_g]), (b_lines, kI k 6 c_lines), (b_lineWhat, kI k 240 c_lineWhat), (b_lineA, kI k 240 c_lineA), (b_lineB, kI k 240 c_lineB)]) (hS : va_S A s.heap H locs) (hl : lv_has ls 7 [(4, .int 0), (3, .ref oa), (2, .ref y), (1, .ref x), (0, .ref b)]) (tail : ∀ (H : Heap) (locs : List Loc) (ls : Array Slot), va_S A s.heap H locs → lv_has ls 7 [(4, .int 0), (0, .ref b)] → W p l e R s m args below meth c H locs 295 10895 Q (F0 m 1258 ls [])) : W p l e R s m args below meth c H locs 295 10895 Q (F0 m 348 ls []) := by
  refine lv_aload_n hx hb dL_law_348 rfl (lv_at hl 3 rfl) ?_
  refine kz_Vi (As := []) (rest := []) (wc := [(x, kO 8 [.ref tp, .ref td, x_draft, .ref li, .ref dl, x_now, x_trial, x_sights, x_past, x_marks, .long x_drawn]), (tp, kO 6 [tp_signs, tp_words, .int 0, .int tp_next, .int tp_place, .int tp_kind, .int tp_value, .long tp_letters, .int tp_fault]), (dl, kO 1 [dl_deeds, dl_guests, dl_wholes, .int dl_size])]) (wr := [(y, kO 9 [.int y_thrown, .int 0, y_tape, .int y_size, .int y_place, .int y_begin, .int y_token, .long y_word, .int y_told, .int y_wrong, y_supper, y_guestName, y_kind, y_offTold, y_pace, y_cooks, y_snow, y_lineFrom, y_lineTo, y_codes, .int y_code, .int y_toldLines, y_opened, y_compared, y_kept, y_keptBy, y_ahead, y_against, y_sum, y_sumBy, y_term, y_termBy, y_byNot, y_valueOf, .int y_given, .ref b_lines, .ref b_lineWhat, .ref b_lineA, .ref b_lineB, y_seens, y_seenIn, y_seenYards, y_seenNear, y_s, y_aside, y_before, y_marked, y_undone, y_isLaid, .int y_done, .int y_snowNow, .int y_cameNow, .int y_cookThen, .int y_tasteThen, y_places, y_comesAt, y_yardsIn, .long y_g]), (b_lines, kI k 6 c_lines), (b_lineWhat, kI k 240 c_lineWhat), (b_lineA, kI k 240 c_lineA), (b_lineB, kI k 240 c_lineB)]) ⟨hx, hb, hml, hown, hts⟩ hK hE hP hD hS hA (mX8_night l D k H.size x tp td x_draft li dl x_now x_trial x_sights x_past x_marks x_drawn tp_signs tp_words tp_next tp_place tp_kind tp_value tp_letters tp_fault dl_deeds dl_guests dl_wholes dl_size) (cwV 0 hts gL_law_X8_night rfl rfl rfl (by decide +kernel) (by rw [hR]; exact ⟨Nat.le_of_ble_eq_true rfl, Nat.le_of_ble_eq_true rfl⟩)) [0, 1, 2] [3, 4, 5, 6, 7] rfl rfl (by decide) (by decide) (by decide) 0 rfl rfl rfl hl.1 rfl (Nat.le_of_ble_eq_true rfl) dL_law_349 (by rw [hR]; exact ⟨Nat.le_of_ble_eq_true rfl, Nat.le_of_ble_eq_true rfl⟩) (fun r1 u1 H locs hw1 hP hD hS => ?_)
  try dsimp only at hw1
  obtain rfl : r1 = 0 := hw1
  have hP : va_P D vwCl [(y, kO 9 [.int y_thrown, .int 0, y_tape, .int y_size, .int y_place, .int y_begin, .int y_token, .long y_word, .int y_told, .int y_wrong, y_supper, y_guestName, y_kind, y_offTold, y_pace, y_cooks, y_snow, y_lineFrom, y_lineTo, y_codes, .int y_code, .int y_toldLines, y_opened, y_compared, y_kept, y_keptBy, y_ahead, y_against, y_sum, y_sumBy, y_term, y_termBy, y_byNot, y_valueOf, .int y_given, .ref b_lines, .ref b_lineWhat, .ref b_lineA, .ref b_lineB, y_seens, y_seenIn, y_seenYards, y_seenNear, y_s, y_aside, y_before, y_marked, y_undone, y_isLaid, .int y_done, .int y_snowNow, .int y_cameNow, .int y_cookThen, .int y_tasteThen, y_places, y_comesAt, y_yardsIn, .long y_g]), (b_lines, kI k 6 c_lines), (b_lineWhat, kI k 240 c_lineWhat), (b_lineA, kI k 240 c_lineA), (b_lineB, kI k 240 c_lineB)] H := hP
  have hD : va_D A [(y, kO 9 [.int y_thrown, .int 0, y_tape, .int y_size, .int y_place, .int y_begin, .int y_token, .long y_word, .int y_told, .int y_wrong, y_supper, y_guestName, y_kind, y_offTold, y_pace, y_cooks, y_snow, y_lineFrom, y_lineTo, y_codes, .int y_code, .int y_toldLines, y_opened, y_compared, y_kept, y_keptBy, y_ahead, y_against, y_sum, y_sumBy, y_term, y_termBy, y_byNot, y_valueOf, .int y_given, .ref b_lines, .ref b_lineWhat, .ref b_lineA, .ref b_lineB, y_seens, y_seenIn, y_seenYards, y_seenNear, y_s, y_aside, y_before, y_marked, y_undone, y_isLaid, .int y_done, .int y_snowNow, .int y_cameNow, .int y_cookThen, .int y_tasteThen, y_places, y_comesAt, y_yardsIn, .long y_g]), (b_lines, kI k 6 c_lines), (b_lineWhat, kI k 240 c_lineWhat), (b_lineA, kI k 240 c_lineA), (b_lineB, kI k 240 c_lineB)] := hD
  refine lv_aload_n hx hb dL_law_352 rfl (lv_at hl 2 rfl) ?_
  refine kz_Vi (As := []) (rest := [.int 0]) (wc := [(y, kO 9 [.int y_thrown, .int 0, y_tape, .int y_size, .int y_place, .int y_begin, .int y_token, .long y_word, .int y_told, .int y_wrong, y_supper, y_guestName, y_kind, y_offTold, y_pace, y_cooks, y_snow, y_lineFrom, y_lineTo, y_codes, .int y_code, .int y_toldLines, y_opened, y_compared, y_kept, y_keptBy, y_ahead, y_against, y_sum, y_sumBy, y_term, y_termBy, y_byNot, y_valueOf, .int y_given, .ref b_lines, .ref b_lineWhat, .ref b_lineA, .ref b_lineB, y_seens, y_seenIn, y_seenYards, y_seenNear, y_s, y_aside, y_before, y_marked, y_undone, y_isLaid, .int y_done, .int y_snowNow, .int y_cameNow, .int y_cookThen, .int y_tasteThen, y_places, y_comesAt, y_yardsIn, .long y_g]), (b_lines, kI k 6 c_lines), (b_lineWhat, kI k 240 c_lineWhat), (b_lineA, kI k 240 c_lineA), (b_lineB, kI k 240 c_lineB)]) (wr := []) ⟨hx, hb, hml, hown, hts⟩ hK hE hP hD hS hA (mX9_night l D k H.size y y_thrown y_tape y_size y_place y_begin y_token y_word y_told y_wrong y_supper y_guestName y_kind y_offTold y_pace y_cooks y_snow y_lineFrom y_lineTo y_codes y_code y_toldLines y_opened y_compared y_kept y_keptBy y_ahead y_against y_sum y_sumBy y_term y_termBy y_byNot y_valueOf y_given b_lines b_lineWhat b_lineA b_lineB y_seens y_seenIn y_seenYards y_seenNear y_s y_aside y_before y_marked y_undone y_isLaid y_done y_snowNow y_cameNow y_cookThen y_tasteThen y_places y_comesAt y_yardsIn y_g c_lines c_lineWhat c_lineA c_lineB) (cwV 0 hts gL_law_X9_night rfl rfl rfl (by decide +kernel) (by rw [hR]; exact ⟨Nat.le_of_ble_eq_true rfl, Nat.le_of_ble_eq_true rfl⟩)) [0, 1, 2, 3, 4] [] rfl rfl (by decide) (by decide) (by decide) 0 rfl rfl rfl hl.1 rfl (Nat.le_of_ble_eq_true rfl) dL_law_353 (by rw [hR]; exact ⟨Nat.le_of_ble_eq_true rfl, Nat.le_of_ble_eq_true rfl⟩) (fun r2 u2 H locs hw2 hP hD hS => ?_)
  try dsimp only at hw2
  obtain rfl : r2 = 0 := hw2
  have hP : va_P D vwCl [] H := hP
  have hD : va_D A [] := hD
  refine lv_icmp_eq (tgt := 1258) hx hb dL_law_356 (by decide) (fun c_3 => ?_) (fun c_3 => absurd rfl c_3)
  exact tail _ _ _ hS (lv_sub hl [0, 4] rfl)
theorem dL_law_361 : decode cL_law 361 = .ok (.aload_n 1, 1) := by decide +kernel
theorem dL_law_362 : decode cL_law 362 = .ok (.aload_n 0, 1) := by decide +kernel
theorem dL_law_363 : decode cL_law 363 = .ok (.iload 4, 2) := by decide +kernel
theorem dL_law_365 : decode cL_law 365 = .ok (.iconst 1, 1) := by decide +kernel
theorem dL_law_366 : decode cL_law 366 = .ok (.iadd, 1) := by decide +kernel
theorem dL_law_367 : decode cL_law 367 = .ok (.iaload, 1) := by decide +kernel
theorem dL_law_368 : decode cL_law 368 = .ok (.aload_n 0, 1) := by decide +kernel
theorem dL_law_369 : decode cL_law 369 = .ok (.iload 4, 2) := by decide +kernel
theorem dL_law_371 : decode cL_law 371 = .ok (.iconst 2, 1) := by decide +kernel
theorem dL_law_372 : decode cL_law 372 = .ok (.iadd, 1) := by decide +kernel
theorem dL_law_373 : decode cL_law 373 = .ok (.iaload, 1) := by decide +kernel
theorem dL_law_374 : decode cL_law 374 = .ok (.invokevirtual 35, 3) := by decide +kernel
theorem dL_law_377 : decode cL_law 377 = .ok (.aload_n 2, 1) := by decide +kernel
theorem dL_law_378 : decode cL_law 378 = .ok (.aload_n 0, 1) := by decide +kernel
theorem dL_law_379 : decode cL_law 379 = .ok (.iload 4, 2) := by decide +kernel
theorem dL_law_381 : decode cL_law 381 = .ok (.iconst 1, 1) := by decide +kernel
theorem dL_law_382 : decode cL_law 382 = .ok (.iadd, 1) := by decide +kernel
theorem dL_law_383 : decode cL_law 383 = .ok (.iaload, 1) := by decide +kernel
theorem dL_law_384 : decode cL_law 384 = .ok (.aload_n 0, 1) := by decide +kernel
theorem dL_law_385 : decode cL_law 385 = .ok (.iload 4, 2) := by decide +kernel
theorem dL_law_387 : decode cL_law 387 = .ok (.iconst 2, 1) := by decide +kernel
theorem dL_law_388 : decode cL_law 388 = .ok (.iadd, 1) := by decide +kernel
theorem dL_law_389 : decode cL_law 389 = .ok (.iaload, 1) := by decide +kernel
theorem dL_law_390 : decode cL_law 390 = .ok (.invokevirtual 39, 3) := by decide +kernel
theorem dL_law_393 : decode cL_law 393 = .ok (.if_icmp .eq 865, 3) := by decide +kernel
set_option maxRecDepth 20000 in
theorem ggL_law_X8_guest : GoodIn wsL_law wsX8_guest := goodIn_r _ [670, 21, 671, 31, 672, 673, 674, 675, 676, 677, 678, 679, 680, 681, 2, 682, 683, 1298, 1299, 1300, 1301, 1302, 1303, 1304, 1305, 1306, 1307, 1308, 1376, 1377, 1378, 1379, 1380, 1381, 1382, 1383, 1384, 1385, 1386, 1387, 1388, 1393, 1394, 1395, 1396, 1397, 1398, 1399, 1400, 1401, 1402, 1403, 1404, 1405] rfl (by decide +kernel)
set_option maxRecDepth 20000 in
theorem gL_law_X8_guest : GoodIn wsL_law (wsV RL 35 RX8 yX8_guest wsX8_guest) := goodIn_app (goodIn_of _ (by decide +kernel)) ggL_law_X8_guest
set_option maxRecDepth 20000 in
theorem ggL_law_X9_guest : GoodIn wsL_law wsX9_guest := goodIn_r _ [687, 241, 176, 204, 179, 688, 689, 690, 5, 691, 174, 576, 577, 578, 692, 693, 694, 695, 178, 696, 291, 288, 292, 1309, 1310, 1311, 1312, 1313, 1314, 1315, 1316, 1317, 1318, 1319, 1320, 1321, 1322, 1323, 1324, 1325, 1326, 1327, 1328, 1329, 1330, 1331, 1332, 1333, 1334, 1335, 1336, 1337, 1338, 1339, 1340, 1341, 1342, 1343, 1344, 1345, 1346, 1347, 1348, 1349, 1350, 1351, 1352, 1353, 1354, 1355, 1356, 1357, 1358, 1359, 1360, 1361, 1362, 1363, 1364, 1365, 1366] rfl (by decide +kernel)
set_option maxRecDepth 20000 in
theorem gL_law_X9_guest : GoodIn wsL_law (wsV RL 39 RX9 yX9_guest wsX9_guest) := goodIn_app (goodIn_of _ (by decide +kernel)) ggL_law_X9_guest
set_option maxHeartbeats 4000000 in
set_option maxRecDepth 100000 in
theorem law_case3 {p : Program} {l : Launch} {e : Env} {R : Room} {s : State} {m : MethodId} {args : Array Value} {below : List Frame} {meth : Method} {c : Code} {b : Nat} {xs : Nat → Int32} {Q : State → Prop} {A : Nat → Prop} (hx : p.tables.exec = Jvm.exec) (hb : c.code = code) (hml : c.maxLocals = 7) (hown : s.vm.findClass RL = some m.cls) (hts : ∀ w ∈ wsL_law, w.before args s = true) (hX0 : va_X b 7 xs s s.heap) (hbl : b < s.heap.size) (hbA : ¬ A b) (hA : ∀ q : Nat, s.heap.size ≤ q → A q) (hR : R = room_1) (q1 q2 q3 q4 q5 q6 : Int32) (e1 : xs (Int32.toNatClampNeg 1) = q1) (e2 : xs (Int32.toNatClampNeg 2) = q2) (e3 : xs (Int32.toNatClampNeg 3) = q3) (e4 : xs (Int32.toNatClampNeg 4) = q4) (e5 : xs (Int32.toNatClampNeg 5) = q5) (e6 : xs (Int32.toNatClampNeg 6) = q6) (D : va_G) (k : Nat → ClassId) (hK : va_K D vwCl (tysW k) s) (hE : kz_E s) (oa : Nat) (x : Nat) (x_tape : Value) (td : Nat) (x_draft : Value) (x_lines : Value) (x_draftLines : Value) (x_now : Value) (x_trial : Value) (x_sights : Value) (x_past : Value) (x_marks : Value) (x_drawn : Int64) (td_names : Value) (td_kinds : Value) (td_yards : Value) (td_paces : Value) (td_skills : Value) (td_snow : Value) (td_law : Value) (td_bend : Int32) (td_hour : Int32) (td_bendTold : Int32) (td_hourTold : Int32) (y : Nat) (y_thrown : Int32) (y_taped : Int32) (y_tape : Value) (y_size : Int32) (y_place : Int32) (y_begin : Int32) (y_token : Int32) (y_word : Int64) (y_told : Int32) (y_wrong : Int32) (b_supper : Nat) (y_guestName : Value) (y_kind : Value) (y_offTold : Value) (y_pace : Value) (y_cooks : Value) (y_snow : Value) (y_lineFrom : Value) (y_lineTo : Value) (y_codes : Value) (y_code : Int32) (y_toldLines : Int32) (y_opened : Value) (y_compared : Value) (y_kept : Value) (y_keptBy : Value) (y_ahead : Value) (y_against : Value) (y_sum : Value) (y_sumBy : Value) (y_term : Value) (y_termBy : Value) (y_byNot : Value) (y_valueOf : Value) (y_given : Int32) (y_lines : Value) (y_lineWhat : Value) (y_lineA : Value) (y_lineB : Value) (y_seens : Value) (y_seenIn : Value) (y_seenYards : Value) (y_seenNear : Value) (y_s : Value) (y_aside : Value) (y_before : Value) (y_marked : Value) (y_undone : Value) (y_isLaid : Value) (y_done : Int32) (y_snowNow : Int32) (y_cameNow : Int32) (y_cookThen : Int32) (y_tasteThen : Int32) (y_places : Value) (y_comesAt : Value) (y_yardsIn : Value) (y_g : Int64) (c_supper : Nat → Int32) (hs0 : c_supper 0 = 0) {H : Heap} {locs : List Loc} {ls : Array Slot} (hP : va_P D vwCl [(x, kO 8 [x_tape, .ref td, x_draft, x_lines, x_draftLines, x_now, x_trial, x_sights, x_past, x_marks, .long x_drawn]), (td, kO 7 [td_names, td_kinds, td_yards, td_paces, td_skills, td_snow, td_law, .int 0, .int 0, .int td_bend, .int td_hour, .int td_bendTold, .int td_hourTold]), (y, kO 9 [.int y_thrown, .int y_taped, y_tape, .int y_size, .int y_place, .int y_begin, .int y_token, .long y_word, .int y_told, .int y_wrong, .ref b_supper, y_guestName, y_kind, y_offTold, y_pace, y_cooks, y_snow, y_lineFrom, y_lineTo, y_codes, .int y_code, .int y_toldLines, y_opened, y_compared, y_kept, y_keptBy, y_ahead, y_against, y_sum, y_sumBy, y_term, y_termBy, y_byNot, y_valueOf, .int y_given, y_lines, y_lineWhat, y_lineA, y_lineB, y_seens, y_seenIn, y_seenYards, y_seenNear, y_s, y_aside, y_before, y_marked, y_undone, y_isLaid, .int y_done, .int y_snowNow, .int y_cameNow, .int y_cookThen, .int y_tasteThen, y_places, y_comesAt, y_yardsIn, .long y_g]), (b_supper, kI k 8 c_supper)] H) (hD : va_D A [(x, kO 8 [x_tape, .ref td, x_draft, x_lines, x_draftLines, x_now, x_trial, x_sights, x_past, x_marks, .long x_drawn]), (td, kO 7 [td_names, td_kinds, td_yards, td_paces, td_skills, td_snow, td_law, .int 0, .int 0, .int td_bend, .int td_hour, .int td_bendTold, .int td_hourTold]), (y, kO 9 [.int y_thrown, .int y_taped, y_tape, .int y_size, .int y_place, .int y_begin, .int y_token, .long y_word, .int y_told, .int y_wrong, .ref b_supper, y_guestName, y_kind, y_offTold, y_pace, y_cooks, y_snow, y_lineFrom, y_lineTo, y_codes, .int y_code, .int y_toldLines, y_opened, y_compared, y_kept, y_keptBy, y_ahead, y_against, y_sum, y_sumBy, y_term, y_termBy, y_byNot, y_valueOf, .int y_given, y_lines, y_lineWhat, y_lineA, y_lineB, y_seens, y_seenIn, y_seenYards, y_seenNear, y_s, y_aside, y_before, y_marked, y_undone, y_isLaid, .int y_done, .int y_snowNow, .int y_cameNow, .int y_cookThen, .int y_tasteThen, y_places, y_comesAt, y_yardsIn, .long y_g]), (b_supper, kI k 8 c_supper)]) (hS : va_S A s.heap H locs) (hl : lv_has ls 7 [(4, .int 0), (3, .ref oa), (2, .ref y), (1, .ref x), (0, .ref b)]) (tail : ∀ (H : Heap) (locs : List Loc) (ls : Array Slot), va_S A s.heap H locs → lv_has ls 7 [(4, .int 0), (0, .ref b)] → W p l e R s m args below meth c H locs 295 10895 Q (F0 m 1258 ls [])) : W p l e R s m args below meth c H locs 295 10895 Q (F0 m 361 ls []) := by
  refine lv_aload_n hx hb dL_law_361 rfl (lv_at hl 3 rfl) ?_
  refine lv_aload_n hx hb dL_law_362 rfl (lv_at hl 4 rfl) ?_
  refine lv_iload hx hb dL_law_363 (lv_at hl 0 rfl) ?_
  refine lv_iconst (v := 1) hx hb dL_law_365 (by decide) ?_
  refine lv_iadd hx hb dL_law_366 ?_
  refine lv_topi (fun x1 ex1 => ?_)
  obtain rfl : x1 = 1 := ex1.trans (by decide)
  refine va_sld hx hb hX0 hbl hbA hS (vp_in_iff.mpr (by decide)) dL_law_367 ?_
  refine kz_top (w := .int q1) (by rw [e1]) ?_
  refine lv_aload_n hx hb dL_law_368 rfl (lv_at hl 4 rfl) ?_
  refine lv_iload hx hb dL_law_369 (lv_at hl 0 rfl) ?_
  refine lv_iconst (v := 2) hx hb dL_law_371 (by decide) ?_
  refine lv_iadd hx hb dL_law_372 ?_
  refine lv_topi (fun x2 ex2 => ?_)
  obtain rfl : x2 = 2 := ex2.trans (by decide)
  refine va_sld hx hb hX0 hbl hbA hS (vp_in_iff.mpr (by decide)) dL_law_373 ?_
  refine kz_top (w := .int q2) (by rw [e2]) ?_
  refine kz_Vi (As := [.int q1, .int q2]) (rest := []) (wc := [(x, kO 8 [x_tape, .ref td, x_draft, x_lines, x_draftLines, x_now, x_trial, x_sights, x_past, x_marks, .long x_drawn]), (td, kO 7 [td_names, td_kinds, td_yards, td_paces, td_skills, td_snow, td_law, .int 0, .int 0, .int td_bend, .int td_hour, .int td_bendTold, .int td_hourTold])]) (wr := [(y, kO 9 [.int y_thrown, .int y_taped, y_tape, .int y_size, .int y_place, .int y_begin, .int y_token, .long y_word, .int y_told, .int y_wrong, .ref b_supper, y_guestName, y_kind, y_offTold, y_pace, y_cooks, y_snow, y_lineFrom, y_lineTo, y_codes, .int y_code, .int y_toldLines, y_opened, y_compared, y_kept, y_keptBy, y_ahead, y_against, y_sum, y_sumBy, y_term, y_termBy, y_byNot, y_valueOf, .int y_given, y_lines, y_lineWhat, y_lineA, y_lineB, y_seens, y_seenIn, y_seenYards, y_seenNear, y_s, y_aside, y_before, y_marked, y_undone, y_isLaid, .int y_done, .int y_snowNow, .int y_cameNow, .int y_cookThen, .int y_tasteThen, y_places, y_comesAt, y_yardsIn, .long y_g]), (b_supper, kI k 8 c_supper)]) ⟨hx, hb, hml, hown, hts⟩ hK hE hP hD hS hA (mX8_guest l D k H.size x q1 q2 x_tape td x_draft x_lines x_draftLines x_now x_trial x_sights x_past x_marks x_drawn td_names td_kinds td_yards td_paces td_skills td_snow td_law td_bend td_hour td_bendTold td_hourTold) (cwV 2 hts gL_law_X8_guest rfl rfl rfl (by decide +kernel) (by rw [hR]; exact ⟨Nat.le_of_ble_eq_true rfl, Nat.le_of_ble_eq_true rfl⟩)) [0, 1] [2, 3] rfl rfl (by decide) (by decide) (by decide) 0 rfl rfl rfl hl.1 rfl (Nat.le_of_ble_eq_true rfl) dL_law_374 (by rw [hR]; exact ⟨Nat.le_of_ble_eq_true rfl, Nat.le_of_ble_eq_true rfl⟩) (fun r3 u3 H locs hw3 hP hD hS => ?_)
  try dsimp only at hw3
  obtain rfl : r3 = (-2) := hw3
  have hP : va_P D vwCl [(y, kO 9 [.int y_thrown, .int y_taped, y_tape, .int y_size, .int y_place, .int y_begin, .int y_token, .long y_word, .int y_told, .int y_wrong, .ref b_supper, y_guestName, y_kind, y_offTold, y_pace, y_cooks, y_snow, y_lineFrom, y_lineTo, y_codes, .int y_code, .int y_toldLines, y_opened, y_compared, y_kept, y_keptBy, y_ahead, y_against, y_sum, y_sumBy, y_term, y_termBy, y_byNot, y_valueOf, .int y_given, y_lines, y_lineWhat, y_lineA, y_lineB, y_seens, y_seenIn, y_seenYards, y_seenNear, y_s, y_aside, y_before, y_marked, y_undone, y_isLaid, .int y_done, .int y_snowNow, .int y_cameNow, .int y_cookThen, .int y_tasteThen, y_places, y_comesAt, y_yardsIn, .long y_g]), (b_supper, kI k 8 c_supper), (x, kO 8 [x_tape, .ref td, x_draft, x_lines, x_draftLines, x_now, x_trial, x_sights, x_past, x_marks, .long x_drawn]), (td, kO 7 [td_names, td_kinds, td_yards, td_paces, td_skills, td_snow, td_law, .int 0, .int 0, .int td_bend, .int td_hour, .int td_bendTold, .int td_hourTold])] H := hP
  have hD : va_D A [(y, kO 9 [.int y_thrown, .int y_taped, y_tape, .int y_size, .int y_place, .int y_begin, .int y_token, .long y_word, .int y_told, .int y_wrong, .ref b_supper, y_guestName, y_kind, y_offTold, y_pace, y_cooks, y_snow, y_lineFrom, y_lineTo, y_codes, .int y_code, .int y_toldLines, y_opened, y_compared, y_kept, y_keptBy, y_ahead, y_against, y_sum, y_sumBy, y_term, y_termBy, y_byNot, y_valueOf, .int y_given, y_lines, y_lineWhat, y_lineA, y_lineB, y_seens, y_seenIn, y_seenYards, y_seenNear, y_s, y_aside, y_before, y_marked, y_undone, y_isLaid, .int y_done, .int y_snowNow, .int y_cameNow, .int y_cookThen, .int y_tasteThen, y_places, y_comesAt, y_yardsIn, .long y_g]), (b_supper, kI k 8 c_supper), (x, kO 8 [x_tape, .ref td, x_draft, x_lines, x_draftLines, x_now, x_trial, x_sights, x_past, x_marks, .long x_drawn]), (td, kO 7 [td_names, td_kinds, td_yards, td_paces, td_skills, td_snow, td_law, .int 0, .int 0, .int td_bend, .int td_hour, .int td_bendTold, .int td_hourTold])] := hD
  refine lv_aload_n hx hb dL_law_377 rfl (lv_at hl 2 rfl) ?_
  refine lv_aload_n hx hb dL_law_378 rfl (lv_at hl 4 rfl) ?_
  refine lv_iload hx hb dL_law_379 (lv_at hl 0 rfl) ?_
  refine lv_iconst (v := 1) hx hb dL_law_381 (by decide) ?_
  refine lv_iadd hx hb dL_law_382 ?_
  refine lv_topi (fun x4 ex4 => ?_)
  obtain rfl : x4 = 1 := ex4.trans (by decide)
  refine va_sld hx hb hX0 hbl hbA hS (vp_in_iff.mpr (by decide)) dL_law_383 ?_
  refine kz_top (w := .int q1) (by rw [e1]) ?_
  refine lv_aload_n hx hb dL_law_384 rfl (lv_at hl 4 rfl) ?_
  refine lv_iload hx hb dL_law_385 (lv_at hl 0 rfl) ?_
  refine lv_iconst (v := 2) hx hb dL_law_387 (by decide) ?_
  refine lv_iadd hx hb dL_law_388 ?_
  refine lv_topi (fun x5 ex5 => ?_)
  obtain rfl : x5 = 2 := ex5.trans (by decide)
  refine va_sld hx hb hX0 hbl hbA hS (vp_in_iff.mpr (by decide)) dL_law_389 ?_
  refine kz_top (w := .int q2) (by rw [e2]) ?_
  refine kz_Vi (As := [.int q1, .int q2]) (rest := [.int (-2)]) (wc := [(y, kO 9 [.int y_thrown, .int y_taped, y_tape, .int y_size, .int y_place, .int y_begin, .int y_token, .long y_word, .int y_told, .int y_wrong, .ref b_supper, y_guestName, y_kind, y_offTold, y_pace, y_cooks, y_snow, y_lineFrom, y_lineTo, y_codes, .int y_code, .int y_toldLines, y_opened, y_compared, y_kept, y_keptBy, y_ahead, y_against, y_sum, y_sumBy, y_term, y_termBy, y_byNot, y_valueOf, .int y_given, y_lines, y_lineWhat, y_lineA, y_lineB, y_seens, y_seenIn, y_seenYards, y_seenNear, y_s, y_aside, y_before, y_marked, y_undone, y_isLaid, .int y_done, .int y_snowNow, .int y_cameNow, .int y_cookThen, .int y_tasteThen, y_places, y_comesAt, y_yardsIn, .long y_g]), (b_supper, kI k 8 c_supper)]) (wr := [(x, kO 8 [x_tape, .ref td, x_draft, x_lines, x_draftLines, x_now, x_trial, x_sights, x_past, x_marks, .long x_drawn]), (td, kO 7 [td_names, td_kinds, td_yards, td_paces, td_skills, td_snow, td_law, .int 0, .int 0, .int td_bend, .int td_hour, .int td_bendTold, .int td_hourTold])]) ⟨hx, hb, hml, hown, hts⟩ hK hE hP hD hS hA (mX9_guest l D k H.size y q1 q2 y_thrown y_taped y_tape y_size y_place y_begin y_token y_word y_told y_wrong b_supper y_guestName y_kind y_offTold y_pace y_cooks y_snow y_lineFrom y_lineTo y_codes y_code y_toldLines y_opened y_compared y_kept y_keptBy y_ahead y_against y_sum y_sumBy y_term y_termBy y_byNot y_valueOf y_given y_lines y_lineWhat y_lineA y_lineB y_seens y_seenIn y_seenYards y_seenNear y_s y_aside y_before y_marked y_undone y_isLaid y_done y_snowNow y_cameNow y_cookThen y_tasteThen y_places y_comesAt y_yardsIn y_g c_supper hs0) (cwV 2 hts gL_law_X9_guest rfl rfl rfl (by decide +kernel) (by rw [hR]; exact ⟨Nat.le_of_ble_eq_true rfl, Nat.le_of_ble_eq_true rfl⟩)) [0, 1] [2, 3] rfl rfl (by decide) (by decide) (by decide) 0 rfl rfl rfl hl.1 rfl (Nat.le_of_ble_eq_true rfl) dL_law_390 (by rw [hR]; exact ⟨Nat.le_of_ble_eq_true rfl, Nat.le_of_ble_eq_true rfl⟩) (fun r6 u6 H locs hw6 hP hD hS => ?_)
  try dsimp only at hw6
  obtain rfl : r6 = (-2) := hw6
  have hP : va_P D vwCl [(x, kO 8 [x_tape, .ref td, x_draft, x_lines, x_draftLines, x_now, x_trial, x_sights, x_past, x_marks, .long x_drawn]), (td, kO 7 [td_names, td_kinds, td_yards, td_paces, td_skills, td_snow, td_law, .int 0, .int 0, .int td_bend, .int td_hour, .int td_bendTold, .int td_hourTold])] H := hP
  have hD : va_D A [(x, kO 8 [x_tape, .ref td, x_draft, x_lines, x_draftLines, x_now, x_trial, x_sights, x_past, x_marks, .long x_drawn]), (td, kO 7 [td_names, td_kinds, td_yards, td_paces, td_skills, td_snow, td_law, .int 0, .int 0, .int td_bend, .int td_hour, .int td_bendTold, .int td_hourTold])] := hD
  refine lv_icmp_eq (tgt := 1258) hx hb dL_law_393 (by decide) (fun c_7 => ?_) (fun c_7 => absurd rfl c_7)
  exact tail _ _ _ hS (lv_sub hl [0, 4] rfl)
theorem dL_law_398 : decode cL_law 398 = .ok (.aload_n 1, 1) := by decide +kernel
theorem dL_law_399 : decode cL_law 399 = .ok (.aload_n 0, 1) := by decide +kernel
theorem dL_law_400 : decode cL_law 400 = .ok (.iload 4, 2) := by decide +kernel
theorem dL_law_402 : decode cL_law 402 = .ok (.iconst 1, 1) := by decide +kernel
theorem dL_law_403 : decode cL_law 403 = .ok (.iadd, 1) := by decide +kernel
theorem dL_law_404 : decode cL_law 404 = .ok (.iaload, 1) := by decide +kernel
theorem dL_law_405 : decode cL_law 405 = .ok (.aload_n 0, 1) := by decide +kernel
theorem dL_law_406 : decode cL_law 406 = .ok (.iload 4, 2) := by decide +kernel
theorem dL_law_408 : decode cL_law 408 = .ok (.iconst 2, 1) := by decide +kernel
theorem dL_law_409 : decode cL_law 409 = .ok (.iadd, 1) := by decide +kernel
theorem dL_law_410 : decode cL_law 410 = .ok (.iaload, 1) := by decide +kernel
theorem dL_law_411 : decode cL_law 411 = .ok (.invokevirtual 40, 3) := by decide +kernel
theorem dL_law_414 : decode cL_law 414 = .ok (.aload_n 2, 1) := by decide +kernel
theorem dL_law_415 : decode cL_law 415 = .ok (.aload_n 0, 1) := by decide +kernel
theorem dL_law_416 : decode cL_law 416 = .ok (.iload 4, 2) := by decide +kernel
theorem dL_law_418 : decode cL_law 418 = .ok (.iconst 1, 1) := by decide +kernel
theorem dL_law_419 : decode cL_law 419 = .ok (.iadd, 1) := by decide +kernel
theorem dL_law_420 : decode cL_law 420 = .ok (.iaload, 1) := by decide +kernel
theorem dL_law_421 : decode cL_law 421 = .ok (.aload_n 0, 1) := by decide +kernel
theorem dL_law_422 : decode cL_law 422 = .ok (.iload 4, 2) := by decide +kernel
theorem dL_law_424 : decode cL_law 424 = .ok (.iconst 2, 1) := by decide +kernel
theorem dL_law_425 : decode cL_law 425 = .ok (.iadd, 1) := by decide +kernel
theorem dL_law_426 : decode cL_law 426 = .ok (.iaload, 1) := by decide +kernel
theorem dL_law_427 : decode cL_law 427 = .ok (.invokevirtual 43, 3) := by decide +kernel
theorem dL_law_430 : decode cL_law 430 = .ok (.if_icmp .eq 828, 3) := by decide +kernel
set_option maxRecDepth 20000 in
theorem ggL_law_X8_wheel : GoodIn wsL_law wsX8_wheel := goodIn_r _ [700, 40, 31, 676, 701, 702, 703, 2, 704, 679, 680, 681, 682, 21, 683, 705, 706, 707, 30, 708, 139, 709, 398, 399, 710, 711, 712, 39, 713, 495, 714, 159, 715, 716, 717, 718, 719, 720, 721, 722, 140, 141, 142, 143, 144, 145, 477, 470, 476, 471, 146, 723, 724, 725, 726, 727, 291, 288, 292, 728, 1298, 1299, 1300, 1301, 1302, 1303, 1304, 1305, 1306, 1307, 1308, 1393, 1394, 1395, 1396, 1397, 1398, 1399, 1400, 1401, 1402, 1403, 1404, 1405, 1376, 1377, 1378, 1379, 1380, 1381, 1382, 1383, 1384, 1385, 1386, 1387, 1388, 1410, 1411, 1412] rfl (by decide +kernel)
set_option maxRecDepth 20000 in
theorem gL_law_X8_wheel : GoodIn wsL_law (wsV RL 40 RX8 yX8_wheel wsX8_wheel) := goodIn_app (goodIn_of _ (by decide +kernel)) ggL_law_X8_wheel
set_option maxRecDepth 20000 in
theorem ggL_law_X9_wheel : GoodIn wsL_law wsX9_wheel := goodIn_r _ [732, 241, 204, 733, 734, 735, 5, 736, 688, 689, 690, 691, 174, 737, 738, 739, 740, 576, 577, 578, 741, 742, 743, 744, 501, 208, 745, 746, 747, 748, 749, 750, 751, 696, 291, 288, 292, 1309, 1310, 1311, 1312, 1313, 1314, 1315, 1316, 1317, 1318, 1319, 1320, 1321, 1322, 1323, 1324, 1325, 1326, 1327, 1328, 1329, 1330, 1331, 1332, 1333, 1334, 1335, 1336, 1337, 1338, 1339, 1340, 1341, 1342, 1343, 1344, 1345, 1346, 1347, 1348, 1349, 1350, 1351, 1352, 1353, 1354, 1355, 1356, 1357, 1358, 1359, 1360, 1361, 1362, 1363, 1364, 1365, 1366] rfl (by decide +kernel)
set_option maxRecDepth 20000 in
theorem gL_law_X9_wheel : GoodIn wsL_law (wsV RL 43 RX9 yX9_wheel wsX9_wheel) := goodIn_app (goodIn_of _ (by decide +kernel)) ggL_law_X9_wheel
set_option maxHeartbeats 4000000 in
set_option maxRecDepth 100000 in
theorem law_case4 {p : Program} {l : Launch} {e : Env} {R : Room} {s : State} {m : MethodId} {args : Array Value} {below : List Frame} {meth : Method} {c : Code} {b : Nat} {xs : Nat → Int32} {Q : State → Prop} {A : Nat → Prop} (hx : p.tables.exec = Jvm.exec) (hb : c.code = code) (hml : c.maxLocals = 7) (hown : s.vm.findClass RL = some m.cls) (hts : ∀ w ∈ wsL_law, w.before args s = true) (hX0 : va_X b 7 xs s s.heap) (hbl : b < s.heap.size) (hbA : ¬ A b) (hA : ∀ q : Nat, s.heap.size ≤ q → A q) (hR : R = room_1) (q1 q2 q3 q4 q5 q6 : Int32) (e1 : xs (Int32.toNatClampNeg 1) = q1) (e2 : xs (Int32.toNatClampNeg 2) = q2) (e3 : xs (Int32.toNatClampNeg 3) = q3) (e4 : xs (Int32.toNatClampNeg 4) = q4) (e5 : xs (Int32.toNatClampNeg 5) = q5) (e6 : xs (Int32.toNatClampNeg 6) = q6) (D : va_G) (k : Nat → ClassId) (hK : va_K D vwCl (tysW k) s) (hE : kz_E s) (oa : Nat) (x : Nat) (x_tape : Value) (td : Nat) (x_draft : Value) (x_lines : Value) (x_draftLines : Value) (x_now : Value) (x_trial : Value) (x_sights : Value) (x_past : Value) (x_marks : Value) (x_drawn : Int64) (td_names : Value) (td_kinds : Value) (td_yards : Value) (td_paces : Value) (td_skills : Value) (td_snow : Value) (td_law : Value) (td_bend : Int32) (td_hour : Int32) (td_bendTold : Int32) (td_hourTold : Int32) (y : Nat) (y_thrown : Int32) (y_taped : Int32) (y_tape : Value) (y_size : Int32) (y_place : Int32) (y_begin : Int32) (y_token : Int32) (y_word : Int64) (y_told : Int32) (y_wrong : Int32) (b_supper : Nat) (y_guestName : Value) (y_kind : Value) (y_offTold : Value) (y_pace : Value) (y_cooks : Value) (y_snow : Value) (y_lineFrom : Value) (y_lineTo : Value) (y_codes : Value) (y_code : Int32) (y_toldLines : Int32) (y_opened : Value) (y_compared : Value) (y_kept : Value) (y_keptBy : Value) (y_ahead : Value) (y_against : Value) (y_sum : Value) (y_sumBy : Value) (y_term : Value) (y_termBy : Value) (y_byNot : Value) (y_valueOf : Value) (y_given : Int32) (y_lines : Value) (y_lineWhat : Value) (y_lineA : Value) (y_lineB : Value) (y_seens : Value) (y_seenIn : Value) (y_seenYards : Value) (y_seenNear : Value) (y_s : Value) (y_aside : Value) (y_before : Value) (y_marked : Value) (y_undone : Value) (y_isLaid : Value) (y_done : Int32) (y_snowNow : Int32) (y_cameNow : Int32) (y_cookThen : Int32) (y_tasteThen : Int32) (y_places : Value) (y_comesAt : Value) (y_yardsIn : Value) (y_g : Int64) (c_supper : Nat → Int32) (hs0 : c_supper 0 = 0) {H : Heap} {locs : List Loc} {ls : Array Slot} (hP : va_P D vwCl [(x, kO 8 [x_tape, .ref td, x_draft, x_lines, x_draftLines, x_now, x_trial, x_sights, x_past, x_marks, .long x_drawn]), (td, kO 7 [td_names, td_kinds, td_yards, td_paces, td_skills, td_snow, td_law, .int 0, .int 0, .int td_bend, .int td_hour, .int td_bendTold, .int td_hourTold]), (y, kO 9 [.int y_thrown, .int y_taped, y_tape, .int y_size, .int y_place, .int y_begin, .int y_token, .long y_word, .int y_told, .int y_wrong, .ref b_supper, y_guestName, y_kind, y_offTold, y_pace, y_cooks, y_snow, y_lineFrom, y_lineTo, y_codes, .int y_code, .int y_toldLines, y_opened, y_compared, y_kept, y_keptBy, y_ahead, y_against, y_sum, y_sumBy, y_term, y_termBy, y_byNot, y_valueOf, .int y_given, y_lines, y_lineWhat, y_lineA, y_lineB, y_seens, y_seenIn, y_seenYards, y_seenNear, y_s, y_aside, y_before, y_marked, y_undone, y_isLaid, .int y_done, .int y_snowNow, .int y_cameNow, .int y_cookThen, .int y_tasteThen, y_places, y_comesAt, y_yardsIn, .long y_g]), (b_supper, kI k 8 c_supper)] H) (hD : va_D A [(x, kO 8 [x_tape, .ref td, x_draft, x_lines, x_draftLines, x_now, x_trial, x_sights, x_past, x_marks, .long x_drawn]), (td, kO 7 [td_names, td_kinds, td_yards, td_paces, td_skills, td_snow, td_law, .int 0, .int 0, .int td_bend, .int td_hour, .int td_bendTold, .int td_hourTold]), (y, kO 9 [.int y_thrown, .int y_taped, y_tape, .int y_size, .int y_place, .int y_begin, .int y_token, .long y_word, .int y_told, .int y_wrong, .ref b_supper, y_guestName, y_kind, y_offTold, y_pace, y_cooks, y_snow, y_lineFrom, y_lineTo, y_codes, .int y_code, .int y_toldLines, y_opened, y_compared, y_kept, y_keptBy, y_ahead, y_against, y_sum, y_sumBy, y_term, y_termBy, y_byNot, y_valueOf, .int y_given, y_lines, y_lineWhat, y_lineA, y_lineB, y_seens, y_seenIn, y_seenYards, y_seenNear, y_s, y_aside, y_before, y_marked, y_undone, y_isLaid, .int y_done, .int y_snowNow, .int y_cameNow, .int y_cookThen, .int y_tasteThen, y_places, y_comesAt, y_yardsIn, .long y_g]), (b_supper, kI k 8 c_supper)]) (hS : va_S A s.heap H locs) (hl : lv_has ls 7 [(4, .int 0), (3, .ref oa), (2, .ref y), (1, .ref x), (0, .ref b)]) (tail : ∀ (H : Heap) (locs : List Loc) (ls : Array Slot), va_S A s.heap H locs → lv_has ls 7 [(4, .int 0), (0, .ref b)] → W p l e R s m args below meth c H locs 295 10895 Q (F0 m 1258 ls [])) : W p l e R s m args below meth c H locs 295 10895 Q (F0 m 398 ls []) := by
  refine lv_aload_n hx hb dL_law_398 rfl (lv_at hl 3 rfl) ?_
  refine lv_aload_n hx hb dL_law_399 rfl (lv_at hl 4 rfl) ?_
  refine lv_iload hx hb dL_law_400 (lv_at hl 0 rfl) ?_
  refine lv_iconst (v := 1) hx hb dL_law_402 (by decide) ?_
  refine lv_iadd hx hb dL_law_403 ?_
  refine lv_topi (fun x1 ex1 => ?_)
  obtain rfl : x1 = 1 := ex1.trans (by decide)
  refine va_sld hx hb hX0 hbl hbA hS (vp_in_iff.mpr (by decide)) dL_law_404 ?_
  refine kz_top (w := .int q1) (by rw [e1]) ?_
  refine lv_aload_n hx hb dL_law_405 rfl (lv_at hl 4 rfl) ?_
  refine lv_iload hx hb dL_law_406 (lv_at hl 0 rfl) ?_
  refine lv_iconst (v := 2) hx hb dL_law_408 (by decide) ?_
  refine lv_iadd hx hb dL_law_409 ?_
  refine lv_topi (fun x2 ex2 => ?_)
  obtain rfl : x2 = 2 := ex2.trans (by decide)
  refine va_sld hx hb hX0 hbl hbA hS (vp_in_iff.mpr (by decide)) dL_law_410 ?_
  refine kz_top (w := .int q2) (by rw [e2]) ?_
  refine kz_Vi (As := [.int q1, .int q2]) (rest := []) (wc := [(x, kO 8 [x_tape, .ref td, x_draft, x_lines, x_draftLines, x_now, x_trial, x_sights, x_past, x_marks, .long x_drawn]), (td, kO 7 [td_names, td_kinds, td_yards, td_paces, td_skills, td_snow, td_law, .int 0, .int 0, .int td_bend, .int td_hour, .int td_bendTold, .int td_hourTold])]) (wr := [(y, kO 9 [.int y_thrown, .int y_taped, y_tape, .int y_size, .int y_place, .int y_begin, .int y_token, .long y_word, .int y_told, .int y_wrong, .ref b_supper, y_guestName, y_kind, y_offTold, y_pace, y_cooks, y_snow, y_lineFrom, y_lineTo, y_codes, .int y_code, .int y_toldLines, y_opened, y_compared, y_kept, y_keptBy, y_ahead, y_against, y_sum, y_sumBy, y_term, y_termBy, y_byNot, y_valueOf, .int y_given, y_lines, y_lineWhat, y_lineA, y_lineB, y_seens, y_seenIn, y_seenYards, y_seenNear, y_s, y_aside, y_before, y_marked, y_undone, y_isLaid, .int y_done, .int y_snowNow, .int y_cameNow, .int y_cookThen, .int y_tasteThen, y_places, y_comesAt, y_yardsIn, .long y_g]), (b_supper, kI k 8 c_supper)]) ⟨hx, hb, hml, hown, hts⟩ hK hE hP hD hS hA (mX8_wheel l D k H.size x q1 q2 x_tape td x_draft x_lines x_draftLines x_now x_trial x_sights x_past x_marks x_drawn td_names td_kinds td_yards td_paces td_skills td_snow td_law td_bend td_hour td_bendTold td_hourTold) (cwV 2 hts gL_law_X8_wheel rfl rfl rfl (by decide +kernel) (by rw [hR]; exact ⟨Nat.le_of_ble_eq_true rfl, Nat.le_of_ble_eq_true rfl⟩)) [0, 1] [2, 3] rfl rfl (by decide) (by decide) (by decide) 0 rfl rfl rfl hl.1 rfl (Nat.le_of_ble_eq_true rfl) dL_law_411 (by rw [hR]; exact ⟨Nat.le_of_ble_eq_true rfl, Nat.le_of_ble_eq_true rfl⟩) (fun r3 u3 H locs hw3 hP hD hS => ?_)
  try dsimp only at hw3
  obtain rfl : r3 = (-1) := hw3
  have hP : va_P D vwCl [(y, kO 9 [.int y_thrown, .int y_taped, y_tape, .int y_size, .int y_place, .int y_begin, .int y_token, .long y_word, .int y_told, .int y_wrong, .ref b_supper, y_guestName, y_kind, y_offTold, y_pace, y_cooks, y_snow, y_lineFrom, y_lineTo, y_codes, .int y_code, .int y_toldLines, y_opened, y_compared, y_kept, y_keptBy, y_ahead, y_against, y_sum, y_sumBy, y_term, y_termBy, y_byNot, y_valueOf, .int y_given, y_lines, y_lineWhat, y_lineA, y_lineB, y_seens, y_seenIn, y_seenYards, y_seenNear, y_s, y_aside, y_before, y_marked, y_undone, y_isLaid, .int y_done, .int y_snowNow, .int y_cameNow, .int y_cookThen, .int y_tasteThen, y_places, y_comesAt, y_yardsIn, .long y_g]), (b_supper, kI k 8 c_supper), (x, kO 8 [x_tape, .ref td, x_draft, x_lines, x_draftLines, x_now, x_trial, x_sights, x_past, x_marks, .long x_drawn]), (td, kO 7 [td_names, td_kinds, td_yards, td_paces, td_skills, td_snow, td_law, .int 0, .int 0, .int td_bend, .int td_hour, .int td_bendTold, .int td_hourTold])] H := hP
  have hD : va_D A [(y, kO 9 [.int y_thrown, .int y_taped, y_tape, .int y_size, .int y_place, .int y_begin, .int y_token, .long y_word, .int y_told, .int y_wrong, .ref b_supper, y_guestName, y_kind, y_offTold, y_pace, y_cooks, y_snow, y_lineFrom, y_lineTo, y_codes, .int y_code, .int y_toldLines, y_opened, y_compared, y_kept, y_keptBy, y_ahead, y_against, y_sum, y_sumBy, y_term, y_termBy, y_byNot, y_valueOf, .int y_given, y_lines, y_lineWhat, y_lineA, y_lineB, y_seens, y_seenIn, y_seenYards, y_seenNear, y_s, y_aside, y_before, y_marked, y_undone, y_isLaid, .int y_done, .int y_snowNow, .int y_cameNow, .int y_cookThen, .int y_tasteThen, y_places, y_comesAt, y_yardsIn, .long y_g]), (b_supper, kI k 8 c_supper), (x, kO 8 [x_tape, .ref td, x_draft, x_lines, x_draftLines, x_now, x_trial, x_sights, x_past, x_marks, .long x_drawn]), (td, kO 7 [td_names, td_kinds, td_yards, td_paces, td_skills, td_snow, td_law, .int 0, .int 0, .int td_bend, .int td_hour, .int td_bendTold, .int td_hourTold])] := hD
  refine lv_aload_n hx hb dL_law_414 rfl (lv_at hl 2 rfl) ?_
  refine lv_aload_n hx hb dL_law_415 rfl (lv_at hl 4 rfl) ?_
  refine lv_iload hx hb dL_law_416 (lv_at hl 0 rfl) ?_
  refine lv_iconst (v := 1) hx hb dL_law_418 (by decide) ?_
  refine lv_iadd hx hb dL_law_419 ?_
  refine lv_topi (fun x4 ex4 => ?_)
  obtain rfl : x4 = 1 := ex4.trans (by decide)
  refine va_sld hx hb hX0 hbl hbA hS (vp_in_iff.mpr (by decide)) dL_law_420 ?_
  refine kz_top (w := .int q1) (by rw [e1]) ?_
  refine lv_aload_n hx hb dL_law_421 rfl (lv_at hl 4 rfl) ?_
  refine lv_iload hx hb dL_law_422 (lv_at hl 0 rfl) ?_
  refine lv_iconst (v := 2) hx hb dL_law_424 (by decide) ?_
  refine lv_iadd hx hb dL_law_425 ?_
  refine lv_topi (fun x5 ex5 => ?_)
  obtain rfl : x5 = 2 := ex5.trans (by decide)
  refine va_sld hx hb hX0 hbl hbA hS (vp_in_iff.mpr (by decide)) dL_law_426 ?_
  refine kz_top (w := .int q2) (by rw [e2]) ?_
  refine kz_Vi (As := [.int q1, .int q2]) (rest := [.int (-1)]) (wc := [(y, kO 9 [.int y_thrown, .int y_taped, y_tape, .int y_size, .int y_place, .int y_begin, .int y_token, .long y_word, .int y_told, .int y_wrong, .ref b_supper, y_guestName, y_kind, y_offTold, y_pace, y_cooks, y_snow, y_lineFrom, y_lineTo, y_codes, .int y_code, .int y_toldLines, y_opened, y_compared, y_kept, y_keptBy, y_ahead, y_against, y_sum, y_sumBy, y_term, y_termBy, y_byNot, y_valueOf, .int y_given, y_lines, y_lineWhat, y_lineA, y_lineB, y_seens, y_seenIn, y_seenYards, y_seenNear, y_s, y_aside, y_before, y_marked, y_undone, y_isLaid, .int y_done, .int y_snowNow, .int y_cameNow, .int y_cookThen, .int y_tasteThen, y_places, y_comesAt, y_yardsIn, .long y_g]), (b_supper, kI k 8 c_supper)]) (wr := [(x, kO 8 [x_tape, .ref td, x_draft, x_lines, x_draftLines, x_now, x_trial, x_sights, x_past, x_marks, .long x_drawn]), (td, kO 7 [td_names, td_kinds, td_yards, td_paces, td_skills, td_snow, td_law, .int 0, .int 0, .int td_bend, .int td_hour, .int td_bendTold, .int td_hourTold])]) ⟨hx, hb, hml, hown, hts⟩ hK hE hP hD hS hA (mX9_wheel l D k H.size y q1 q2 y_thrown y_taped y_tape y_size y_place y_begin y_token y_word y_told y_wrong b_supper y_guestName y_kind y_offTold y_pace y_cooks y_snow y_lineFrom y_lineTo y_codes y_code y_toldLines y_opened y_compared y_kept y_keptBy y_ahead y_against y_sum y_sumBy y_term y_termBy y_byNot y_valueOf y_given y_lines y_lineWhat y_lineA y_lineB y_seens y_seenIn y_seenYards y_seenNear y_s y_aside y_before y_marked y_undone y_isLaid y_done y_snowNow y_cameNow y_cookThen y_tasteThen y_places y_comesAt y_yardsIn y_g c_supper hs0) (cwV 2 hts gL_law_X9_wheel rfl rfl rfl (by decide +kernel) (by rw [hR]; exact ⟨Nat.le_of_ble_eq_true rfl, Nat.le_of_ble_eq_true rfl⟩)) [0, 1] [2, 3] rfl rfl (by decide) (by decide) (by decide) 0 rfl rfl rfl hl.1 rfl (Nat.le_of_ble_eq_true rfl) dL_law_427 (by rw [hR]; exact ⟨Nat.le_of_ble_eq_true rfl, Nat.le_of_ble_eq_true rfl⟩) (fun r6 u6 H locs hw6 hP hD hS => ?_)
  try dsimp only at hw6
  obtain rfl : r6 = (-1) := hw6
  have hP : va_P D vwCl [(x, kO 8 [x_tape, .ref td, x_draft, x_lines, x_draftLines, x_now, x_trial, x_sights, x_past, x_marks, .long x_drawn]), (td, kO 7 [td_names, td_kinds, td_yards, td_paces, td_skills, td_snow, td_law, .int 0, .int 0, .int td_bend, .int td_hour, .int td_bendTold, .int td_hourTold])] H := hP
  have hD : va_D A [(x, kO 8 [x_tape, .ref td, x_draft, x_lines, x_draftLines, x_now, x_trial, x_sights, x_past, x_marks, .long x_drawn]), (td, kO 7 [td_names, td_kinds, td_yards, td_paces, td_skills, td_snow, td_law, .int 0, .int 0, .int td_bend, .int td_hour, .int td_bendTold, .int td_hourTold])] := hD
  refine lv_icmp_eq (tgt := 1258) hx hb dL_law_430 (by decide) (fun c_7 => ?_) (fun c_7 => absurd rfl c_7)
  exact tail _ _ _ hS (lv_sub hl [0, 4] rfl)
theorem dL_law_435 : decode cL_law 435 = .ok (.aload_n 1, 1) := by decide +kernel
theorem dL_law_436 : decode cL_law 436 = .ok (.aload_n 0, 1) := by decide +kernel
theorem dL_law_437 : decode cL_law 437 = .ok (.iload 4, 2) := by decide +kernel
theorem dL_law_439 : decode cL_law 439 = .ok (.iconst 1, 1) := by decide +kernel
theorem dL_law_440 : decode cL_law 440 = .ok (.iadd, 1) := by decide +kernel
theorem dL_law_441 : decode cL_law 441 = .ok (.iaload, 1) := by decide +kernel
theorem dL_law_442 : decode cL_law 442 = .ok (.aload_n 0, 1) := by decide +kernel
theorem dL_law_443 : decode cL_law 443 = .ok (.iload 4, 2) := by decide +kernel
theorem dL_law_445 : decode cL_law 445 = .ok (.iconst 2, 1) := by decide +kernel
theorem dL_law_446 : decode cL_law 446 = .ok (.iadd, 1) := by decide +kernel
theorem dL_law_447 : decode cL_law 447 = .ok (.iaload, 1) := by decide +kernel
theorem dL_law_448 : decode cL_law 448 = .ok (.invokevirtual 44, 3) := by decide +kernel
theorem dL_law_451 : decode cL_law 451 = .ok (.aload_n 2, 1) := by decide +kernel
theorem dL_law_452 : decode cL_law 452 = .ok (.aload_n 0, 1) := by decide +kernel
theorem dL_law_453 : decode cL_law 453 = .ok (.iload 4, 2) := by decide +kernel
theorem dL_law_455 : decode cL_law 455 = .ok (.iconst 1, 1) := by decide +kernel
theorem dL_law_456 : decode cL_law 456 = .ok (.iadd, 1) := by decide +kernel
theorem dL_law_457 : decode cL_law 457 = .ok (.iaload, 1) := by decide +kernel
theorem dL_law_458 : decode cL_law 458 = .ok (.aload_n 0, 1) := by decide +kernel
theorem dL_law_459 : decode cL_law 459 = .ok (.iload 4, 2) := by decide +kernel
theorem dL_law_461 : decode cL_law 461 = .ok (.iconst 2, 1) := by decide +kernel
theorem dL_law_462 : decode cL_law 462 = .ok (.iadd, 1) := by decide +kernel
theorem dL_law_463 : decode cL_law 463 = .ok (.iaload, 1) := by decide +kernel
theorem dL_law_464 : decode cL_law 464 = .ok (.invokevirtual 47, 3) := by decide +kernel
theorem dL_law_467 : decode cL_law 467 = .ok (.if_icmp .eq 791, 3) := by decide +kernel
set_option maxRecDepth 20000 in
theorem ggL_law_X8_run : GoodIn wsL_law wsX8_run := goodIn_r _ [755, 40, 31, 673, 701, 702, 703, 2, 704, 679, 680, 681, 682, 21, 683, 705, 706, 707, 30, 708, 139, 709, 398, 399, 710, 711, 712, 39, 713, 495, 714, 159, 715, 716, 717, 718, 719, 720, 721, 722, 140, 141, 142, 143, 144, 145, 477, 470, 476, 471, 146, 756, 757, 758, 759, 727, 291, 288, 292, 728, 1298, 1299, 1300, 1301, 1302, 1303, 1304, 1305, 1306, 1307, 1308, 1393, 1394, 1395, 1396, 1397, 1398, 1399, 1400, 1401, 1402, 1403, 1404, 1405, 1376, 1377, 1378, 1379, 1380, 1381, 1382, 1383, 1384, 1385, 1386, 1387, 1388, 1410, 1411, 1412] rfl (by decide +kernel)
set_option maxRecDepth 20000 in
theorem gL_law_X8_run : GoodIn wsL_law (wsV RL 44 RX8 yX8_run wsX8_run) := goodIn_app (goodIn_of _ (by decide +kernel)) ggL_law_X8_run
set_option maxRecDepth 20000 in
theorem ggL_law_X9_run : GoodIn wsL_law wsX9_run := goodIn_r _ [763, 241, 733, 734, 735, 5, 736, 688, 689, 690, 691, 174, 737, 738, 739, 740, 204, 576, 577, 578, 741, 742, 743, 744, 501, 208, 745, 746, 747, 764, 765, 766, 767, 178, 696, 291, 288, 292, 692, 693, 694, 695, 1309, 1310, 1311, 1312, 1313, 1314, 1315, 1316, 1317, 1318, 1319, 1320, 1321, 1322, 1323, 1324, 1325, 1326, 1327, 1328, 1329, 1330, 1331, 1332, 1333, 1334, 1335, 1336, 1337, 1338, 1339, 1340, 1341, 1342, 1343, 1344, 1345, 1346, 1347, 1348, 1349, 1350, 1351, 1352, 1353, 1354, 1355, 1356, 1357, 1358, 1359, 1360, 1361, 1362, 1363, 1364, 1365, 1366] rfl (by decide +kernel)
set_option maxRecDepth 20000 in
theorem gL_law_X9_run : GoodIn wsL_law (wsV RL 47 RX9 yX9_run wsX9_run) := goodIn_app (goodIn_of _ (by decide +kernel)) ggL_law_X9_run
set_option maxHeartbeats 4000000 in
set_option maxRecDepth 100000 in
theorem law_case5 {p : Program} {l : Launch} {e : Env} {R : Room} {s : State} {m : MethodId} {args : Array Value} {below : List Frame} {meth : Method} {c : Code} {b : Nat} {xs : Nat → Int32} {Q : State → Prop} {A : Nat → Prop} (hx : p.tables.exec = Jvm.exec) (hb : c.code = code) (hml : c.maxLocals = 7) (hown : s.vm.findClass RL = some m.cls) (hts : ∀ w ∈ wsL_law, w.before args s = true) (hX0 : va_X b 7 xs s s.heap) (hbl : b < s.heap.size) (hbA : ¬ A b) (hA : ∀ q : Nat, s.heap.size ≤ q → A q) (hR : R = room_1) (q1 q2 q3 q4 q5 q6 : Int32) (e1 : xs (Int32.toNatClampNeg 1) = q1) (e2 : xs (Int32.toNatClampNeg 2) = q2) (e3 : xs (Int32.toNatClampNeg 3) = q3) (e4 : xs (Int32.toNatClampNeg 4) = q4) (e5 : xs (Int32.toNatClampNeg 5) = q5) (e6 : xs (Int32.toNatClampNeg 6) = q6) (D : va_G) (k : Nat → ClassId) (hK : va_K D vwCl (tysW k) s) (hE : kz_E s) (oa : Nat) (x : Nat) (x_tape : Value) (td : Nat) (x_draft : Value) (x_lines : Value) (x_draftLines : Value) (x_now : Value) (x_trial : Value) (x_sights : Value) (x_past : Value) (x_marks : Value) (x_drawn : Int64) (td_names : Value) (td_kinds : Value) (td_yards : Value) (td_paces : Value) (td_skills : Value) (td_snow : Value) (td_law : Value) (td_bend : Int32) (td_hour : Int32) (td_bendTold : Int32) (td_hourTold : Int32) (y : Nat) (y_thrown : Int32) (y_taped : Int32) (y_tape : Value) (y_size : Int32) (y_place : Int32) (y_begin : Int32) (y_token : Int32) (y_word : Int64) (y_told : Int32) (y_wrong : Int32) (b_supper : Nat) (y_guestName : Value) (y_kind : Value) (y_offTold : Value) (y_pace : Value) (y_cooks : Value) (y_snow : Value) (y_lineFrom : Value) (y_lineTo : Value) (y_codes : Value) (y_code : Int32) (y_toldLines : Int32) (y_opened : Value) (y_compared : Value) (y_kept : Value) (y_keptBy : Value) (y_ahead : Value) (y_against : Value) (y_sum : Value) (y_sumBy : Value) (y_term : Value) (y_termBy : Value) (y_byNot : Value) (y_valueOf : Value) (y_given : Int32) (y_lines : Value) (y_lineWhat : Value) (y_lineA : Value) (y_lineB : Value) (y_seens : Value) (y_seenIn : Value) (y_seenYards : Value) (y_seenNear : Value) (y_s : Value) (y_aside : Value) (y_before : Value) (y_marked : Value) (y_undone : Value) (y_isLaid : Value) (y_done : Int32) (y_snowNow : Int32) (y_cameNow : Int32) (y_cookThen : Int32) (y_tasteThen : Int32) (y_places : Value) (y_comesAt : Value) (y_yardsIn : Value) (y_g : Int64) (c_supper : Nat → Int32) (hs0 : c_supper 0 = 0) {H : Heap} {locs : List Loc} {ls : Array Slot} (hP : va_P D vwCl [(x, kO 8 [x_tape, .ref td, x_draft, x_lines, x_draftLines, x_now, x_trial, x_sights, x_past, x_marks, .long x_drawn]), (td, kO 7 [td_names, td_kinds, td_yards, td_paces, td_skills, td_snow, td_law, .int 0, .int 0, .int td_bend, .int td_hour, .int td_bendTold, .int td_hourTold]), (y, kO 9 [.int y_thrown, .int y_taped, y_tape, .int y_size, .int y_place, .int y_begin, .int y_token, .long y_word, .int y_told, .int y_wrong, .ref b_supper, y_guestName, y_kind, y_offTold, y_pace, y_cooks, y_snow, y_lineFrom, y_lineTo, y_codes, .int y_code, .int y_toldLines, y_opened, y_compared, y_kept, y_keptBy, y_ahead, y_against, y_sum, y_sumBy, y_term, y_termBy, y_byNot, y_valueOf, .int y_given, y_lines, y_lineWhat, y_lineA, y_lineB, y_seens, y_seenIn, y_seenYards, y_seenNear, y_s, y_aside, y_before, y_marked, y_undone, y_isLaid, .int y_done, .int y_snowNow, .int y_cameNow, .int y_cookThen, .int y_tasteThen, y_places, y_comesAt, y_yardsIn, .long y_g]), (b_supper, kI k 8 c_supper)] H) (hD : va_D A [(x, kO 8 [x_tape, .ref td, x_draft, x_lines, x_draftLines, x_now, x_trial, x_sights, x_past, x_marks, .long x_drawn]), (td, kO 7 [td_names, td_kinds, td_yards, td_paces, td_skills, td_snow, td_law, .int 0, .int 0, .int td_bend, .int td_hour, .int td_bendTold, .int td_hourTold]), (y, kO 9 [.int y_thrown, .int y_taped, y_tape, .int y_size, .int y_place, .int y_begin, .int y_token, .long y_word, .int y_told, .int y_wrong, .ref b_supper, y_guestName, y_kind, y_offTold, y_pace, y_cooks, y_snow, y_lineFrom, y_lineTo, y_codes, .int y_code, .int y_toldLines, y_opened, y_compared, y_kept, y_keptBy, y_ahead, y_against, y_sum, y_sumBy, y_term, y_termBy, y_byNot, y_valueOf, .int y_given, y_lines, y_lineWhat, y_lineA, y_lineB, y_seens, y_seenIn, y_seenYards, y_seenNear, y_s, y_aside, y_before, y_marked, y_undone, y_isLaid, .int y_done, .int y_snowNow, .int y_cameNow, .int y_cookThen, .int y_tasteThen, y_places, y_comesAt, y_yardsIn, .long y_g]), (b_supper, kI k 8 c_supper)]) (hS : va_S A s.heap H locs) (hl : lv_has ls 7 [(4, .int 0), (3, .ref oa), (2, .ref y), (1, .ref x), (0, .ref b)]) (tail : ∀ (H : Heap) (locs : List Loc) (ls : Array Slot), va_S A s.heap H locs → lv_has ls 7 [(4, .int 0), (0, .ref b)] → W p l e R s m args below meth c H locs 295 10895 Q (F0 m 1258 ls [])) : W p l e R s m args below meth c H locs 295 10895 Q (F0 m 435 ls []) := by
  refine lv_aload_n hx hb dL_law_435 rfl (lv_at hl 3 rfl) ?_
  refine lv_aload_n hx hb dL_law_436 rfl (lv_at hl 4 rfl) ?_
  refine lv_iload hx hb dL_law_437 (lv_at hl 0 rfl) ?_
  refine lv_iconst (v := 1) hx hb dL_law_439 (by decide) ?_
  refine lv_iadd hx hb dL_law_440 ?_
  refine lv_topi (fun x1 ex1 => ?_)
  obtain rfl : x1 = 1 := ex1.trans (by decide)
  refine va_sld hx hb hX0 hbl hbA hS (vp_in_iff.mpr (by decide)) dL_law_441 ?_
  refine kz_top (w := .int q1) (by rw [e1]) ?_
  refine lv_aload_n hx hb dL_law_442 rfl (lv_at hl 4 rfl) ?_
  refine lv_iload hx hb dL_law_443 (lv_at hl 0 rfl) ?_
  refine lv_iconst (v := 2) hx hb dL_law_445 (by decide) ?_
  refine lv_iadd hx hb dL_law_446 ?_
  refine lv_topi (fun x2 ex2 => ?_)
  obtain rfl : x2 = 2 := ex2.trans (by decide)
  refine va_sld hx hb hX0 hbl hbA hS (vp_in_iff.mpr (by decide)) dL_law_447 ?_
  refine kz_top (w := .int q2) (by rw [e2]) ?_
  refine kz_Vi (As := [.int q1, .int q2]) (rest := []) (wc := [(x, kO 8 [x_tape, .ref td, x_draft, x_lines, x_draftLines, x_now, x_trial, x_sights, x_past, x_marks, .long x_drawn]), (td, kO 7 [td_names, td_kinds, td_yards, td_paces, td_skills, td_snow, td_law, .int 0, .int 0, .int td_bend, .int td_hour, .int td_bendTold, .int td_hourTold])]) (wr := [(y, kO 9 [.int y_thrown, .int y_taped, y_tape, .int y_size, .int y_place, .int y_begin, .int y_token, .long y_word, .int y_told, .int y_wrong, .ref b_supper, y_guestName, y_kind, y_offTold, y_pace, y_cooks, y_snow, y_lineFrom, y_lineTo, y_codes, .int y_code, .int y_toldLines, y_opened, y_compared, y_kept, y_keptBy, y_ahead, y_against, y_sum, y_sumBy, y_term, y_termBy, y_byNot, y_valueOf, .int y_given, y_lines, y_lineWhat, y_lineA, y_lineB, y_seens, y_seenIn, y_seenYards, y_seenNear, y_s, y_aside, y_before, y_marked, y_undone, y_isLaid, .int y_done, .int y_snowNow, .int y_cameNow, .int y_cookThen, .int y_tasteThen, y_places, y_comesAt, y_yardsIn, .long y_g]), (b_supper, kI k 8 c_supper)]) ⟨hx, hb, hml, hown, hts⟩ hK hE hP hD hS hA (mX8_run l D k H.size x q1 q2 x_tape td x_draft x_lines x_draftLines x_now x_trial x_sights x_past x_marks x_drawn td_names td_kinds td_yards td_paces td_skills td_snow td_law td_bend td_hour td_bendTold td_hourTold) (cwV 2 hts gL_law_X8_run rfl rfl rfl (by decide +kernel) (by rw [hR]; exact ⟨Nat.le_of_ble_eq_true rfl, Nat.le_of_ble_eq_true rfl⟩)) [0, 1] [2, 3] rfl rfl (by decide) (by decide) (by decide) 0 rfl rfl rfl hl.1 rfl (Nat.le_of_ble_eq_true rfl) dL_law_448 (by rw [hR]; exact ⟨Nat.le_of_ble_eq_true rfl, Nat.le_of_ble_eq_true rfl⟩) (fun r3 u3 H locs hw3 hP hD hS => ?_)
  try dsimp only at hw3
  obtain rfl : r3 = (-1) := hw3
  have hP : va_P D vwCl [(y, kO 9 [.int y_thrown, .int y_taped, y_tape, .int y_size, .int y_place, .int y_begin, .int y_token, .long y_word, .int y_told, .int y_wrong, .ref b_supper, y_guestName, y_kind, y_offTold, y_pace, y_cooks, y_snow, y_lineFrom, y_lineTo, y_codes, .int y_code, .int y_toldLines, y_opened, y_compared, y_kept, y_keptBy, y_ahead, y_against, y_sum, y_sumBy, y_term, y_termBy, y_byNot, y_valueOf, .int y_given, y_lines, y_lineWhat, y_lineA, y_lineB, y_seens, y_seenIn, y_seenYards, y_seenNear, y_s, y_aside, y_before, y_marked, y_undone, y_isLaid, .int y_done, .int y_snowNow, .int y_cameNow, .int y_cookThen, .int y_tasteThen, y_places, y_comesAt, y_yardsIn, .long y_g]), (b_supper, kI k 8 c_supper), (x, kO 8 [x_tape, .ref td, x_draft, x_lines, x_draftLines, x_now, x_trial, x_sights, x_past, x_marks, .long x_drawn]), (td, kO 7 [td_names, td_kinds, td_yards, td_paces, td_skills, td_snow, td_law, .int 0, .int 0, .int td_bend, .int td_hour, .int td_bendTold, .int td_hourTold])] H := hP
  have hD : va_D A [(y, kO 9 [.int y_thrown, .int y_taped, y_tape, .int y_size, .int y_place, .int y_begin, .int y_token, .long y_word, .int y_told, .int y_wrong, .ref b_supper, y_guestName, y_kind, y_offTold, y_pace, y_cooks, y_snow, y_lineFrom, y_lineTo, y_codes, .int y_code, .int y_toldLines, y_opened, y_compared, y_kept, y_keptBy, y_ahead, y_against, y_sum, y_sumBy, y_term, y_termBy, y_byNot, y_valueOf, .int y_given, y_lines, y_lineWhat, y_lineA, y_lineB, y_seens, y_seenIn, y_seenYards, y_seenNear, y_s, y_aside, y_before, y_marked, y_undone, y_isLaid, .int y_done, .int y_snowNow, .int y_cameNow, .int y_cookThen, .int y_tasteThen, y_places, y_comesAt, y_yardsIn, .long y_g]), (b_supper, kI k 8 c_supper), (x, kO 8 [x_tape, .ref td, x_draft, x_lines, x_draftLines, x_now, x_trial, x_sights, x_past, x_marks, .long x_drawn]), (td, kO 7 [td_names, td_kinds, td_yards, td_paces, td_skills, td_snow, td_law, .int 0, .int 0, .int td_bend, .int td_hour, .int td_bendTold, .int td_hourTold])] := hD
  refine lv_aload_n hx hb dL_law_451 rfl (lv_at hl 2 rfl) ?_
  refine lv_aload_n hx hb dL_law_452 rfl (lv_at hl 4 rfl) ?_
  refine lv_iload hx hb dL_law_453 (lv_at hl 0 rfl) ?_
  refine lv_iconst (v := 1) hx hb dL_law_455 (by decide) ?_
  refine lv_iadd hx hb dL_law_456 ?_
  refine lv_topi (fun x4 ex4 => ?_)
  obtain rfl : x4 = 1 := ex4.trans (by decide)
  refine va_sld hx hb hX0 hbl hbA hS (vp_in_iff.mpr (by decide)) dL_law_457 ?_
  refine kz_top (w := .int q1) (by rw [e1]) ?_
  refine lv_aload_n hx hb dL_law_458 rfl (lv_at hl 4 rfl) ?_
  refine lv_iload hx hb dL_law_459 (lv_at hl 0 rfl) ?_
  refine lv_iconst (v := 2) hx hb dL_law_461 (by decide) ?_
  refine lv_iadd hx hb dL_law_462 ?_
  refine lv_topi (fun x5 ex5 => ?_)
  obtain rfl : x5 = 2 := ex5.trans (by decide)
  refine va_sld hx hb hX0 hbl hbA hS (vp_in_iff.mpr (by decide)) dL_law_463 ?_
  refine kz_top (w := .int q2) (by rw [e2]) ?_
  refine kz_Vi (As := [.int q1, .int q2]) (rest := [.int (-1)]) (wc := [(y, kO 9 [.int y_thrown, .int y_taped, y_tape, .int y_size, .int y_place, .int y_begin, .int y_token, .long y_word, .int y_told, .int y_wrong, .ref b_supper, y_guestName, y_kind, y_offTold, y_pace, y_cooks, y_snow, y_lineFrom, y_lineTo, y_codes, .int y_code, .int y_toldLines, y_opened, y_compared, y_kept, y_keptBy, y_ahead, y_against, y_sum, y_sumBy, y_term, y_termBy, y_byNot, y_valueOf, .int y_given, y_lines, y_lineWhat, y_lineA, y_lineB, y_seens, y_seenIn, y_seenYards, y_seenNear, y_s, y_aside, y_before, y_marked, y_undone, y_isLaid, .int y_done, .int y_snowNow, .int y_cameNow, .int y_cookThen, .int y_tasteThen, y_places, y_comesAt, y_yardsIn, .long y_g]), (b_supper, kI k 8 c_supper)]) (wr := [(x, kO 8 [x_tape, .ref td, x_draft, x_lines, x_draftLines, x_now, x_trial, x_sights, x_past, x_marks, .long x_drawn]), (td, kO 7 [td_names, td_kinds, td_yards, td_paces, td_skills, td_snow, td_law, .int 0, .int 0, .int td_bend, .int td_hour, .int td_bendTold, .int td_hourTold])]) ⟨hx, hb, hml, hown, hts⟩ hK hE hP hD hS hA (mX9_run l D k H.size y q1 q2 y_thrown y_taped y_tape y_size y_place y_begin y_token y_word y_told y_wrong b_supper y_guestName y_kind y_offTold y_pace y_cooks y_snow y_lineFrom y_lineTo y_codes y_code y_toldLines y_opened y_compared y_kept y_keptBy y_ahead y_against y_sum y_sumBy y_term y_termBy y_byNot y_valueOf y_given y_lines y_lineWhat y_lineA y_lineB y_seens y_seenIn y_seenYards y_seenNear y_s y_aside y_before y_marked y_undone y_isLaid y_done y_snowNow y_cameNow y_cookThen y_tasteThen y_places y_comesAt y_yardsIn y_g c_supper hs0) (cwV 2 hts gL_law_X9_run rfl rfl rfl (by decide +kernel) (by rw [hR]; exact ⟨Nat.le_of_ble_eq_true rfl, Nat.le_of_ble_eq_true rfl⟩)) [0, 1] [2, 3] rfl rfl (by decide) (by decide) (by decide) 0 rfl rfl rfl hl.1 rfl (Nat.le_of_ble_eq_true rfl) dL_law_464 (by rw [hR]; exact ⟨Nat.le_of_ble_eq_true rfl, Nat.le_of_ble_eq_true rfl⟩) (fun r6 u6 H locs hw6 hP hD hS => ?_)
  try dsimp only at hw6
  obtain rfl : r6 = (-1) := hw6
  have hP : va_P D vwCl [(x, kO 8 [x_tape, .ref td, x_draft, x_lines, x_draftLines, x_now, x_trial, x_sights, x_past, x_marks, .long x_drawn]), (td, kO 7 [td_names, td_kinds, td_yards, td_paces, td_skills, td_snow, td_law, .int 0, .int 0, .int td_bend, .int td_hour, .int td_bendTold, .int td_hourTold])] H := hP
  have hD : va_D A [(x, kO 8 [x_tape, .ref td, x_draft, x_lines, x_draftLines, x_now, x_trial, x_sights, x_past, x_marks, .long x_drawn]), (td, kO 7 [td_names, td_kinds, td_yards, td_paces, td_skills, td_snow, td_law, .int 0, .int 0, .int td_bend, .int td_hour, .int td_bendTold, .int td_hourTold])] := hD
  refine lv_icmp_eq (tgt := 1258) hx hb dL_law_467 (by decide) (fun c_7 => ?_) (fun c_7 => absurd rfl c_7)
  exact tail _ _ _ hS (lv_sub hl [0, 4] rfl)
