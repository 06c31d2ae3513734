def px_0 (k : Nat → ClassId) (x : Nat) (ta : Nat) (t : Nat) (dr : Nat) (n : Nat) (nd : Nat) (d : Nat) (v : Nat) (z : Nat) (pa : Nat) (x_marks : Nat) (x_drawn : Int64) (ta_signs : Nat) (ta_words : Nat) (ta_length : Nat) (ta_next : Nat) (ta_place : Int32) (ta_kind : Int32) (ta_value : Int32) (ta_letters : Int64) (ta_fault : Int32) (ta_signsF : Nat → Int32) (y : Nat) (y_thrown : Int32) (y_taped : Nat) (y_tape : Nat) (y_size : Nat) (y_place : Nat) (y_begin : Nat) (y_token : Nat) (y_word : Int64) (y_told : Int32) (y_wrong : Int32) (y_supper : Nat) (y_guestName : Nat) (y_kind : Nat) (y_offTold : Nat) (y_pace : Nat) (y_cooks : Nat) (y_snow : Nat) (y_lineFrom : Nat) (y_lineTo : Nat) (y_codes : Nat) (y_code : Nat) (y_toldLines : Int32) (y_opened : Nat) (y_compared : Nat) (y_kept : Nat) (y_keptBy : Nat) (y_ahead : Nat) (y_against : Nat) (y_sum : Nat) (y_sumBy : Nat) (y_term : Nat) (y_termBy : Nat) (y_byNot : Nat) (y_valueOf : Nat) (y_given : Int32) (y_lines : Nat) (y_lineWhat : Nat) (y_lineA : Nat) (y_lineB : Nat) (y_seens : Nat) (y_seenIn : Nat) (y_seenYards : Nat) (y_seenNear : Nat) (y_s : Nat) (y_aside : Nat) (y_before : Nat) (y_marked : Nat) (y_undone : Nat) (y_isLaid : Nat) (y_done : Nat) (y_snowNow : Int32) (y_cameNow : Int32) (y_cookThen : Int32) (y_tasteThen : Int32) (y_places : Nat) (y_comesAt : Nat) (y_yardsIn : Nat) (y_g : Int64) (y_tapeF : Nat → Int32) (u_ta_2 : Nat) (u_ta_signs : Nat → Int32) (ax : Int32) (u_y_0 : Int32) (u_y_1 : Nat) (u_y_tape : Nat → Int32) (ay : Int32) : va_W := [(x, kO 8 [.ref ta, .ref t, .ref dr, .ref n, .ref nd, .ref d, .ref v, .ref z, .ref pa, .ref x_marks, .long x_drawn]), (ta, kO 6 [.ref ta_signs, .ref ta_words, .int (nI u_ta_2), .int (nI ta_next), .int ta_place, .int ta_kind, .int ta_value, .long ta_letters, .int ta_fault]), (ta_signs, kB k 1000 u_ta_signs), (y, kO 9 [.int u_y_0, .int (nI u_y_1), .ref y_tape, .int (nI y_size), .int (nI y_place), .int (nI y_begin), .int (nI y_token), .long y_word, .int y_told, .int y_wrong, .ref y_supper, .ref y_guestName, .ref y_kind, .ref y_offTold, .ref y_pace, .ref y_cooks, .ref y_snow, .ref y_lineFrom, .ref y_lineTo, .ref y_codes, .int (nI y_code), .int y_toldLines, .ref y_opened, .ref y_compared, .ref y_kept, .ref y_keptBy, .ref y_ahead, .ref y_against, .ref y_sum, .ref y_sumBy, .ref y_term, .ref y_termBy, .ref y_byNot, .ref y_valueOf, .int y_given, .ref y_lines, .ref y_lineWhat, .ref y_lineA, .ref y_lineB, .ref y_seens, .ref y_seenIn, .ref y_seenYards, .ref y_seenNear, .ref y_s, .ref y_aside, .ref y_before, .ref y_marked, .ref y_undone, .ref y_isLaid, .int (nI y_done), .int y_snowNow, .int y_cameNow, .int y_cookThen, .int y_tasteThen, .ref y_places, .ref y_comesAt, .ref y_yardsIn, .long y_g]), (y_tape, kI k 1000 u_y_tape)]
theorem dL_law_188 : decode cL_law 188 = .ok (.aload_n 1, 1) := dk_aload_n_1 (by decide +kernel)
theorem dL_law_189 : decode cL_law 189 = .ok (.aload_n 0, 1) := dk_aload_n_0 (by decide +kernel)
theorem dL_law_190 : decode cL_law 190 = .ok (.iload 4, 2) := dk_iload (by decide +kernel)
theorem dL_law_192 : decode cL_law 192 = .ok (.iconst 1, 1) := dk_iconst_1 (by decide +kernel)
theorem dL_law_193 : decode cL_law 193 = .ok (.iadd, 1) := dk_iadd (by decide +kernel)
theorem dL_law_194 : decode cL_law 194 = .ok (.iaload, 1) := dk_iaload (by decide +kernel)
theorem dL_law_195 : decode cL_law 195 = .ok (.i2l, 1) := dk_i2l (by decide +kernel)
theorem dL_law_196 : decode cL_law 196 = .ok (.bipush 32, 2) := dk_bipush (by decide +kernel)
theorem dL_law_198 : decode cL_law 198 = .ok (.lshl, 1) := dk_lshl (by decide +kernel)
theorem dL_law_199 : decode cL_law 199 = .ok (.aload_n 0, 1) := dk_aload_n_0 (by decide +kernel)
theorem dL_law_200 : decode cL_law 200 = .ok (.iload 4, 2) := dk_iload (by decide +kernel)
theorem dL_law_202 : decode cL_law 202 = .ok (.iconst 2, 1) := dk_iconst_2 (by decide +kernel)
theorem dL_law_203 : decode cL_law 203 = .ok (.iadd, 1) := dk_iadd (by decide +kernel)
theorem dL_law_204 : decode cL_law 204 = .ok (.iaload, 1) := dk_iaload (by decide +kernel)
theorem dL_law_205 : decode cL_law 205 = .ok (.i2l, 1) := dk_i2l (by decide +kernel)
theorem dL_law_206 : decode cL_law 206 = .ok (.ldc2_w 19, 3) := dk_ldc2_w (by decide +kernel)
theorem dL_law_209 : decode cL_law 209 = .ok (.land, 1) := dk_land (by decide +kernel)
theorem dL_law_210 : decode cL_law 210 = .ok (.lor, 1) := dk_lor (by decide +kernel)
theorem dL_law_211 : decode cL_law 211 = .ok (.aload_n 0, 1) := dk_aload_n_0 (by decide +kernel)
theorem dL_law_212 : decode cL_law 212 = .ok (.iload 4, 2) := dk_iload (by decide +kernel)
theorem dL_law_214 : decode cL_law 214 = .ok (.iconst 3, 1) := dk_iconst_3 (by decide +kernel)
theorem dL_law_215 : decode cL_law 215 = .ok (.iadd, 1) := dk_iadd (by decide +kernel)
theorem dL_law_216 : decode cL_law 216 = .ok (.iaload, 1) := dk_iaload (by decide +kernel)
theorem dL_law_217 : decode cL_law 217 = .ok (.i2l, 1) := dk_i2l (by decide +kernel)
theorem dL_law_218 : decode cL_law 218 = .ok (.bipush 32, 2) := dk_bipush (by decide +kernel)
theorem dL_law_220 : decode cL_law 220 = .ok (.lshl, 1) := dk_lshl (by decide +kernel)
theorem dL_law_221 : decode cL_law 221 = .ok (.aload_n 0, 1) := dk_aload_n_0 (by decide +kernel)
theorem dL_law_222 : decode cL_law 222 = .ok (.iload 4, 2) := dk_iload (by decide +kernel)
theorem dL_law_224 : decode cL_law 224 = .ok (.iconst 4, 1) := dk_iconst_4 (by decide +kernel)
theorem dL_law_225 : decode cL_law 225 = .ok (.iadd, 1) := dk_iadd (by decide +kernel)
theorem dL_law_226 : decode cL_law 226 = .ok (.iaload, 1) := dk_iaload (by decide +kernel)
theorem dL_law_227 : decode cL_law 227 = .ok (.i2l, 1) := dk_i2l (by decide +kernel)
theorem dL_law_228 : decode cL_law 228 = .ok (.ldc2_w 19, 3) := dk_ldc2_w (by decide +kernel)
theorem dL_law_231 : decode cL_law 231 = .ok (.land, 1) := dk_land (by decide +kernel)
theorem dL_law_232 : decode cL_law 232 = .ok (.lor, 1) := dk_lor (by decide +kernel)
theorem dL_law_233 : decode cL_law 233 = .ok (.aload_n 0, 1) := dk_aload_n_0 (by decide +kernel)
theorem dL_law_234 : decode cL_law 234 = .ok (.iload 4, 2) := dk_iload (by decide +kernel)
theorem dL_law_236 : decode cL_law 236 = .ok (.iconst 5, 1) := dk_iconst_5 (by decide +kernel)
theorem dL_law_237 : decode cL_law 237 = .ok (.iadd, 1) := dk_iadd (by decide +kernel)
theorem dL_law_238 : decode cL_law 238 = .ok (.iaload, 1) := dk_iaload (by decide +kernel)
theorem dL_law_239 : decode cL_law 239 = .ok (.i2l, 1) := dk_i2l (by decide +kernel)
theorem dL_law_240 : decode cL_law 240 = .ok (.bipush 32, 2) := dk_bipush (by decide +kernel)
theorem dL_law_242 : decode cL_law 242 = .ok (.lshl, 1) := dk_lshl (by decide +kernel)
theorem dL_law_243 : decode cL_law 243 = .ok (.aload_n 0, 1) := dk_aload_n_0 (by decide +kernel)
theorem dL_law_244 : decode cL_law 244 = .ok (.iload 4, 2) := dk_iload (by decide +kernel)
theorem dL_law_246 : decode cL_law 246 = .ok (.bipush 6, 2) := dk_bipush (by decide +kernel)
theorem dL_law_248 : decode cL_law 248 = .ok (.iadd, 1) := dk_iadd (by decide +kernel)
theorem dL_law_249 : decode cL_law 249 = .ok (.iaload, 1) := dk_iaload (by decide +kernel)
theorem dL_law_250 : decode cL_law 250 = .ok (.i2l, 1) := dk_i2l (by decide +kernel)
theorem dL_law_251 : decode cL_law 251 = .ok (.ldc2_w 19, 3) := dk_ldc2_w (by decide +kernel)
theorem dL_law_254 : decode cL_law 254 = .ok (.land, 1) := dk_land (by decide +kernel)
theorem dL_law_255 : decode cL_law 255 = .ok (.lor, 1) := dk_lor (by decide +kernel)
theorem dL_law_256 : decode cL_law 256 = .ok (.invokevirtual 21, 3) := dk_invokevirtual (by decide +kernel)
theorem dL_law_259 : decode cL_law 259 = .ok (.pop, 1) := dk_pop (by decide +kernel)
theorem dL_law_260 : decode cL_law 260 = .ok (.aload_n 2, 1) := dk_aload_n_2 (by decide +kernel)
theorem dL_law_261 : decode cL_law 261 = .ok (.aload_n 0, 1) := dk_aload_n_0 (by decide +kernel)
theorem dL_law_262 : decode cL_law 262 = .ok (.iload 4, 2) := dk_iload (by decide +kernel)
theorem dL_law_264 : decode cL_law 264 = .ok (.iconst 1, 1) := dk_iconst_1 (by decide +kernel)
theorem dL_law_265 : decode cL_law 265 = .ok (.iadd, 1) := dk_iadd (by decide +kernel)
theorem dL_law_266 : decode cL_law 266 = .ok (.iaload, 1) := dk_iaload (by decide +kernel)
theorem dL_law_267 : decode cL_law 267 = .ok (.i2l, 1) := dk_i2l (by decide +kernel)
theorem dL_law_268 : decode cL_law 268 = .ok (.bipush 32, 2) := dk_bipush (by decide +kernel)
theorem dL_law_270 : decode cL_law 270 = .ok (.lshl, 1) := dk_lshl (by decide +kernel)
theorem dL_law_271 : decode cL_law 271 = .ok (.aload_n 0, 1) := dk_aload_n_0 (by decide +kernel)
theorem dL_law_272 : decode cL_law 272 = .ok (.iload 4, 2) := dk_iload (by decide +kernel)
theorem dL_law_274 : decode cL_law 274 = .ok (.iconst 2, 1) := dk_iconst_2 (by decide +kernel)
theorem dL_law_275 : decode cL_law 275 = .ok (.iadd, 1) := dk_iadd (by decide +kernel)
theorem dL_law_276 : decode cL_law 276 = .ok (.iaload, 1) := dk_iaload (by decide +kernel)
theorem dL_law_277 : decode cL_law 277 = .ok (.i2l, 1) := dk_i2l (by decide +kernel)
theorem dL_law_278 : decode cL_law 278 = .ok (.ldc2_w 19, 3) := dk_ldc2_w (by decide +kernel)
theorem dL_law_281 : decode cL_law 281 = .ok (.land, 1) := dk_land (by decide +kernel)
theorem dL_law_282 : decode cL_law 282 = .ok (.lor, 1) := dk_lor (by decide +kernel)
theorem dL_law_283 : decode cL_law 283 = .ok (.aload_n 0, 1) := dk_aload_n_0 (by decide +kernel)
theorem dL_law_284 : decode cL_law 284 = .ok (.iload 4, 2) := dk_iload (by decide +kernel)
theorem dL_law_286 : decode cL_law 286 = .ok (.iconst 3, 1) := dk_iconst_3 (by decide +kernel)
theorem dL_law_287 : decode cL_law 287 = .ok (.iadd, 1) := dk_iadd (by decide +kernel)
theorem dL_law_288 : decode cL_law 288 = .ok (.iaload, 1) := dk_iaload (by decide +kernel)
theorem dL_law_289 : decode cL_law 289 = .ok (.i2l, 1) := dk_i2l (by decide +kernel)
theorem dL_law_290 : decode cL_law 290 = .ok (.bipush 32, 2) := dk_bipush (by decide +kernel)
theorem dL_law_292 : decode cL_law 292 = .ok (.lshl, 1) := dk_lshl (by decide +kernel)
theorem dL_law_293 : decode cL_law 293 = .ok (.aload_n 0, 1) := dk_aload_n_0 (by decide +kernel)
theorem dL_law_294 : decode cL_law 294 = .ok (.iload 4, 2) := dk_iload (by decide +kernel)
theorem dL_law_296 : decode cL_law 296 = .ok (.iconst 4, 1) := dk_iconst_4 (by decide +kernel)
theorem dL_law_297 : decode cL_law 297 = .ok (.iadd, 1) := dk_iadd (by decide +kernel)
theorem dL_law_298 : decode cL_law 298 = .ok (.iaload, 1) := dk_iaload (by decide +kernel)
theorem dL_law_299 : decode cL_law 299 = .ok (.i2l, 1) := dk_i2l (by decide +kernel)
theorem dL_law_300 : decode cL_law 300 = .ok (.ldc2_w 19, 3) := dk_ldc2_w (by decide +kernel)
theorem dL_law_303 : decode cL_law 303 = .ok (.land, 1) := dk_land (by decide +kernel)
theorem dL_law_304 : decode cL_law 304 = .ok (.lor, 1) := dk_lor (by decide +kernel)
theorem dL_law_305 : decode cL_law 305 = .ok (.aload_n 0, 1) := dk_aload_n_0 (by decide +kernel)
theorem dL_law_306 : decode cL_law 306 = .ok (.iload 4, 2) := dk_iload (by decide +kernel)
theorem dL_law_308 : decode cL_law 308 = .ok (.iconst 5, 1) := dk_iconst_5 (by decide +kernel)
theorem dL_law_309 : decode cL_law 309 = .ok (.iadd, 1) := dk_iadd (by decide +kernel)
theorem dL_law_310 : decode cL_law 310 = .ok (.iaload, 1) := dk_iaload (by decide +kernel)
theorem dL_law_311 : decode cL_law 311 = .ok (.i2l, 1) := dk_i2l (by decide +kernel)
theorem dL_law_312 : decode cL_law 312 = .ok (.bipush 32, 2) := dk_bipush (by decide +kernel)
theorem dL_law_314 : decode cL_law 314 = .ok (.lshl, 1) := dk_lshl (by decide +kernel)
theorem dL_law_315 : decode cL_law 315 = .ok (.aload_n 0, 1) := dk_aload_n_0 (by decide +kernel)
theorem dL_law_316 : decode cL_law 316 = .ok (.iload 4, 2) := dk_iload (by decide +kernel)
theorem dL_law_318 : decode cL_law 318 = .ok (.bipush 6, 2) := dk_bipush (by decide +kernel)
theorem dL_law_320 : decode cL_law 320 = .ok (.iadd, 1) := dk_iadd (by decide +kernel)
theorem dL_law_321 : decode cL_law 321 = .ok (.iaload, 1) := dk_iaload (by decide +kernel)
theorem dL_law_322 : decode cL_law 322 = .ok (.i2l, 1) := dk_i2l (by decide +kernel)
theorem dL_law_323 : decode cL_law 323 = .ok (.ldc2_w 19, 3) := dk_ldc2_w (by decide +kernel)
theorem dL_law_326 : decode cL_law 326 = .ok (.land, 1) := dk_land (by decide +kernel)
theorem dL_law_327 : decode cL_law 327 = .ok (.lor, 1) := dk_lor (by decide +kernel)
theorem dL_law_328 : decode cL_law 328 = .ok (.invokevirtual 25, 3) := dk_invokevirtual (by decide +kernel)
theorem dL_law_331 : decode cL_law 331 = .ok (.pop, 1) := dk_pop (by decide +kernel)
theorem dL_law_332 : decode cL_law 332 = .ok (.goto 898, 3) := dk_goto (by decide +kernel)
set_option maxRecDepth 100000 in
theorem kggL_law_X8_feed : GoodIn wsL_law0 wsX8_feed := goodIn_sub (List.forall_mem_cons.mpr ⟨kr_r10 _ (List.mem_of_getElem? (i := 13) rfl), List.forall_mem_append.mpr ⟨List.forall_mem_append.mpr ⟨List.forall_mem_cons.mpr ⟨kr_r1 _ (List.mem_of_getElem? (i := 17) rfl), List.forall_mem_cons.mpr ⟨kr_r10 _ (List.mem_of_getElem? (i := 14) rfl), List.forall_mem_cons.mpr ⟨kr_r10 _ (List.mem_of_getElem? (i := 15) rfl), List.forall_mem_cons.mpr ⟨kr_r10 _ (List.mem_of_getElem? (i := 16) rfl), List.forall_mem_cons.mpr ⟨kr_r10 _ (List.mem_of_getElem? (i := 17) rfl), List.forall_mem_cons.mpr ⟨kr_r1 _ (List.mem_of_getElem? (i := 16) rfl), List.forall_mem_cons.mpr ⟨kr_r10 _ (List.mem_of_getElem? (i := 18) rfl), List.forall_mem_cons.mpr ⟨kr_r10 _ (List.mem_of_getElem? (i := 19) rfl), List.forall_mem_cons.mpr ⟨kr_r10 _ (List.mem_of_getElem? (i := 20) rfl), List.forall_mem_cons.mpr ⟨kr_r3 _ (List.mem_of_getElem? (i := 2) rfl), fun _ h => absurd h List.not_mem_nil⟩⟩⟩⟩⟩⟩⟩⟩⟩⟩, kx8⟩, kx6⟩⟩) (by decide +kernel)
set_option maxRecDepth 100000 in
theorem kgL_law_X8_feed : GoodIn wsL_law0 (wsV RL 21 RX8 yX8_feed wsX8_feed) := goodIn_app (goodIn_sub (List.forall_mem_cons.mpr ⟨kr_r10 _ (List.mem_of_getElem? (i := 10) rfl), List.forall_mem_cons.mpr ⟨kr_r10 _ (List.mem_of_getElem? (i := 11) rfl), List.forall_mem_cons.mpr ⟨kr_r10 _ (List.mem_of_getElem? (i := 12) rfl), List.forall_mem_cons.mpr ⟨kr_r1 _ (List.mem_of_getElem? (i := 2) rfl), fun _ h => absurd h List.not_mem_nil⟩⟩⟩⟩) (by decide +kernel)) kggL_law_X8_feed
set_option maxRecDepth 100000 in
theorem kggL_law_X9_feed : GoodIn wsL_law0 wsX9_feed := goodIn_sub (List.forall_mem_cons.mpr ⟨kr_r11 _ (List.mem_of_getElem? (i := 0) rfl), List.forall_mem_append.mpr ⟨List.forall_mem_cons.mpr ⟨kr_r11 _ (List.mem_of_getElem? (i := 1) rfl), List.forall_mem_cons.mpr ⟨kr_r11 _ (List.mem_of_getElem? (i := 2) rfl), List.forall_mem_cons.mpr ⟨kr_r11 _ (List.mem_of_getElem? (i := 3) rfl), List.forall_mem_cons.mpr ⟨kr_r8 _ (List.mem_of_getElem? (i := 5) rfl), fun _ h => absurd h List.not_mem_nil⟩⟩⟩⟩, kx9⟩⟩) (by decide +kernel)
set_option maxRecDepth 100000 in
theorem kgL_law_X9_feed : GoodIn wsL_law0 (wsV RL 25 RX9 yX9_feed wsX9_feed) := goodIn_app (goodIn_sub (List.forall_mem_cons.mpr ⟨kr_r10 _ (List.mem_of_getElem? (i := 21) rfl), List.forall_mem_cons.mpr ⟨kr_r10 _ (List.mem_of_getElem? (i := 22) rfl), List.forall_mem_cons.mpr ⟨kr_r10 _ (List.mem_of_getElem? (i := 23) rfl), List.forall_mem_cons.mpr ⟨kr_r1 _ (List.mem_of_getElem? (i := 5) rfl), fun _ h => absurd h List.not_mem_nil⟩⟩⟩⟩) (by decide +kernel)) kggL_law_X9_feed
set_option maxHeartbeats 4000000 in
set_option maxRecDepth 100000 in
theorem law_case0 {p : Program} {l : Launch} {e : Env} {R : Room} {s : State} {m : MethodId} {args : Array Value} {below : List Frame} {meth : Method} {c : Code} {b L : Nat} {xs : Nat → Int32} {Q : State → Prop} {A : Nat → Prop} (hx : p.tables.exec = Jvm.exec) (hb : c.code = code) (hml : c.maxLocals = 7) (hown : s.vm.findClass RL = some m.cls) (hts : ∀ w ∈ wsL_law0, w.before args s = true) (hX0 : va_X b L xs s s.heap) (hbl : b < s.heap.size) (hbA : ¬ A b) (hA : ∀ q : Nat, s.heap.size ≤ q → A q) (hR : R = room_1) (D : va_G) (k : Nat → ClassId) (hK : va_K D vwCl (tysW k) s) (hE : kz_E s) (a0 sa sv : Nat) (f : Nat → Int32) (hX : ky_X a0 sa sv f s) (hF : FT f) (hAX : ∀ q, A q → a0 ≤ q) (ha0 : a0 ≤ s.heap.size) (j7 cells slots : Nat) (hj7 : j7 + 7 ≤ L) (hL : L ≤ 3584) (hcR : cells ≤ R.cells) (hsR : slots ≤ R.slots) (oa : Nat) (q1 q2 q3 q4 q5 q6 : Int32) (e1 : xs (Int32.toNatClampNeg (nI (j7 + 1))) = q1) (e2 : xs (Int32.toNatClampNeg (nI (j7 + 2))) = q2) (e3 : xs (Int32.toNatClampNeg (nI (j7 + 3))) = q3) (e4 : xs (Int32.toNatClampNeg (nI (j7 + 4))) = q4) (e5 : xs (Int32.toNatClampNeg (nI (j7 + 5))) = q5) (e6 : xs (Int32.toNatClampNeg (nI (j7 + 6))) = q6) (pl : va_W) (x : Nat) (ta : Nat) (t : Nat) (dr : Nat) (n : Nat) (nd : Nat) (d : Nat) (v : Nat) (z : Nat) (pa : Nat) (x_marks : Nat) (x_drawn : Int64) (ta_signs : Nat) (ta_words : Nat) (ta_length : Nat) (ta_next : Nat) (ta_place : Int32) (ta_kind : Int32) (ta_value : Int32) (ta_letters : Int64) (ta_fault : Int32) (ta_signsF : Nat → Int32) (y : Nat) (y_thrown : Int32) (y_taped : Nat) (y_tape : Nat) (y_size : Nat) (y_place : Nat) (y_begin : Nat) (y_token : Nat) (y_word : Int64) (y_told : Int32) (y_wrong : Int32) (y_supper : Nat) (y_guestName : Nat) (y_kind : Nat) (y_offTold : Nat) (y_pace : Nat) (y_cooks : Nat) (y_snow : Nat) (y_lineFrom : Nat) (y_lineTo : Nat) (y_codes : Nat) (y_code : Nat) (y_toldLines : Int32) (y_opened : Nat) (y_compared : Nat) (y_kept : Nat) (y_keptBy : Nat) (y_ahead : Nat) (y_against : Nat) (y_sum : Nat) (y_sumBy : Nat) (y_term : Nat) (y_termBy : Nat) (y_byNot : Nat) (y_valueOf : Nat) (y_given : Int32) (y_lines : Nat) (y_lineWhat : Nat) (y_lineA : Nat) (y_lineB : Nat) (y_seens : Nat) (y_seenIn : Nat) (y_seenYards : Nat) (y_seenNear : Nat) (y_s : Nat) (y_aside : Nat) (y_before : Nat) (y_marked : Nat) (y_undone : Nat) (y_isLaid : Nat) (y_done : Nat) (y_snowNow : Int32) (y_cameNow : Int32) (y_cookThen : Int32) (y_tasteThen : Int32) (y_places : Nat) (y_comesAt : Nat) (y_yardsIn : Nat) (y_g : Int64) (y_tapeF : Nat → Int32) (h_ta_length : ta_length ≤ 1000) (h_ta_next : ta_next ≤ 1000) (h_y_taped : y_taped ≤ 1000) (h_y_size : y_size ≤ 1000) (h_y_place : y_place ≤ 1000) (h_y_begin : y_begin ≤ 1000) (h_y_token : y_token ≤ 4) (h_y_told : 0 ≤ Int32.toInt y_told ∧ Int32.toInt y_told ≤ 9999) (h_y_code : y_code ≤ 2000) (h_y_done : y_done ≤ 16) {H : Heap} {locs : List Loc} {ls : Array Slot} (hP : va_P D vwCl (apW [(x, kO 8 [.ref ta, .ref t, .ref dr, .ref n, .ref nd, .ref d, .ref v, .ref z, .ref pa, .ref x_marks, .long x_drawn]), (ta, kO 6 [.ref ta_signs, .ref ta_words, .int (nI ta_length), .int (nI ta_next), .int ta_place, .int ta_kind, .int ta_value, .long ta_letters, .int ta_fault]), (ta_signs, kB k 1000 ta_signsF), (y, kO 9 [.int y_thrown, .int (nI y_taped), .ref y_tape, .int (nI y_size), .int (nI y_place), .int (nI y_begin), .int (nI y_token), .long y_word, .int y_told, .int y_wrong, .ref y_supper, .ref y_guestName, .ref y_kind, .ref y_offTold, .ref y_pace, .ref y_cooks, .ref y_snow, .ref y_lineFrom, .ref y_lineTo, .ref y_codes, .int (nI y_code), .int y_toldLines, .ref y_opened, .ref y_compared, .ref y_kept, .ref y_keptBy, .ref y_ahead, .ref y_against, .ref y_sum, .ref y_sumBy, .ref y_term, .ref y_termBy, .ref y_byNot, .ref y_valueOf, .int y_given, .ref y_lines, .ref y_lineWhat, .ref y_lineA, .ref y_lineB, .ref y_seens, .ref y_seenIn, .ref y_seenYards, .ref y_seenNear, .ref y_s, .ref y_aside, .ref y_before, .ref y_marked, .ref y_undone, .ref y_isLaid, .int (nI y_done), .int y_snowNow, .int y_cameNow, .int y_cookThen, .int y_tasteThen, .ref y_places, .ref y_comesAt, .ref y_yardsIn, .long y_g]), (y_tape, kI k 1000 y_tapeF)] pl) H) (hD : va_D A (apW [(x, kO 8 [.ref ta, .ref t, .ref dr, .ref n, .ref nd, .ref d, .ref v, .ref z, .ref pa, .ref x_marks, .long x_drawn]), (ta, kO 6 [.ref ta_signs, .ref ta_words, .int (nI ta_length), .int (nI ta_next), .int ta_place, .int ta_kind, .int ta_value, .long ta_letters, .int ta_fault]), (ta_signs, kB k 1000 ta_signsF), (y, kO 9 [.int y_thrown, .int (nI y_taped), .ref y_tape, .int (nI y_size), .int (nI y_place), .int (nI y_begin), .int (nI y_token), .long y_word, .int y_told, .int y_wrong, .ref y_supper, .ref y_guestName, .ref y_kind, .ref y_offTold, .ref y_pace, .ref y_cooks, .ref y_snow, .ref y_lineFrom, .ref y_lineTo, .ref y_codes, .int (nI y_code), .int y_toldLines, .ref y_opened, .ref y_compared, .ref y_kept, .ref y_keptBy, .ref y_ahead, .ref y_against, .ref y_sum, .ref y_sumBy, .ref y_term, .ref y_termBy, .ref y_byNot, .ref y_valueOf, .int y_given, .ref y_lines, .ref y_lineWhat, .ref y_lineA, .ref y_lineB, .ref y_seens, .ref y_seenIn, .ref y_seenYards, .ref y_seenNear, .ref y_s, .ref y_aside, .ref y_before, .ref y_marked, .ref y_undone, .ref y_isLaid, .int (nI y_done), .int y_snowNow, .int y_cameNow, .int y_cookThen, .int y_tasteThen, .ref y_places, .ref y_comesAt, .ref y_yardsIn, .long y_g]), (y_tape, kI k 1000 y_tapeF)] pl)) (hS : va_S A s.heap H locs) (hl : lv_has ls 7 [(4, .int (nI j7)), (3, .ref oa), (2, .ref y), (1, .ref x), (0, .ref b)]) (tail : ∀ (u_ta_2 : Nat) (u_ta_signs : Nat → Int32) (ax : Int32) (u_y_0 : Int32) (u_y_1 : Nat) (u_y_tape : Nat → Int32) (ay : Int32) (H : Heap) (locs : List Loc) (ls : Array Slot), (u_ta_2 ≤ 1000) → ((u_ta_2, u_ta_signs, ax) = (fX8_feed ((q1.toInt64 <<< ((32 : Int32).toInt64 &&& 63)) ||| (q2.toInt64 &&& 4294967295)) ((q3.toInt64 <<< ((32 : Int32).toInt64 &&& 63)) ||| (q4.toInt64 &&& 4294967295)) ((q5.toInt64 <<< ((32 : Int32).toInt64 &&& 63)) ||| (q6.toInt64 &&& 4294967295)) ta_length ta_signsF)) → (u_y_1 ≤ 1000) → ((u_y_0, u_y_1, u_y_tape, ay) = (fX9_feed ((q1.toInt64 <<< ((32 : Int32).toInt64 &&& 63)) ||| (q2.toInt64 &&& 4294967295)) ((q3.toInt64 <<< ((32 : Int32).toInt64 &&& 63)) ||| (q4.toInt64 &&& 4294967295)) ((q5.toInt64 <<< ((32 : Int32).toInt64 &&& 63)) ||| (q6.toInt64 &&& 4294967295)) y_taped y_tapeF)) → va_P D vwCl (apW (px_0 k x ta t dr n nd d v z pa x_marks x_drawn ta_signs ta_words ta_length ta_next ta_place ta_kind ta_value ta_letters ta_fault ta_signsF y y_thrown y_taped y_tape y_size y_place y_begin y_token y_word y_told y_wrong y_supper y_guestName y_kind y_offTold y_pace y_cooks y_snow y_lineFrom y_lineTo y_codes y_code y_toldLines y_opened y_compared y_kept y_keptBy y_ahead y_against y_sum y_sumBy y_term y_termBy y_byNot y_valueOf y_given y_lines y_lineWhat y_lineA y_lineB y_seens y_seenIn y_seenYards y_seenNear y_s y_aside y_before y_marked y_undone y_isLaid y_done y_snowNow y_cameNow y_cookThen y_tasteThen y_places y_comesAt y_yardsIn y_g y_tapeF u_ta_2 u_ta_signs ax u_y_0 u_y_1 u_y_tape ay) pl) H → va_D A (apW (px_0 k x ta t dr n nd d v z pa x_marks x_drawn ta_signs ta_words ta_length ta_next ta_place ta_kind ta_value ta_letters ta_fault ta_signsF y y_thrown y_taped y_tape y_size y_place y_begin y_token y_word y_told y_wrong y_supper y_guestName y_kind y_offTold y_pace y_cooks y_snow y_lineFrom y_lineTo y_codes y_code y_toldLines y_opened y_compared y_kept y_keptBy y_ahead y_against y_sum y_sumBy y_term y_termBy y_byNot y_valueOf y_given y_lines y_lineWhat y_lineA y_lineB y_seens y_seenIn y_seenYards y_seenNear y_s y_aside y_before y_marked y_undone y_isLaid y_done y_snowNow y_cameNow y_cookThen y_tasteThen y_places y_comesAt y_yardsIn y_g y_tapeF u_ta_2 u_ta_signs ax u_y_0 u_y_1 u_y_tape ay) pl) → va_S A s.heap H locs → lv_has ls 7 [(4, .int (nI j7)), (3, .ref oa), (2, .ref y), (1, .ref x), (0, .ref b)] → W p l e R s m args below meth c H locs cells slots Q (F0 m 1230 ls [])) : W p l e R s m args below meth c H locs cells slots Q (F0 m 188 ls []) := by
  have lc19 := hts (.constantLong RL 19 (4294967295)) (kr_r1 _ (List.mem_of_getElem? (i := 7) rfl))
  refine lv_aload_n hx hb dL_law_188 rfl (lv_at hl 3 rfl) ?_
  refine lv_aload_n hx hb dL_law_189 rfl (lv_at hl 4 rfl) ?_
  refine lv_iload hx hb dL_law_190 (lv_at hl 0 rfl) ?_
  refine lv_iconst (v := 1) hx hb dL_law_192 (by decide) ?_
  refine lv_iadd hx hb dL_law_193 ?_
  refine lv_topi (fun x1 ex1 => ?_)
  exact by
   obtain rfl : x1 = (nI (j7 + 1)) := ex1.trans (nI_add j7 1)
   refine va_sld hx hb hX0 hbl hbA hS (vp_in_nI (n := (j7 + 1)) (by omega) (by omega)) dL_law_194 ?_
   refine kz_top (w := .int q1) (by rw [e1]) ?_
   refine lv_i2l hx hb dL_law_195 rfl ?_
   refine lv_bipush (v := 32) hx hb dL_law_196 (by decide) ?_
   refine lv_lshl hx hb dL_law_198 rfl ?_
   refine lv_aload_n hx hb dL_law_199 rfl (lv_at hl 4 rfl) ?_
   refine lv_iload hx hb dL_law_200 (lv_at hl 0 rfl) ?_
   refine lv_iconst (v := 2) hx hb dL_law_202 (by decide) ?_
   refine lv_iadd hx hb dL_law_203 ?_
   refine lv_topi (fun x2 ex2 => ?_)
   exact by
    obtain rfl : x2 = (nI (j7 + 2)) := ex2.trans (nI_add j7 2)
    refine va_sld hx hb hX0 hbl hbA hS (vp_in_nI (n := (j7 + 2)) (by omega) (by omega)) dL_law_204 ?_
    refine kz_top (w := .int q2) (by rw [e2]) ?_
    refine lv_i2l hx hb dL_law_205 rfl ?_
    refine lv_ldc2 hx hb hown lc19 dL_law_206 ?_
    refine lv_land hx hb dL_law_209 ?_
    refine lv_lor hx hb dL_law_210 ?_
    refine lv_aload_n hx hb dL_law_211 rfl (lv_at hl 4 rfl) ?_
    refine lv_iload hx hb dL_law_212 (lv_at hl 0 rfl) ?_
    refine lv_iconst (v := 3) hx hb dL_law_214 (by decide) ?_
    refine lv_iadd hx hb dL_law_215 ?_
    refine lv_topi (fun x3 ex3 => ?_)
    exact by
     obtain rfl : x3 = (nI (j7 + 3)) := ex3.trans (nI_add j7 3)
     refine va_sld hx hb hX0 hbl hbA hS (vp_in_nI (n := (j7 + 3)) (by omega) (by omega)) dL_law_216 ?_
     refine kz_top (w := .int q3) (by rw [e3]) ?_
     refine lv_i2l hx hb dL_law_217 rfl ?_
     refine lv_bipush (v := 32) hx hb dL_law_218 (by decide) ?_
     refine lv_lshl hx hb dL_law_220 rfl ?_
     refine lv_aload_n hx hb dL_law_221 rfl (lv_at hl 4 rfl) ?_
     refine lv_iload hx hb dL_law_222 (lv_at hl 0 rfl) ?_
     refine lv_iconst (v := 4) hx hb dL_law_224 (by decide) ?_
     refine lv_iadd hx hb dL_law_225 ?_
     refine lv_topi (fun x4 ex4 => ?_)
     exact by
      obtain rfl : x4 = (nI (j7 + 4)) := ex4.trans (nI_add j7 4)
      refine va_sld hx hb hX0 hbl hbA hS (vp_in_nI (n := (j7 + 4)) (by omega) (by omega)) dL_law_226 ?_
      refine kz_top (w := .int q4) (by rw [e4]) ?_
      refine lv_i2l hx hb dL_law_227 rfl ?_
      refine lv_ldc2 hx hb hown lc19 dL_law_228 ?_
      refine lv_land hx hb dL_law_231 ?_
      refine lv_lor hx hb dL_law_232 ?_
      refine lv_aload_n hx hb dL_law_233 rfl (lv_at hl 4 rfl) ?_
      refine lv_iload hx hb dL_law_234 (lv_at hl 0 rfl) ?_
      refine lv_iconst (v := 5) hx hb dL_law_236 (by decide) ?_
      refine lv_iadd hx hb dL_law_237 ?_
      refine lv_topi (fun x5 ex5 => ?_)
      exact by
       obtain rfl : x5 = (nI (j7 + 5)) := ex5.trans (nI_add j7 5)
       refine va_sld hx hb hX0 hbl hbA hS (vp_in_nI (n := (j7 + 5)) (by omega) (by omega)) dL_law_238 ?_
       refine kz_top (w := .int q5) (by rw [e5]) ?_
       refine lv_i2l hx hb dL_law_239 rfl ?_
       refine lv_bipush (v := 32) hx hb dL_law_240 (by decide) ?_
       refine lv_lshl hx hb dL_law_242 rfl ?_
       refine lv_aload_n hx hb dL_law_243 rfl (lv_at hl 4 rfl) ?_
       refine lv_iload hx hb dL_law_244 (lv_at hl 0 rfl) ?_
       refine lv_bipush (v := 6) hx hb dL_law_246 (by decide) ?_
       refine lv_iadd hx hb dL_law_248 ?_
       refine lv_topi (fun x6 ex6 => ?_)
       exact by
        obtain rfl : x6 = (nI (j7 + 6)) := ex6.trans (nI_add j7 6)
        refine va_sld hx hb hX0 hbl hbA hS (vp_in_nI (n := (j7 + 6)) (by omega) (by omega)) dL_law_249 ?_
        refine kz_top (w := .int q6) (by rw [e6]) ?_
        refine lv_i2l hx hb dL_law_250 rfl ?_
        refine lv_ldc2 hx hb hown lc19 dL_law_251 ?_
        refine lv_land hx hb dL_law_254 ?_
        refine lv_lor hx hb dL_law_255 ?_
        refine kz_ViQ (As := [.long ((q1.toInt64 <<< ((32 : Int32).toInt64 &&& 63)) ||| (q2.toInt64 &&& 4294967295)), .long ((q3.toInt64 <<< ((32 : Int32).toInt64 &&& 63)) ||| (q4.toInt64 &&& 4294967295)), .long ((q5.toInt64 <<< ((32 : Int32).toInt64 &&& 63)) ||| (q6.toInt64 &&& 4294967295))]) (rest := []) (wc := [(x, kO 8 [.ref ta, .ref t, .ref dr, .ref n, .ref nd, .ref d, .ref v, .ref z, .ref pa, .ref x_marks, .long x_drawn]), (ta, kO 6 [.ref ta_signs, .ref ta_words, .int (nI ta_length), .int (nI ta_next), .int ta_place, .int ta_kind, .int ta_value, .long ta_letters, .int ta_fault]), (ta_signs, kB k 1000 ta_signsF)]) (wr := [(y, kO 9 [.int y_thrown, .int (nI y_taped), .ref y_tape, .int (nI y_size), .int (nI y_place), .int (nI y_begin), .int (nI y_token), .long y_word, .int y_told, .int y_wrong, .ref y_supper, .ref y_guestName, .ref y_kind, .ref y_offTold, .ref y_pace, .ref y_cooks, .ref y_snow, .ref y_lineFrom, .ref y_lineTo, .ref y_codes, .int (nI y_code), .int y_toldLines, .ref y_opened, .ref y_compared, .ref y_kept, .ref y_keptBy, .ref y_ahead, .ref y_against, .ref y_sum, .ref y_sumBy, .ref y_term, .ref y_termBy, .ref y_byNot, .ref y_valueOf, .int y_given, .ref y_lines, .ref y_lineWhat, .ref y_lineA, .ref y_lineB, .ref y_seens, .ref y_seenIn, .ref y_seenYards, .ref y_seenNear, .ref y_s, .ref y_aside, .ref y_before, .ref y_marked, .ref y_undone, .ref y_isLaid, .int (nI y_done), .int y_snowNow, .int y_cameNow, .int y_cookThen, .int y_tasteThen, .ref y_places, .ref y_comesAt, .ref y_yardsIn, .long y_g]), (y_tape, kI k 1000 y_tapeF)]) ⟨hx, hb, hml, hown, hts⟩ hK hE hP hD hS hA (sX8_feed l D k H.size x ((q1.toInt64 <<< ((32 : Int32).toInt64 &&& 63)) ||| (q2.toInt64 &&& 4294967295)) ((q3.toInt64 <<< ((32 : Int32).toInt64 &&& 63)) ||| (q4.toInt64 &&& 4294967295)) ((q5.toInt64 <<< ((32 : Int32).toInt64 &&& 63)) ||| (q6.toInt64 &&& 4294967295)) ta t dr n nd d v z pa x_marks x_drawn ta_signs ta_words ta_length ta_next ta_place ta_kind ta_value ta_letters ta_fault ta_signsF (by first | omega | assumption | decide) (by first | omega | assumption | decide)) (cwV 3 hts kgL_law_X8_feed rfl rfl rfl (by decide +kernel) (by rw [hR]; exact ⟨Nat.le_of_ble_eq_true rfl, Nat.le_of_ble_eq_true rfl⟩)) [0, 1, 2] [3, 4] rfl rfl (by decide +kernel) (by decide +kernel) (by decide +kernel) 0 rfl rfl rfl hl.1 rfl (Nat.le_of_ble_eq_true rfl) dL_law_256 (by exact ⟨hcR, hsR⟩) (fun r7 u7 H locs hw7 hP hD hS => ?_)
        exact by
         obtain ⟨u_ta_27, u_ta_signs7⟩ := u7
         try dsimp only at hw7
         have hP : va_P D vwCl (apW [(y, kO 9 [.int y_thrown, .int (nI y_taped), .ref y_tape, .int (nI y_size), .int (nI y_place), .int (nI y_begin), .int (nI y_token), .long y_word, .int y_told, .int y_wrong, .ref y_supper, .ref y_guestName, .ref y_kind, .ref y_offTold, .ref y_pace, .ref y_cooks, .ref y_snow, .ref y_lineFrom, .ref y_lineTo, .ref y_codes, .int (nI y_code), .int y_toldLines, .ref y_opened, .ref y_compared, .ref y_kept, .ref y_keptBy, .ref y_ahead, .ref y_against, .ref y_sum, .ref y_sumBy, .ref y_term, .ref y_termBy, .ref y_byNot, .ref y_valueOf, .int y_given, .ref y_lines, .ref y_lineWhat, .ref y_lineA, .ref y_lineB, .ref y_seens, .ref y_seenIn, .ref y_seenYards, .ref y_seenNear, .ref y_s, .ref y_aside, .ref y_before, .ref y_marked, .ref y_undone, .ref y_isLaid, .int (nI y_done), .int y_snowNow, .int y_cameNow, .int y_cookThen, .int y_tasteThen, .ref y_places, .ref y_comesAt, .ref y_yardsIn, .long y_g]), (y_tape, kI k 1000 y_tapeF), (x, kO 8 [.ref ta, .ref t, .ref dr, .ref n, .ref nd, .ref d, .ref v, .ref z, .ref pa, .ref x_marks, .long x_drawn]), (ta, kO 6 [.ref ta_signs, .ref ta_words, .int (nI u_ta_27), .int (nI ta_next), .int ta_place, .int ta_kind, .int ta_value, .long ta_letters, .int ta_fault]), (ta_signs, kB k 1000 u_ta_signs7)] pl) H := hP
         have hD : va_D A (apW [(y, kO 9 [.int y_thrown, .int (nI y_taped), .ref y_tape, .int (nI y_size), .int (nI y_place), .int (nI y_begin), .int (nI y_token), .long y_word, .int y_told, .int y_wrong, .ref y_supper, .ref y_guestName, .ref y_kind, .ref y_offTold, .ref y_pace, .ref y_cooks, .ref y_snow, .ref y_lineFrom, .ref y_lineTo, .ref y_codes, .int (nI y_code), .int y_toldLines, .ref y_opened, .ref y_compared, .ref y_kept, .ref y_keptBy, .ref y_ahead, .ref y_against, .ref y_sum, .ref y_sumBy, .ref y_term, .ref y_termBy, .ref y_byNot, .ref y_valueOf, .int y_given, .ref y_lines, .ref y_lineWhat, .ref y_lineA, .ref y_lineB, .ref y_seens, .ref y_seenIn, .ref y_seenYards, .ref y_seenNear, .ref y_s, .ref y_aside, .ref y_before, .ref y_marked, .ref y_undone, .ref y_isLaid, .int (nI y_done), .int y_snowNow, .int y_cameNow, .int y_cookThen, .int y_tasteThen, .ref y_places, .ref y_comesAt, .ref y_yardsIn, .long y_g]), (y_tape, kI k 1000 y_tapeF), (x, kO 8 [.ref ta, .ref t, .ref dr, .ref n, .ref nd, .ref d, .ref v, .ref z, .ref pa, .ref x_marks, .long x_drawn]), (ta, kO 6 [.ref ta_signs, .ref ta_words, .int (nI u_ta_27), .int (nI ta_next), .int ta_place, .int ta_kind, .int ta_value, .long ta_letters, .int ta_fault]), (ta_signs, kB k 1000 u_ta_signs7)] pl) := hD
         obtain ⟨hw7_0, hw7_1⟩ := hw7
         refine (show W p l e R s m args below meth c H locs cells slots Q (F0 m 259 ls [.int r7]) from ?_)
         refine lv_pop hx hb dL_law_259 rfl ?_
         refine lv_aload_n hx hb dL_law_260 rfl (lv_at hl 2 rfl) ?_
         refine lv_aload_n hx hb dL_law_261 rfl (lv_at hl 4 rfl) ?_
         refine lv_iload hx hb dL_law_262 (lv_at hl 0 rfl) ?_
         refine lv_iconst (v := 1) hx hb dL_law_264 (by decide) ?_
         refine lv_iadd hx hb dL_law_265 ?_
         refine lv_topi (fun x8 ex8 => ?_)
         exact by
          obtain rfl : x8 = (nI (j7 + 1)) := ex8.trans (nI_add j7 1)
          refine va_sld hx hb hX0 hbl hbA hS (vp_in_nI (n := (j7 + 1)) (by omega) (by omega)) dL_law_266 ?_
          refine kz_top (w := .int q1) (by rw [e1]) ?_
          refine lv_i2l hx hb dL_law_267 rfl ?_
          refine lv_bipush (v := 32) hx hb dL_law_268 (by decide) ?_
          refine lv_lshl hx hb dL_law_270 rfl ?_
          refine lv_aload_n hx hb dL_law_271 rfl (lv_at hl 4 rfl) ?_
          refine lv_iload hx hb dL_law_272 (lv_at hl 0 rfl) ?_
          refine lv_iconst (v := 2) hx hb dL_law_274 (by decide) ?_
          refine lv_iadd hx hb dL_law_275 ?_
          refine lv_topi (fun x9 ex9 => ?_)
          exact by
           obtain rfl : x9 = (nI (j7 + 2)) := ex9.trans (nI_add j7 2)
           refine va_sld hx hb hX0 hbl hbA hS (vp_in_nI (n := (j7 + 2)) (by omega) (by omega)) dL_law_276 ?_
           refine kz_top (w := .int q2) (by rw [e2]) ?_
           refine lv_i2l hx hb dL_law_277 rfl ?_
           refine lv_ldc2 hx hb hown lc19 dL_law_278 ?_
           refine lv_land hx hb dL_law_281 ?_
           refine lv_lor hx hb dL_law_282 ?_
           refine lv_aload_n hx hb dL_law_283 rfl (lv_at hl 4 rfl) ?_
           refine lv_iload hx hb dL_law_284 (lv_at hl 0 rfl) ?_
           refine lv_iconst (v := 3) hx hb dL_law_286 (by decide) ?_
           refine lv_iadd hx hb dL_law_287 ?_
           refine lv_topi (fun x10 ex10 => ?_)
           exact by
            obtain rfl : x10 = (nI (j7 + 3)) := ex10.trans (nI_add j7 3)
            refine va_sld hx hb hX0 hbl hbA hS (vp_in_nI (n := (j7 + 3)) (by omega) (by omega)) dL_law_288 ?_
            refine kz_top (w := .int q3) (by rw [e3]) ?_
            refine lv_i2l hx hb dL_law_289 rfl ?_
            refine lv_bipush (v := 32) hx hb dL_law_290 (by decide) ?_
            refine lv_lshl hx hb dL_law_292 rfl ?_
            refine lv_aload_n hx hb dL_law_293 rfl (lv_at hl 4 rfl) ?_
            refine lv_iload hx hb dL_law_294 (lv_at hl 0 rfl) ?_
            refine lv_iconst (v := 4) hx hb dL_law_296 (by decide) ?_
            refine lv_iadd hx hb dL_law_297 ?_
            refine lv_topi (fun x11 ex11 => ?_)
            exact by
             obtain rfl : x11 = (nI (j7 + 4)) := ex11.trans (nI_add j7 4)
             refine va_sld hx hb hX0 hbl hbA hS (vp_in_nI (n := (j7 + 4)) (by omega) (by omega)) dL_law_298 ?_
             refine kz_top (w := .int q4) (by rw [e4]) ?_
             refine lv_i2l hx hb dL_law_299 rfl ?_
             refine lv_ldc2 hx hb hown lc19 dL_law_300 ?_
             refine lv_land hx hb dL_law_303 ?_
             refine lv_lor hx hb dL_law_304 ?_
             refine lv_aload_n hx hb dL_law_305 rfl (lv_at hl 4 rfl) ?_
             refine lv_iload hx hb dL_law_306 (lv_at hl 0 rfl) ?_
             refine lv_iconst (v := 5) hx hb dL_law_308 (by decide) ?_
             refine lv_iadd hx hb dL_law_309 ?_
             refine lv_topi (fun x12 ex12 => ?_)
             exact by
              obtain rfl : x12 = (nI (j7 + 5)) := ex12.trans (nI_add j7 5)
              refine va_sld hx hb hX0 hbl hbA hS (vp_in_nI (n := (j7 + 5)) (by omega) (by omega)) dL_law_310 ?_
              refine kz_top (w := .int q5) (by rw [e5]) ?_
              refine lv_i2l hx hb dL_law_311 rfl ?_
              refine lv_bipush (v := 32) hx hb dL_law_312 (by decide) ?_
              refine lv_lshl hx hb dL_law_314 rfl ?_
              refine lv_aload_n hx hb dL_law_315 rfl (lv_at hl 4 rfl) ?_
              refine lv_iload hx hb dL_law_316 (lv_at hl 0 rfl) ?_
              refine lv_bipush (v := 6) hx hb dL_law_318 (by decide) ?_
              refine lv_iadd hx hb dL_law_320 ?_
              refine lv_topi (fun x13 ex13 => ?_)
              exact by
               obtain rfl : x13 = (nI (j7 + 6)) := ex13.trans (nI_add j7 6)
               refine va_sld hx hb hX0 hbl hbA hS (vp_in_nI (n := (j7 + 6)) (by omega) (by omega)) dL_law_321 ?_
               refine kz_top (w := .int q6) (by rw [e6]) ?_
               refine lv_i2l hx hb dL_law_322 rfl ?_
               refine lv_ldc2 hx hb hown lc19 dL_law_323 ?_
               refine lv_land hx hb dL_law_326 ?_
               refine lv_lor hx hb dL_law_327 ?_
               refine kz_ViQ (As := [.long ((q1.toInt64 <<< ((32 : Int32).toInt64 &&& 63)) ||| (q2.toInt64 &&& 4294967295)), .long ((q3.toInt64 <<< ((32 : Int32).toInt64 &&& 63)) ||| (q4.toInt64 &&& 4294967295)), .long ((q5.toInt64 <<< ((32 : Int32).toInt64 &&& 63)) ||| (q6.toInt64 &&& 4294967295))]) (rest := []) (wc := [(y, kO 9 [.int y_thrown, .int (nI y_taped), .ref y_tape, .int (nI y_size), .int (nI y_place), .int (nI y_begin), .int (nI y_token), .long y_word, .int y_told, .int y_wrong, .ref y_supper, .ref y_guestName, .ref y_kind, .ref y_offTold, .ref y_pace, .ref y_cooks, .ref y_snow, .ref y_lineFrom, .ref y_lineTo, .ref y_codes, .int (nI y_code), .int y_toldLines, .ref y_opened, .ref y_compared, .ref y_kept, .ref y_keptBy, .ref y_ahead, .ref y_against, .ref y_sum, .ref y_sumBy, .ref y_term, .ref y_termBy, .ref y_byNot, .ref y_valueOf, .int y_given, .ref y_lines, .ref y_lineWhat, .ref y_lineA, .ref y_lineB, .ref y_seens, .ref y_seenIn, .ref y_seenYards, .ref y_seenNear, .ref y_s, .ref y_aside, .ref y_before, .ref y_marked, .ref y_undone, .ref y_isLaid, .int (nI y_done), .int y_snowNow, .int y_cameNow, .int y_cookThen, .int y_tasteThen, .ref y_places, .ref y_comesAt, .ref y_yardsIn, .long y_g]), (y_tape, kI k 1000 y_tapeF)]) (wr := [(x, kO 8 [.ref ta, .ref t, .ref dr, .ref n, .ref nd, .ref d, .ref v, .ref z, .ref pa, .ref x_marks, .long x_drawn]), (ta, kO 6 [.ref ta_signs, .ref ta_words, .int (nI u_ta_27), .int (nI ta_next), .int ta_place, .int ta_kind, .int ta_value, .long ta_letters, .int ta_fault]), (ta_signs, kB k 1000 u_ta_signs7)]) ⟨hx, hb, hml, hown, hts⟩ hK hE hP hD hS hA (sX9_feed l D k H.size y ((q1.toInt64 <<< ((32 : Int32).toInt64 &&& 63)) ||| (q2.toInt64 &&& 4294967295)) ((q3.toInt64 <<< ((32 : Int32).toInt64 &&& 63)) ||| (q4.toInt64 &&& 4294967295)) ((q5.toInt64 <<< ((32 : Int32).toInt64 &&& 63)) ||| (q6.toInt64 &&& 4294967295)) y_thrown y_taped y_tape y_size y_place y_begin y_token y_word y_told y_wrong y_supper y_guestName y_kind y_offTold y_pace y_cooks y_snow y_lineFrom y_lineTo y_codes y_code y_toldLines y_opened y_compared y_kept y_keptBy y_ahead y_against y_sum y_sumBy y_term y_termBy y_byNot y_valueOf y_given y_lines y_lineWhat y_lineA y_lineB y_seens y_seenIn y_seenYards y_seenNear y_s y_aside y_before y_marked y_undone y_isLaid y_done y_snowNow y_cameNow y_cookThen y_tasteThen y_places y_comesAt y_yardsIn y_g y_tapeF (by first | omega | assumption | decide) (by first | omega | assumption | decide) (by first | omega | assumption | decide) (by first | omega | assumption | decide) (by first | omega | assumption | decide) (by first | omega | assumption | decide) (by first | omega | assumption | decide) (by first | omega | assumption | decide)) (cwV 3 hts kgL_law_X9_feed rfl rfl rfl (by decide +kernel) (by rw [hR]; exact ⟨Nat.le_of_ble_eq_true rfl, Nat.le_of_ble_eq_true rfl⟩)) [0, 1] [2, 3, 4] rfl rfl (by decide +kernel) (by decide +kernel) (by decide +kernel) 0 rfl rfl rfl hl.1 rfl (Nat.le_of_ble_eq_true rfl) dL_law_328 (by exact ⟨hcR, hsR⟩) (fun r14 u14 H locs hw14 hP hD hS => ?_)
               exact by
                obtain ⟨u_y_014, u_y_114, u_y_tape14⟩ := u14
                try dsimp only at hw14
                have hP : va_P D vwCl (apW [(x, kO 8 [.ref ta, .ref t, .ref dr, .ref n, .ref nd, .ref d, .ref v, .ref z, .ref pa, .ref x_marks, .long x_drawn]), (ta, kO 6 [.ref ta_signs, .ref ta_words, .int (nI u_ta_27), .int (nI ta_next), .int ta_place, .int ta_kind, .int ta_value, .long ta_letters, .int ta_fault]), (ta_signs, kB k 1000 u_ta_signs7), (y, kO 9 [.int u_y_014, .int (nI u_y_114), .ref y_tape, .int (nI y_size), .int (nI y_place), .int (nI y_begin), .int (nI y_token), .long y_word, .int y_told, .int y_wrong, .ref y_supper, .ref y_guestName, .ref y_kind, .ref y_offTold, .ref y_pace, .ref y_cooks, .ref y_snow, .ref y_lineFrom, .ref y_lineTo, .ref y_codes, .int (nI y_code), .int y_toldLines, .ref y_opened, .ref y_compared, .ref y_kept, .ref y_keptBy, .ref y_ahead, .ref y_against, .ref y_sum, .ref y_sumBy, .ref y_term, .ref y_termBy, .ref y_byNot, .ref y_valueOf, .int y_given, .ref y_lines, .ref y_lineWhat, .ref y_lineA, .ref y_lineB, .ref y_seens, .ref y_seenIn, .ref y_seenYards, .ref y_seenNear, .ref y_s, .ref y_aside, .ref y_before, .ref y_marked, .ref y_undone, .ref y_isLaid, .int (nI y_done), .int y_snowNow, .int y_cameNow, .int y_cookThen, .int y_tasteThen, .ref y_places, .ref y_comesAt, .ref y_yardsIn, .long y_g]), (y_tape, kI k 1000 u_y_tape14)] pl) H := hP
                have hD : va_D A (apW [(x, kO 8 [.ref ta, .ref t, .ref dr, .ref n, .ref nd, .ref d, .ref v, .ref z, .ref pa, .ref x_marks, .long x_drawn]), (ta, kO 6 [.ref ta_signs, .ref ta_words, .int (nI u_ta_27), .int (nI ta_next), .int ta_place, .int ta_kind, .int ta_value, .long ta_letters, .int ta_fault]), (ta_signs, kB k 1000 u_ta_signs7), (y, kO 9 [.int u_y_014, .int (nI u_y_114), .ref y_tape, .int (nI y_size), .int (nI y_place), .int (nI y_begin), .int (nI y_token), .long y_word, .int y_told, .int y_wrong, .ref y_supper, .ref y_guestName, .ref y_kind, .ref y_offTold, .ref y_pace, .ref y_cooks, .ref y_snow, .ref y_lineFrom, .ref y_lineTo, .ref y_codes, .int (nI y_code), .int y_toldLines, .ref y_opened, .ref y_compared, .ref y_kept, .ref y_keptBy, .ref y_ahead, .ref y_against, .ref y_sum, .ref y_sumBy, .ref y_term, .ref y_termBy, .ref y_byNot, .ref y_valueOf, .int y_given, .ref y_lines, .ref y_lineWhat, .ref y_lineA, .ref y_lineB, .ref y_seens, .ref y_seenIn, .ref y_seenYards, .ref y_seenNear, .ref y_s, .ref y_aside, .ref y_before, .ref y_marked, .ref y_undone, .ref y_isLaid, .int (nI y_done), .int y_snowNow, .int y_cameNow, .int y_cookThen, .int y_tasteThen, .ref y_places, .ref y_comesAt, .ref y_yardsIn, .long y_g]), (y_tape, kI k 1000 u_y_tape14)] pl) := hD
                obtain ⟨hw14_0, hw14_1⟩ := hw14
                refine (show W p l e R s m args below meth c H locs cells slots Q (F0 m 331 ls [.int r14]) from ?_)
                refine lv_pop hx hb dL_law_331 rfl ?_
                refine lv_goto (tgt := 1230) hx hb dL_law_332 (by decide) ?_
                exact tail u_ta_27 u_ta_signs7 r7 u_y_014 u_y_114 u_y_tape14 r14 _ _ _ hw7_0 hw7_1 hw14_0 hw14_1 (hP.part [0, 1, 2, 3, 4] rfl) (hD.part [0, 1, 2, 3, 4] (by decide) rfl) hS (lv_sub hl [0, 1, 2, 3, 4] rfl)
