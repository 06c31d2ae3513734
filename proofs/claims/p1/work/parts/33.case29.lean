def wsL_q : List Cond := wsL_law0 ++ nseW
theorem gq {ws : List Cond} (h : GoodIn wsL_law0 ws) : GoodIn wsL_q ws := fun w hw => ⟨List.mem_append_left _ (h w hw).1, (h w hw).2⟩
set_option maxRecDepth 100000 in
theorem kq_rests : GoodIn wsL_q wsQL_rests := goodIn_ca (goodIn_sub (fun w h => List.mem_append_left _ ((List.forall_mem_cons.mpr ⟨kr_r50 _ (List.mem_of_getElem? (i := 23) rfl), List.forall_mem_cons.mpr ⟨kr_r51 _ (List.mem_of_getElem? (i := 0) rfl), List.forall_mem_cons.mpr ⟨kr_r51 _ (List.mem_of_getElem? (i := 1) rfl), List.forall_mem_cons.mpr ⟨kr_r51 _ (List.mem_of_getElem? (i := 2) rfl), List.forall_mem_cons.mpr ⟨kr_r51 _ (List.mem_of_getElem? (i := 3) rfl), List.forall_mem_cons.mpr ⟨kr_r1 _ (List.mem_of_getElem? (i := 2) rfl), List.forall_mem_cons.mpr ⟨kr_r51 _ (List.mem_of_getElem? (i := 4) rfl), List.forall_mem_cons.mpr ⟨kr_r51 _ (List.mem_of_getElem? (i := 5) rfl), List.forall_mem_cons.mpr ⟨kr_r51 _ (List.mem_of_getElem? (i := 6) rfl), List.forall_mem_cons.mpr ⟨kr_r30 _ (List.mem_of_getElem? (i := 13) rfl), List.forall_mem_cons.mpr ⟨kr_r17 _ (List.mem_of_getElem? (i := 14) rfl), List.forall_mem_cons.mpr ⟨kr_r17 _ (List.mem_of_getElem? (i := 15) rfl), List.forall_mem_cons.mpr ⟨kr_r51 _ (List.mem_of_getElem? (i := 7) rfl), List.forall_mem_cons.mpr ⟨kr_r51 _ (List.mem_of_getElem? (i := 8) rfl), List.forall_mem_cons.mpr ⟨kr_r51 _ (List.mem_of_getElem? (i := 9) rfl), List.forall_mem_cons.mpr ⟨kr_r51 _ (List.mem_of_getElem? (i := 10) rfl), List.forall_mem_cons.mpr ⟨kr_r51 _ (List.mem_of_getElem? (i := 11) rfl), List.forall_mem_cons.mpr ⟨kr_r51 _ (List.mem_of_getElem? (i := 12) rfl), fun _ h => absurd h List.not_mem_nil⟩⟩⟩⟩⟩⟩⟩⟩⟩⟩⟩⟩⟩⟩⟩⟩⟩⟩ : ∀ w ∈ (.codeWith yL_rests cL_rests 7 (some .int) [(0, 14, 17, 13)] :: [.classLink RL 13 "java/util/NoSuchElementException", .methodLink RL 7 yX8_rests, .instanceMethod yX8_rests, .selects RX8 yX8_rests yX8_rests, .initialized RX8, .code yX8_rests cX8_rests 9 (some .int), .classLink RX8 261 "java/util/NoSuchElementException", .initialized "java/util/NoSuchElementException", .methodLink RX8 137 yX8_isWithin, .static yX8_isWithin, .code yX8_isWithin cX8_isWithin 3 (some .boolean), .methodLink RX8 268 yX8_isContent, .static yX8_isContent, .code yX8_isContent cX8_isContent 5 (some .boolean), .methodLink RX8 314 yX8_gain, .static yX8_gain, .code yX8_gain cX8_gain 5 (some .int)] : List Cond), w ∈ wsL_law0) w h)) (by decide +kernel)) (goodIn_sub (fun _ h => List.mem_append_right _ h) (by decide +kernel))
set_option maxRecDepth 100000 in
theorem kq_law : GoodIn wsL_q (va_wsS RL 145 yL_rests wsQL_rests) := goodIn_app (goodIn_sub (fun w h => List.mem_append_left _ ((List.forall_mem_cons.mpr ⟨kr_r50 _ (List.mem_of_getElem? (i := 20) rfl), List.forall_mem_cons.mpr ⟨kr_r50 _ (List.mem_of_getElem? (i := 21) rfl), List.forall_mem_cons.mpr ⟨kr_r50 _ (List.mem_of_getElem? (i := 22) rfl), fun _ h => absurd h List.not_mem_nil⟩⟩⟩ : ∀ w ∈ ([.methodLink RL 145 yL_rests, .static yL_rests, .initialized RL] : List Cond), w ∈ wsL_law0) w h)) (by decide +kernel)) kq_rests
theorem dL_law_1039 : decode cL_law 1039 = .ok (.aload_n 1, 1) := by decide +kernel
theorem dL_law_1040 : decode cL_law 1040 = .ok (.aload_n 0, 1) := by decide +kernel
theorem dL_law_1041 : decode cL_law 1041 = .ok (.iload 4, 2) := by decide +kernel
theorem dL_law_1043 : decode cL_law 1043 = .ok (.iconst 1, 1) := by decide +kernel
theorem dL_law_1044 : decode cL_law 1044 = .ok (.iadd, 1) := by decide +kernel
theorem dL_law_1045 : decode cL_law 1045 = .ok (.iaload, 1) := by decide +kernel
theorem dL_law_1046 : decode cL_law 1046 = .ok (.aload_n 0, 1) := by decide +kernel
theorem dL_law_1047 : decode cL_law 1047 = .ok (.iload 4, 2) := by decide +kernel
theorem dL_law_1049 : decode cL_law 1049 = .ok (.iconst 2, 1) := by decide +kernel
theorem dL_law_1050 : decode cL_law 1050 = .ok (.iadd, 1) := by decide +kernel
theorem dL_law_1051 : decode cL_law 1051 = .ok (.iaload, 1) := by decide +kernel
theorem dL_law_1052 : decode cL_law 1052 = .ok (.aload_n 0, 1) := by decide +kernel
theorem dL_law_1053 : decode cL_law 1053 = .ok (.iload 4, 2) := by decide +kernel
theorem dL_law_1055 : decode cL_law 1055 = .ok (.iconst 3, 1) := by decide +kernel
theorem dL_law_1056 : decode cL_law 1056 = .ok (.iadd, 1) := by decide +kernel
theorem dL_law_1057 : decode cL_law 1057 = .ok (.iaload, 1) := by decide +kernel
theorem dL_law_1058 : decode cL_law 1058 = .ok (.aload_n 0, 1) := by decide +kernel
theorem dL_law_1059 : decode cL_law 1059 = .ok (.iload 4, 2) := by decide +kernel
theorem dL_law_1061 : decode cL_law 1061 = .ok (.iconst 4, 1) := by decide +kernel
theorem dL_law_1062 : decode cL_law 1062 = .ok (.iadd, 1) := by decide +kernel
theorem dL_law_1063 : decode cL_law 1063 = .ok (.iaload, 1) := by decide +kernel
theorem dL_law_1064 : decode cL_law 1064 = .ok (.aload_n 3, 1) := by decide +kernel
theorem dL_law_1065 : decode cL_law 1065 = .ok (.invokestatic 145, 3) := by decide +kernel
theorem dL_law_1068 : decode cL_law 1068 = .ok (.istore 5, 2) := by decide +kernel
theorem dL_law_1070 : decode cL_law 1070 = .ok (.aload_n 2, 1) := by decide +kernel
theorem dL_law_1071 : decode cL_law 1071 = .ok (.aload_n 0, 1) := by decide +kernel
theorem dL_law_1072 : decode cL_law 1072 = .ok (.iload 4, 2) := by decide +kernel
theorem dL_law_1074 : decode cL_law 1074 = .ok (.iconst 1, 1) := by decide +kernel
theorem dL_law_1075 : decode cL_law 1075 = .ok (.iadd, 1) := by decide +kernel
theorem dL_law_1076 : decode cL_law 1076 = .ok (.iaload, 1) := by decide +kernel
theorem dL_law_1077 : decode cL_law 1077 = .ok (.aload_n 0, 1) := by decide +kernel
theorem dL_law_1078 : decode cL_law 1078 = .ok (.iload 4, 2) := by decide +kernel
theorem dL_law_1080 : decode cL_law 1080 = .ok (.iconst 2, 1) := by decide +kernel
theorem dL_law_1081 : decode cL_law 1081 = .ok (.iadd, 1) := by decide +kernel
theorem dL_law_1082 : decode cL_law 1082 = .ok (.iaload, 1) := by decide +kernel
theorem dL_law_1083 : decode cL_law 1083 = .ok (.aload_n 0, 1) := by decide +kernel
theorem dL_law_1084 : decode cL_law 1084 = .ok (.iload 4, 2) := by decide +kernel
theorem dL_law_1086 : decode cL_law 1086 = .ok (.iconst 3, 1) := by decide +kernel
theorem dL_law_1087 : decode cL_law 1087 = .ok (.iadd, 1) := by decide +kernel
theorem dL_law_1088 : decode cL_law 1088 = .ok (.iaload, 1) := by decide +kernel
theorem dL_law_1089 : decode cL_law 1089 = .ok (.aload_n 0, 1) := by decide +kernel
theorem dL_law_1090 : decode cL_law 1090 = .ok (.iload 4, 2) := by decide +kernel
theorem dL_law_1092 : decode cL_law 1092 = .ok (.iconst 4, 1) := by decide +kernel
theorem dL_law_1093 : decode cL_law 1093 = .ok (.iadd, 1) := by decide +kernel
theorem dL_law_1094 : decode cL_law 1094 = .ok (.iaload, 1) := by decide +kernel
theorem dL_law_1095 : decode cL_law 1095 = .ok (.invokevirtual 150, 3) := by decide +kernel
theorem dL_law_1098 : decode cL_law 1098 = .ok (.istore 6, 2) := by decide +kernel
theorem dL_law_1100 : decode cL_law 1100 = .ok (.aload_n 2, 1) := by decide +kernel
theorem dL_law_1101 : decode cL_law 1101 = .ok (.invokevirtual 151, 3) := by decide +kernel
theorem dL_law_1104 : decode cL_law 1104 = .ok (.iload 5, 2) := by decide +kernel
theorem dL_law_1106 : decode cL_law 1106 = .ok (.if_icmp .eq 5, 3) := by decide +kernel
theorem dL_law_1111 : decode cL_law 1111 = .ok (.iload 5, 2) := by decide +kernel
theorem dL_law_1113 : decode cL_law 1113 = .ok (.ifCond .ne 15, 3) := by decide +kernel
theorem dL_law_1116 : decode cL_law 1116 = .ok (.aload_n 3, 1) := by decide +kernel
theorem dL_law_1117 : decode cL_law 1117 = .ok (.iconst 0, 1) := by decide +kernel
theorem dL_law_1118 : decode cL_law 1118 = .ok (.laload, 1) := by decide +kernel
theorem dL_law_1119 : decode cL_law 1119 = .ok (.iload 6, 2) := by decide +kernel
theorem dL_law_1121 : decode cL_law 1121 = .ok (.i2l, 1) := by decide +kernel
theorem dL_law_1122 : decode cL_law 1122 = .ok (.lcmp, 1) := by decide +kernel
theorem dL_law_1123 : decode cL_law 1123 = .ok (.ifCond .eq 5, 3) := by decide +kernel
theorem dL_law_1128 : decode cL_law 1128 = .ok (.goto 130, 3) := by decide +kernel
set_option maxRecDepth 100000 in
theorem kggL_law_X9_rests : GoodIn wsL_law0 wsX9_rests := goodIn_sub (List.forall_mem_cons.mpr ⟨kr_r51 _ (List.mem_of_getElem? (i := 16) rfl), List.forall_mem_append.mpr ⟨List.forall_mem_cons.mpr ⟨kr_r11 _ (List.mem_of_getElem? (i := 1) rfl), List.forall_mem_cons.mpr ⟨kr_r25 _ (List.mem_of_getElem? (i := 0) rfl), List.forall_mem_cons.mpr ⟨kr_r25 _ (List.mem_of_getElem? (i := 1) rfl), List.forall_mem_cons.mpr ⟨kr_r1 _ (List.mem_of_getElem? (i := 5) rfl), List.forall_mem_cons.mpr ⟨kr_r25 _ (List.mem_of_getElem? (i := 2) rfl), List.forall_mem_cons.mpr ⟨kr_r51 _ (List.mem_of_getElem? (i := 17) rfl), List.forall_mem_cons.mpr ⟨kr_r51 _ (List.mem_of_getElem? (i := 18) rfl), List.forall_mem_cons.mpr ⟨kr_r51 _ (List.mem_of_getElem? (i := 19) rfl), fun _ h => absurd h List.not_mem_nil⟩⟩⟩⟩⟩⟩⟩⟩, kx9⟩⟩) (by decide +kernel)
set_option maxRecDepth 100000 in
theorem kgL_law_X9_rests : GoodIn wsL_law0 (wsV RL 150 RX9 yX9_rests wsX9_rests) := goodIn_app (goodIn_sub (List.forall_mem_cons.mpr ⟨kr_r51 _ (List.mem_of_getElem? (i := 13) rfl), List.forall_mem_cons.mpr ⟨kr_r51 _ (List.mem_of_getElem? (i := 14) rfl), List.forall_mem_cons.mpr ⟨kr_r51 _ (List.mem_of_getElem? (i := 15) rfl), List.forall_mem_cons.mpr ⟨kr_r1 _ (List.mem_of_getElem? (i := 5) rfl), fun _ h => absurd h List.not_mem_nil⟩⟩⟩⟩) (by decide +kernel)) kggL_law_X9_rests
set_option maxRecDepth 100000 in
theorem kggL_law_X9_thrown : GoodIn wsL_law0 wsX9_thrown := goodIn_sub (List.forall_mem_cons.mpr ⟨kr_r51 _ (List.mem_of_getElem? (i := 23) rfl), List.forall_mem_append.mpr ⟨List.forall_mem_cons.mpr ⟨kr_r11 _ (List.mem_of_getElem? (i := 1) rfl), fun _ h => absurd h List.not_mem_nil⟩, kx9⟩⟩) (by decide +kernel)
set_option maxRecDepth 100000 in
theorem kgL_law_X9_thrown : GoodIn wsL_law0 (wsV RL 151 RX9 yX9_thrown wsX9_thrown) := goodIn_app (goodIn_sub (List.forall_mem_cons.mpr ⟨kr_r51 _ (List.mem_of_getElem? (i := 20) rfl), List.forall_mem_cons.mpr ⟨kr_r51 _ (List.mem_of_getElem? (i := 21) rfl), List.forall_mem_cons.mpr ⟨kr_r51 _ (List.mem_of_getElem? (i := 22) rfl), List.forall_mem_cons.mpr ⟨kr_r1 _ (List.mem_of_getElem? (i := 5) rfl), fun _ h => absurd h List.not_mem_nil⟩⟩⟩⟩) (by decide +kernel)) kggL_law_X9_thrown
set_option maxHeartbeats 4000000 in
set_option maxRecDepth 100000 in
theorem law_case29 {p : Program} {l : Launch} {e : Env} {R : Room} {s : State} {m : MethodId} {args : Array Value} {below : List Frame} {meth : Method} {c : Code} {b : Nat} {xs : Nat → Int32} {Q : State → Prop} {A : Nat → Prop} (hx : p.tables.exec = Jvm.exec) (hb : c.code = code) (hml : c.maxLocals = 7) (hown : s.vm.findClass RL = some m.cls) (hts : ∀ w ∈ wsL_q, w.before args s = true) (hX0 : va_X b 7 xs s s.heap) (hbl : b < s.heap.size) (hbA : ¬ A b) (hA : ∀ q : Nat, s.heap.size ≤ q → A q) (hR : R = room_1) (q1 q2 q3 q4 q5 q6 : Int32) (e1 : xs (Int32.toNatClampNeg 1) = q1) (e2 : xs (Int32.toNatClampNeg 2) = q2) (e3 : xs (Int32.toNatClampNeg 3) = q3) (e4 : xs (Int32.toNatClampNeg 4) = q4) (e5 : xs (Int32.toNatClampNeg 5) = q5) (e6 : xs (Int32.toNatClampNeg 6) = q6) (D : va_G) (k : Nat → ClassId) (hK : va_K D vwCl (tysW k) s) (hE : kz_E s) (a0 : Nat) (ha0 : a0 ≤ s.heap.size) (hAX : ∀ q, A q → a0 ≤ q) (hT9 : kz_T a0 s) (hst : l.stackTraces = false) (x : Nat) (x_tape : Value) (x_told : Value) (x_draft : Value) (x_lines : Value) (x_draftLines : Value) (x_now : Value) (x_trial : Value) (x_sights : Value) (x_past : Value) (x_marks : Value) (x_drawn : Int64) (oa : Nat) (f0 : Nat → Int64) (y : Nat) (y_thrown : Int32) (y_taped : Int32) (y_tape : Value) (y_size : Int32) (y_place : Int32) (y_begin : Int32) (y_token : Int32) (y_word : Int64) (y_told : Int32) (y_wrong : Int32) (y_supper : Value) (y_guestName : Value) (y_kind : Value) (y_offTold : Value) (y_pace : Value) (y_cooks : Value) (y_snow : Value) (y_lineFrom : Value) (y_lineTo : Value) (y_codes : Value) (y_code : Int32) (y_toldLines : Int32) (y_opened : Value) (y_compared : Value) (y_kept : Value) (y_keptBy : Value) (y_ahead : Value) (y_against : Value) (y_sum : Value) (y_sumBy : Value) (y_term : Value) (y_termBy : Value) (y_byNot : Value) (y_valueOf : Value) (y_given : Int32) (y_lines : Value) (y_lineWhat : Value) (y_lineA : Value) (y_lineB : Value) (y_seens : Value) (y_seenIn : Value) (y_seenYards : Value) (y_seenNear : Value) (y_s : Value) (y_aside : Value) (y_before : Value) (y_marked : Value) (y_undone : Value) (y_isLaid : Value) (y_done : Int32) (y_snowNow : Int32) (y_cameNow : Int32) (y_cookThen : Int32) (y_tasteThen : Int32) (y_places : Value) (y_comesAt : Value) (y_yardsIn : Value) (y_g : Int64) {H : Heap} {locs : List Loc} {ls : Array Slot} (hP : va_P D vwCl [(x, kO 8 [x_tape, x_told, x_draft, x_lines, x_draftLines, x_now, x_trial, x_sights, x_past, x_marks, .long x_drawn]), (oa, kJ k 1 f0), (y, kO 9 [.int y_thrown, .int y_taped, y_tape, .int y_size, .int y_place, .int y_begin, .int y_token, .long y_word, .int y_told, .int y_wrong, y_supper, y_guestName, y_kind, y_offTold, y_pace, y_cooks, y_snow, y_lineFrom, y_lineTo, y_codes, .int y_code, .int y_toldLines, y_opened, y_compared, y_kept, y_keptBy, y_ahead, y_against, y_sum, y_sumBy, y_term, y_termBy, y_byNot, y_valueOf, .int y_given, y_lines, y_lineWhat, y_lineA, y_lineB, y_seens, y_seenIn, y_seenYards, y_seenNear, y_s, y_aside, y_before, y_marked, y_undone, y_isLaid, .int y_done, .int y_snowNow, .int y_cameNow, .int y_cookThen, .int y_tasteThen, y_places, y_comesAt, y_yardsIn, .long y_g])] H) (hD : va_D A [(x, kO 8 [x_tape, x_told, x_draft, x_lines, x_draftLines, x_now, x_trial, x_sights, x_past, x_marks, .long x_drawn]), (oa, kJ k 1 f0), (y, kO 9 [.int y_thrown, .int y_taped, y_tape, .int y_size, .int y_place, .int y_begin, .int y_token, .long y_word, .int y_told, .int y_wrong, y_supper, y_guestName, y_kind, y_offTold, y_pace, y_cooks, y_snow, y_lineFrom, y_lineTo, y_codes, .int y_code, .int y_toldLines, y_opened, y_compared, y_kept, y_keptBy, y_ahead, y_against, y_sum, y_sumBy, y_term, y_termBy, y_byNot, y_valueOf, .int y_given, y_lines, y_lineWhat, y_lineA, y_lineB, y_seens, y_seenIn, y_seenYards, y_seenNear, y_s, y_aside, y_before, y_marked, y_undone, y_isLaid, .int y_done, .int y_snowNow, .int y_cameNow, .int y_cookThen, .int y_tasteThen, y_places, y_comesAt, y_yardsIn, .long y_g])]) (hS : va_S A s.heap H locs) (hl : lv_has ls 7 [(4, .int 0), (3, .ref oa), (2, .ref y), (1, .ref x), (0, .ref b)]) (tail : ∀ (H : Heap) (locs : List Loc) (ls : Array Slot), va_S A s.heap H locs → lv_has ls 7 [(4, .int 0), (0, .ref b)] → W p l e R s m args below meth c H locs 296 10901 Q (F0 m 1258 ls [])) : W p l e R s m args below meth c H locs 295 10895 Q (F0 m 1039 ls []) := by
  refine lv_aload_n hx hb dL_law_1039 rfl (lv_at hl 3 rfl) ?_
  refine lv_aload_n hx hb dL_law_1040 rfl (lv_at hl 4 rfl) ?_
  refine lv_iload hx hb dL_law_1041 (lv_at hl 0 rfl) ?_
  refine lv_iconst (v := 1) hx hb dL_law_1043 (by decide) ?_
  refine lv_iadd hx hb dL_law_1044 ?_
  refine lv_topi (fun x1 ex1 => ?_)
  obtain rfl : x1 = 1 := ex1.trans (by decide)
  refine va_sld hx hb hX0 hbl hbA hS (vp_in_iff.mpr (by decide)) dL_law_1045 ?_
  refine kz_top (w := .int q1) (by rw [e1]) ?_
  refine lv_aload_n hx hb dL_law_1046 rfl (lv_at hl 4 rfl) ?_
  refine lv_iload hx hb dL_law_1047 (lv_at hl 0 rfl) ?_
  refine lv_iconst (v := 2) hx hb dL_law_1049 (by decide) ?_
  refine lv_iadd hx hb dL_law_1050 ?_
  refine lv_topi (fun x2 ex2 => ?_)
  obtain rfl : x2 = 2 := ex2.trans (by decide)
  refine va_sld hx hb hX0 hbl hbA hS (vp_in_iff.mpr (by decide)) dL_law_1051 ?_
  refine kz_top (w := .int q2) (by rw [e2]) ?_
  refine lv_aload_n hx hb dL_law_1052 rfl (lv_at hl 4 rfl) ?_
  refine lv_iload hx hb dL_law_1053 (lv_at hl 0 rfl) ?_
  refine lv_iconst (v := 3) hx hb dL_law_1055 (by decide) ?_
  refine lv_iadd hx hb dL_law_1056 ?_
  refine lv_topi (fun x3 ex3 => ?_)
  obtain rfl : x3 = 3 := ex3.trans (by decide)
  refine va_sld hx hb hX0 hbl hbA hS (vp_in_iff.mpr (by decide)) dL_law_1057 ?_
  refine kz_top (w := .int q3) (by rw [e3]) ?_
  refine lv_aload_n hx hb dL_law_1058 rfl (lv_at hl 4 rfl) ?_
  refine lv_iload hx hb dL_law_1059 (lv_at hl 0 rfl) ?_
  refine lv_iconst (v := 4) hx hb dL_law_1061 (by decide) ?_
  refine lv_iadd hx hb dL_law_1062 ?_
  refine lv_topi (fun x4 ex4 => ?_)
  obtain rfl : x4 = 4 := ex4.trans (by decide)
  refine va_sld hx hb hX0 hbl hbA hS (vp_in_iff.mpr (by decide)) dL_law_1063 ?_
  refine kz_top (w := .int q4) (by rw [e4]) ?_
  refine lv_aload_n hx hb dL_law_1064 rfl (lv_at hl 1 rfl) ?_
  have hPc := kz_sub (wc := [(x, kO 8 [x_tape, x_told, x_draft, x_lines, x_draftLines, x_now, x_trial, x_sights, x_past, x_marks, .long x_drawn]), (oa, kJ k 1 f0)]) hP [0, 1] rfl
  have hDc := kz_subD (wc := [(x, kO 8 [x_tape, x_told, x_draft, x_lines, x_draftLines, x_now, x_trial, x_sights, x_past, x_marks, .long x_drawn]), (oa, kJ k 1 f0)]) hD [0, 1] rfl (by decide)
  have hFc := va_free (wc := [(x, kO 8 [x_tape, x_told, x_draft, x_lines, x_draftLines, x_now, x_trial, x_sights, x_past, x_marks, .long x_drawn]), (oa, kJ k 1 f0)]) hD hS hA [0, 1] rfl
  refine va_calli (vx_runSW (As := [.ref x, .int q1, .int q2, .int q3, .int q4, .ref oa]) (rest := []) ⟨hx, hb, hml, hown, hts⟩ (mL_rests l D k H.size a0 hst q1 q2 q3 q4 x x_tape x_told x_draft x_lines x_draftLines x_now x_trial x_sights x_past x_marks x_drawn oa f0 (hAX _ (hD.2 0 _ rfl)) (hAX _ (hD.2 1 _ rfl))) (vx_cwSW 6 hts kq_law rfl rfl rfl (by decide +kernel) (by rw [hR]; exact ⟨Nat.le_of_ble_eq_true rfl, Nat.le_of_ble_eq_true rfl⟩)) ⟨kz_PreTb, fun U hU hW => ⟨rfl, ⟨by rw [hU], by rw [hU]; exact hPc, va_K.moved hW.alike hK, hDc.weaken (fun _ _ _ _ => trivial), hE.warm hW⟩, Nat.le_trans ha0 hS.1, hT9.at hS hAX U hU hW⟩⟩ rfl rfl hl.1 rfl (lv_room (Nat.le_of_ble_eq_true rfl)) dL_law_1065 (by rw [hR]; exact ⟨Nat.le_of_ble_eq_true rfl, Nat.le_of_ble_eq_true rfl⟩)) hS (fun q _ h => hFc q h) hFc (fun r9 f9 t H1 locs1 ht hvm hw9 hB hz1 hk1 hS1 => ?_)
  obtain ⟨hP, hD⟩ := kz_join (wr := [(y, kO 9 [.int y_thrown, .int y_taped, y_tape, .int y_size, .int y_place, .int y_begin, .int y_token, .long y_word, .int y_told, .int y_wrong, y_supper, y_guestName, y_kind, y_offTold, y_pace, y_cooks, y_snow, y_lineFrom, y_lineTo, y_codes, .int y_code, .int y_toldLines, y_opened, y_compared, y_kept, y_keptBy, y_ahead, y_against, y_sum, y_sumBy, y_term, y_termBy, y_byNot, y_valueOf, .int y_given, y_lines, y_lineWhat, y_lineA, y_lineB, y_seens, y_seenIn, y_seenYards, y_seenNear, y_s, y_aside, y_before, y_marked, y_undone, y_isLaid, .int y_done, .int y_snowNow, .int y_cameNow, .int y_cookThen, .int y_tasteThen, y_places, y_comesAt, y_yardsIn, .long y_g])]) hP hD hS hA [0, 1] [2] rfl rfl (by decide) (by decide) ht hB hk1
  generalize H1 = H at hP hS1 ⊢
  have hS := hS1
  have hP : va_P D vwCl [(y, kO 9 [.int y_thrown, .int y_taped, y_tape, .int y_size, .int y_place, .int y_begin, .int y_token, .long y_word, .int y_told, .int y_wrong, y_supper, y_guestName, y_kind, y_offTold, y_pace, y_cooks, y_snow, y_lineFrom, y_lineTo, y_codes, .int y_code, .int y_toldLines, y_opened, y_compared, y_kept, y_keptBy, y_ahead, y_against, y_sum, y_sumBy, y_term, y_termBy, y_byNot, y_valueOf, .int y_given, y_lines, y_lineWhat, y_lineA, y_lineB, y_seens, y_seenIn, y_seenYards, y_seenNear, y_s, y_aside, y_before, y_marked, y_undone, y_isLaid, .int y_done, .int y_snowNow, .int y_cameNow, .int y_cookThen, .int y_tasteThen, y_places, y_comesAt, y_yardsIn, .long y_g]), (x, kO 8 [x_tape, x_told, x_draft, x_lines, x_draftLines, x_now, x_trial, x_sights, x_past, x_marks, .long x_drawn]), (oa, kJ k 1 f9)] H := hP
  have hD : va_D A [(y, kO 9 [.int y_thrown, .int y_taped, y_tape, .int y_size, .int y_place, .int y_begin, .int y_token, .long y_word, .int y_told, .int y_wrong, y_supper, y_guestName, y_kind, y_offTold, y_pace, y_cooks, y_snow, y_lineFrom, y_lineTo, y_codes, .int y_code, .int y_toldLines, y_opened, y_compared, y_kept, y_keptBy, y_ahead, y_against, y_sum, y_sumBy, y_term, y_termBy, y_byNot, y_valueOf, .int y_given, y_lines, y_lineWhat, y_lineA, y_lineB, y_seens, y_seenIn, y_seenYards, y_seenNear, y_s, y_aside, y_before, y_marked, y_undone, y_isLaid, .int y_done, .int y_snowNow, .int y_cameNow, .int y_cookThen, .int y_tasteThen, y_places, y_comesAt, y_yardsIn, .long y_g]), (x, kO 8 [x_tape, x_told, x_draft, x_lines, x_draftLines, x_now, x_trial, x_sights, x_past, x_marks, .long x_drawn]), (oa, kJ k 1 f9)] := hD
  refine W.widen (k := 296) (n := 10901) (by omega) (by omega) ?_
  rcases hw9 with ⟨rfl, hrs⟩ | ⟨rfl, v9, hrs, hu9⟩
  · skip
    refine lv_istore (lv' := [(5, .int 1), (4, .int 0), (3, .ref oa), (2, .ref y), (1, .ref x), (0, .ref b)]) hx hb dL_law_1068 hl (by decide) rfl (fun ls hl => ?_)
    refine lv_aload_n hx hb dL_law_1070 rfl (lv_at hl 3 rfl) ?_
    refine lv_aload_n hx hb dL_law_1071 rfl (lv_at hl 5 rfl) ?_
    refine lv_iload hx hb dL_law_1072 (lv_at hl 1 rfl) ?_
    refine lv_iconst (v := 1) hx hb dL_law_1074 (by decide) ?_
    refine lv_iadd hx hb dL_law_1075 ?_
    refine lv_topi (fun x5 ex5 => ?_)
    obtain rfl : x5 = 1 := ex5.trans (by decide)
    refine va_sld hx hb hX0 hbl hbA hS (vp_in_iff.mpr (by decide)) dL_law_1076 ?_
    refine kz_top (w := .int q1) (by rw [e1]) ?_
    refine lv_aload_n hx hb dL_law_1077 rfl (lv_at hl 5 rfl) ?_
    refine lv_iload hx hb dL_law_1078 (lv_at hl 1 rfl) ?_
    refine lv_iconst (v := 2) hx hb dL_law_1080 (by decide) ?_
    refine lv_iadd hx hb dL_law_1081 ?_
    refine lv_topi (fun x6 ex6 => ?_)
    obtain rfl : x6 = 2 := ex6.trans (by decide)
    refine va_sld hx hb hX0 hbl hbA hS (vp_in_iff.mpr (by decide)) dL_law_1082 ?_
    refine kz_top (w := .int q2) (by rw [e2]) ?_
    refine lv_aload_n hx hb dL_law_1083 rfl (lv_at hl 5 rfl) ?_
    refine lv_iload hx hb dL_law_1084 (lv_at hl 1 rfl) ?_
    refine lv_iconst (v := 3) hx hb dL_law_1086 (by decide) ?_
    refine lv_iadd hx hb dL_law_1087 ?_
    refine lv_topi (fun x7 ex7 => ?_)
    obtain rfl : x7 = 3 := ex7.trans (by decide)
    refine va_sld hx hb hX0 hbl hbA hS (vp_in_iff.mpr (by decide)) dL_law_1088 ?_
    refine kz_top (w := .int q3) (by rw [e3]) ?_
    refine lv_aload_n hx hb dL_law_1089 rfl (lv_at hl 5 rfl) ?_
    refine lv_iload hx hb dL_law_1090 (lv_at hl 1 rfl) ?_
    refine lv_iconst (v := 4) hx hb dL_law_1092 (by decide) ?_
    refine lv_iadd hx hb dL_law_1093 ?_
    refine lv_topi (fun x8 ex8 => ?_)
    obtain rfl : x8 = 4 := ex8.trans (by decide)
    refine va_sld hx hb hX0 hbl hbA hS (vp_in_iff.mpr (by decide)) dL_law_1094 ?_
    refine kz_top (w := .int q4) (by rw [e4]) ?_
    refine kz_Vi (As := [.int q1, .int q2, .int q3, .int q4]) (rest := []) (wc := [(y, kO 9 [.int y_thrown, .int y_taped, y_tape, .int y_size, .int y_place, .int y_begin, .int y_token, .long y_word, .int y_told, .int y_wrong, y_supper, y_guestName, y_kind, y_offTold, y_pace, y_cooks, y_snow, y_lineFrom, y_lineTo, y_codes, .int y_code, .int y_toldLines, y_opened, y_compared, y_kept, y_keptBy, y_ahead, y_against, y_sum, y_sumBy, y_term, y_termBy, y_byNot, y_valueOf, .int y_given, y_lines, y_lineWhat, y_lineA, y_lineB, y_seens, y_seenIn, y_seenYards, y_seenNear, y_s, y_aside, y_before, y_marked, y_undone, y_isLaid, .int y_done, .int y_snowNow, .int y_cameNow, .int y_cookThen, .int y_tasteThen, y_places, y_comesAt, y_yardsIn, .long y_g])]) (wr := [(x, kO 8 [x_tape, x_told, x_draft, x_lines, x_draftLines, x_now, x_trial, x_sights, x_past, x_marks, .long x_drawn]), (oa, kJ k 1 f9)]) ⟨hx, hb, hml, hown, hts⟩ hK hE hP hD hS hA (mX9_rests l D k H.size y q1 q2 q3 q4 y_thrown y_taped y_tape y_size y_place y_begin y_token y_word y_told y_wrong y_supper y_guestName y_kind y_offTold y_pace y_cooks y_snow y_lineFrom y_lineTo y_codes y_code y_toldLines y_opened y_compared y_kept y_keptBy y_ahead y_against y_sum y_sumBy y_term y_termBy y_byNot y_valueOf y_given y_lines y_lineWhat y_lineA y_lineB y_seens y_seenIn y_seenYards y_seenNear y_s y_aside y_before y_marked y_undone y_isLaid y_done y_snowNow y_cameNow y_cookThen y_tasteThen y_places y_comesAt y_yardsIn y_g) (cwV 4 hts (gq kgL_law_X9_rests) rfl rfl rfl (by decide +kernel) (by rw [hR]; exact ⟨Nat.le_of_ble_eq_true rfl, Nat.le_of_ble_eq_true rfl⟩)) [0] [1, 2] rfl rfl (by decide) (by decide) (by decide) 0 rfl rfl rfl hl.1 rfl (Nat.le_of_ble_eq_true rfl) dL_law_1095 (by rw [hR]; exact ⟨Nat.le_of_ble_eq_true rfl, Nat.le_of_ble_eq_true rfl⟩) (fun r9 u9 H locs hw9 hP hD hS => ?_)
    try dsimp only at hw9
    have hP : va_P D vwCl [(x, kO 8 [x_tape, x_told, x_draft, x_lines, x_draftLines, x_now, x_trial, x_sights, x_past, x_marks, .long x_drawn]), (oa, kJ k 1 f9), (y, kO 9 [.int u9, .int y_taped, y_tape, .int y_size, .int y_place, .int y_begin, .int y_token, .long y_word, .int y_told, .int y_wrong, y_supper, y_guestName, y_kind, y_offTold, y_pace, y_cooks, y_snow, y_lineFrom, y_lineTo, y_codes, .int y_code, .int y_toldLines, y_opened, y_compared, y_kept, y_keptBy, y_ahead, y_against, y_sum, y_sumBy, y_term, y_termBy, y_byNot, y_valueOf, .int y_given, y_lines, y_lineWhat, y_lineA, y_lineB, y_seens, y_seenIn, y_seenYards, y_seenNear, y_s, y_aside, y_before, y_marked, y_undone, y_isLaid, .int y_done, .int y_snowNow, .int y_cameNow, .int y_cookThen, .int y_tasteThen, y_places, y_comesAt, y_yardsIn, .long y_g])] H := hP
    have hD : va_D A [(x, kO 8 [x_tape, x_told, x_draft, x_lines, x_draftLines, x_now, x_trial, x_sights, x_past, x_marks, .long x_drawn]), (oa, kJ k 1 f9), (y, kO 9 [.int u9, .int y_taped, y_tape, .int y_size, .int y_place, .int y_begin, .int y_token, .long y_word, .int y_told, .int y_wrong, y_supper, y_guestName, y_kind, y_offTold, y_pace, y_cooks, y_snow, y_lineFrom, y_lineTo, y_codes, .int y_code, .int y_toldLines, y_opened, y_compared, y_kept, y_keptBy, y_ahead, y_against, y_sum, y_sumBy, y_term, y_termBy, y_byNot, y_valueOf, .int y_given, y_lines, y_lineWhat, y_lineA, y_lineB, y_seens, y_seenIn, y_seenYards, y_seenNear, y_s, y_aside, y_before, y_marked, y_undone, y_isLaid, .int y_done, .int y_snowNow, .int y_cameNow, .int y_cookThen, .int y_tasteThen, y_places, y_comesAt, y_yardsIn, .long y_g])] := hD
    obtain ⟨h1_9, h2_9⟩ := Prod.mk.inj (hrs.symm.trans hw9)
    subst h1_9
    subst h2_9
    have hP : va_P D vwCl [(x, kO 8 [x_tape, x_told, x_draft, x_lines, x_draftLines, x_now, x_trial, x_sights, x_past, x_marks, .long x_drawn]), (oa, kJ k 1 f9), (y, kO 9 [.int 1, .int y_taped, y_tape, .int y_size, .int y_place, .int y_begin, .int y_token, .long y_word, .int y_told, .int y_wrong, y_supper, y_guestName, y_kind, y_offTold, y_pace, y_cooks, y_snow, y_lineFrom, y_lineTo, y_codes, .int y_code, .int y_toldLines, y_opened, y_compared, y_kept, y_keptBy, y_ahead, y_against, y_sum, y_sumBy, y_term, y_termBy, y_byNot, y_valueOf, .int y_given, y_lines, y_lineWhat, y_lineA, y_lineB, y_seens, y_seenIn, y_seenYards, y_seenNear, y_s, y_aside, y_before, y_marked, y_undone, y_isLaid, .int y_done, .int y_snowNow, .int y_cameNow, .int y_cookThen, .int y_tasteThen, y_places, y_comesAt, y_yardsIn, .long y_g])] H := hP
    have hD : va_D A [(x, kO 8 [x_tape, x_told, x_draft, x_lines, x_draftLines, x_now, x_trial, x_sights, x_past, x_marks, .long x_drawn]), (oa, kJ k 1 f9), (y, kO 9 [.int 1, .int y_taped, y_tape, .int y_size, .int y_place, .int y_begin, .int y_token, .long y_word, .int y_told, .int y_wrong, y_supper, y_guestName, y_kind, y_offTold, y_pace, y_cooks, y_snow, y_lineFrom, y_lineTo, y_codes, .int y_code, .int y_toldLines, y_opened, y_compared, y_kept, y_keptBy, y_ahead, y_against, y_sum, y_sumBy, y_term, y_termBy, y_byNot, y_valueOf, .int y_given, y_lines, y_lineWhat, y_lineA, y_lineB, y_seens, y_seenIn, y_seenYards, y_seenNear, y_s, y_aside, y_before, y_marked, y_undone, y_isLaid, .int y_done, .int y_snowNow, .int y_cameNow, .int y_cookThen, .int y_tasteThen, y_places, y_comesAt, y_yardsIn, .long y_g])] := hD
    refine lv_istore (lv' := [(6, .int 0), (5, .int 1), (4, .int 0), (3, .ref oa), (2, .ref y), (1, .ref x), (0, .ref b)]) hx hb dL_law_1098 hl (by decide) rfl (fun ls hl => ?_)
    refine lv_aload_n hx hb dL_law_1100 rfl (lv_at hl 4 rfl) ?_
    refine kz_Vi (As := []) (rest := []) (wc := [(y, kO 9 [.int 1, .int y_taped, y_tape, .int y_size, .int y_place, .int y_begin, .int y_token, .long y_word, .int y_told, .int y_wrong, y_supper, y_guestName, y_kind, y_offTold, y_pace, y_cooks, y_snow, y_lineFrom, y_lineTo, y_codes, .int y_code, .int y_toldLines, y_opened, y_compared, y_kept, y_keptBy, y_ahead, y_against, y_sum, y_sumBy, y_term, y_termBy, y_byNot, y_valueOf, .int y_given, y_lines, y_lineWhat, y_lineA, y_lineB, y_seens, y_seenIn, y_seenYards, y_seenNear, y_s, y_aside, y_before, y_marked, y_undone, y_isLaid, .int y_done, .int y_snowNow, .int y_cameNow, .int y_cookThen, .int y_tasteThen, y_places, y_comesAt, y_yardsIn, .long y_g])]) (wr := [(x, kO 8 [x_tape, x_told, x_draft, x_lines, x_draftLines, x_now, x_trial, x_sights, x_past, x_marks, .long x_drawn]), (oa, kJ k 1 f9)]) ⟨hx, hb, hml, hown, hts⟩ hK hE hP hD hS hA (mX9_thrown l D k H.size y 1 y_taped y_tape y_size y_place y_begin y_token y_word y_told y_wrong y_supper y_guestName y_kind y_offTold y_pace y_cooks y_snow y_lineFrom y_lineTo y_codes y_code y_toldLines y_opened y_compared y_kept y_keptBy y_ahead y_against y_sum y_sumBy y_term y_termBy y_byNot y_valueOf y_given y_lines y_lineWhat y_lineA y_lineB y_seens y_seenIn y_seenYards y_seenNear y_s y_aside y_before y_marked y_undone y_isLaid y_done y_snowNow y_cameNow y_cookThen y_tasteThen y_places y_comesAt y_yardsIn y_g) (cwV 0 hts (gq kgL_law_X9_thrown) rfl rfl rfl (by decide +kernel) (by rw [hR]; exact ⟨Nat.le_of_ble_eq_true rfl, Nat.le_of_ble_eq_true rfl⟩)) [2] [0, 1] rfl rfl (by decide) (by decide) (by decide) 0 rfl rfl rfl hl.1 rfl (Nat.le_of_ble_eq_true rfl) dL_law_1101 (by rw [hR]; exact ⟨Nat.le_of_ble_eq_true rfl, Nat.le_of_ble_eq_true rfl⟩) (fun r10 u10 H locs hw10 hP hD hS => ?_)
    try dsimp only at hw10
    obtain rfl : r10 = 1 := hw10
    have hP : va_P D vwCl [(x, kO 8 [x_tape, x_told, x_draft, x_lines, x_draftLines, x_now, x_trial, x_sights, x_past, x_marks, .long x_drawn]), (oa, kJ k 1 f9), (y, kO 9 [.int 1, .int y_taped, y_tape, .int y_size, .int y_place, .int y_begin, .int y_token, .long y_word, .int y_told, .int y_wrong, y_supper, y_guestName, y_kind, y_offTold, y_pace, y_cooks, y_snow, y_lineFrom, y_lineTo, y_codes, .int y_code, .int y_toldLines, y_opened, y_compared, y_kept, y_keptBy, y_ahead, y_against, y_sum, y_sumBy, y_term, y_termBy, y_byNot, y_valueOf, .int y_given, y_lines, y_lineWhat, y_lineA, y_lineB, y_seens, y_seenIn, y_seenYards, y_seenNear, y_s, y_aside, y_before, y_marked, y_undone, y_isLaid, .int y_done, .int y_snowNow, .int y_cameNow, .int y_cookThen, .int y_tasteThen, y_places, y_comesAt, y_yardsIn, .long y_g])] H := hP
    have hD : va_D A [(x, kO 8 [x_tape, x_told, x_draft, x_lines, x_draftLines, x_now, x_trial, x_sights, x_past, x_marks, .long x_drawn]), (oa, kJ k 1 f9), (y, kO 9 [.int 1, .int y_taped, y_tape, .int y_size, .int y_place, .int y_begin, .int y_token, .long y_word, .int y_told, .int y_wrong, y_supper, y_guestName, y_kind, y_offTold, y_pace, y_cooks, y_snow, y_lineFrom, y_lineTo, y_codes, .int y_code, .int y_toldLines, y_opened, y_compared, y_kept, y_keptBy, y_ahead, y_against, y_sum, y_sumBy, y_term, y_termBy, y_byNot, y_valueOf, .int y_given, y_lines, y_lineWhat, y_lineA, y_lineB, y_seens, y_seenIn, y_seenYards, y_seenNear, y_s, y_aside, y_before, y_marked, y_undone, y_isLaid, .int y_done, .int y_snowNow, .int y_cameNow, .int y_cookThen, .int y_tasteThen, y_places, y_comesAt, y_yardsIn, .long y_g])] := hD
    refine lv_iload hx hb dL_law_1104 (lv_at hl 1 rfl) ?_
    refine lv_icmp_eq (tgt := 1111) hx hb dL_law_1106 (by decide) (fun c_11 => ?_) (fun c_11 => absurd rfl c_11)
    refine lv_iload hx hb dL_law_1111 (lv_at hl 1 rfl) ?_
    refine lv_if_ne (tgt := 1128) hx hb dL_law_1113 (by decide) (fun c_12 => ?_) (fun c_12 => absurd c_12 (by decide))
    refine lv_goto (tgt := 1258) hx hb dL_law_1128 (by decide) ?_
    exact tail _ _ _ hS (lv_sub hl [2, 6] rfl)
  · skip
    refine lv_istore (lv' := [(5, .int 0), (4, .int 0), (3, .ref oa), (2, .ref y), (1, .ref x), (0, .ref b)]) hx hb dL_law_1068 hl (by decide) rfl (fun ls hl => ?_)
    refine lv_aload_n hx hb dL_law_1070 rfl (lv_at hl 3 rfl) ?_
    refine lv_aload_n hx hb dL_law_1071 rfl (lv_at hl 5 rfl) ?_
    refine lv_iload hx hb dL_law_1072 (lv_at hl 1 rfl) ?_
    refine lv_iconst (v := 1) hx hb dL_law_1074 (by decide) ?_
    refine lv_iadd hx hb dL_law_1075 ?_
    refine lv_topi (fun x13 ex13 => ?_)
    obtain rfl : x13 = 1 := ex13.trans (by decide)
    refine va_sld hx hb hX0 hbl hbA hS (vp_in_iff.mpr (by decide)) dL_law_1076 ?_
    refine kz_top (w := .int q1) (by rw [e1]) ?_
    refine lv_aload_n hx hb dL_law_1077 rfl (lv_at hl 5 rfl) ?_
    refine lv_iload hx hb dL_law_1078 (lv_at hl 1 rfl) ?_
    refine lv_iconst (v := 2) hx hb dL_law_1080 (by decide) ?_
    refine lv_iadd hx hb dL_law_1081 ?_
    refine lv_topi (fun x14 ex14 => ?_)
    obtain rfl : x14 = 2 := ex14.trans (by decide)
    refine va_sld hx hb hX0 hbl hbA hS (vp_in_iff.mpr (by decide)) dL_law_1082 ?_
    refine kz_top (w := .int q2) (by rw [e2]) ?_
    refine lv_aload_n hx hb dL_law_1083 rfl (lv_at hl 5 rfl) ?_
    refine lv_iload hx hb dL_law_1084 (lv_at hl 1 rfl) ?_
    refine lv_iconst (v := 3) hx hb dL_law_1086 (by decide) ?_
    refine lv_iadd hx hb dL_law_1087 ?_
    refine lv_topi (fun x15 ex15 => ?_)
    obtain rfl : x15 = 3 := ex15.trans (by decide)
    refine va_sld hx hb hX0 hbl hbA hS (vp_in_iff.mpr (by decide)) dL_law_1088 ?_
    refine kz_top (w := .int q3) (by rw [e3]) ?_
    refine lv_aload_n hx hb dL_law_1089 rfl (lv_at hl 5 rfl) ?_
    refine lv_iload hx hb dL_law_1090 (lv_at hl 1 rfl) ?_
    refine lv_iconst (v := 4) hx hb dL_law_1092 (by decide) ?_
    refine lv_iadd hx hb dL_law_1093 ?_
    refine lv_topi (fun x16 ex16 => ?_)
    obtain rfl : x16 = 4 := ex16.trans (by decide)
    refine va_sld hx hb hX0 hbl hbA hS (vp_in_iff.mpr (by decide)) dL_law_1094 ?_
    refine kz_top (w := .int q4) (by rw [e4]) ?_
    refine kz_Vi (As := [.int q1, .int q2, .int q3, .int q4]) (rest := []) (wc := [(y, kO 9 [.int y_thrown, .int y_taped, y_tape, .int y_size, .int y_place, .int y_begin, .int y_token, .long y_word, .int y_told, .int y_wrong, y_supper, y_guestName, y_kind, y_offTold, y_pace, y_cooks, y_snow, y_lineFrom, y_lineTo, y_codes, .int y_code, .int y_toldLines, y_opened, y_compared, y_kept, y_keptBy, y_ahead, y_against, y_sum, y_sumBy, y_term, y_termBy, y_byNot, y_valueOf, .int y_given, y_lines, y_lineWhat, y_lineA, y_lineB, y_seens, y_seenIn, y_seenYards, y_seenNear, y_s, y_aside, y_before, y_marked, y_undone, y_isLaid, .int y_done, .int y_snowNow, .int y_cameNow, .int y_cookThen, .int y_tasteThen, y_places, y_comesAt, y_yardsIn, .long y_g])]) (wr := [(x, kO 8 [x_tape, x_told, x_draft, x_lines, x_draftLines, x_now, x_trial, x_sights, x_past, x_marks, .long x_drawn]), (oa, kJ k 1 f9)]) ⟨hx, hb, hml, hown, hts⟩ hK hE hP hD hS hA (mX9_rests l D k H.size y q1 q2 q3 q4 y_thrown y_taped y_tape y_size y_place y_begin y_token y_word y_told y_wrong y_supper y_guestName y_kind y_offTold y_pace y_cooks y_snow y_lineFrom y_lineTo y_codes y_code y_toldLines y_opened y_compared y_kept y_keptBy y_ahead y_against y_sum y_sumBy y_term y_termBy y_byNot y_valueOf y_given y_lines y_lineWhat y_lineA y_lineB y_seens y_seenIn y_seenYards y_seenNear y_s y_aside y_before y_marked y_undone y_isLaid y_done y_snowNow y_cameNow y_cookThen y_tasteThen y_places y_comesAt y_yardsIn y_g) (cwV 4 hts (gq kgL_law_X9_rests) rfl rfl rfl (by decide +kernel) (by rw [hR]; exact ⟨Nat.le_of_ble_eq_true rfl, Nat.le_of_ble_eq_true rfl⟩)) [0] [1, 2] rfl rfl (by decide) (by decide) (by decide) 0 rfl rfl rfl hl.1 rfl (Nat.le_of_ble_eq_true rfl) dL_law_1095 (by rw [hR]; exact ⟨Nat.le_of_ble_eq_true rfl, Nat.le_of_ble_eq_true rfl⟩) (fun r17 u17 H locs hw17 hP hD hS => ?_)
    try dsimp only at hw17
    have hP : va_P D vwCl [(x, kO 8 [x_tape, x_told, x_draft, x_lines, x_draftLines, x_now, x_trial, x_sights, x_past, x_marks, .long x_drawn]), (oa, kJ k 1 f9), (y, kO 9 [.int u17, .int y_taped, y_tape, .int y_size, .int y_place, .int y_begin, .int y_token, .long y_word, .int y_told, .int y_wrong, y_supper, y_guestName, y_kind, y_offTold, y_pace, y_cooks, y_snow, y_lineFrom, y_lineTo, y_codes, .int y_code, .int y_toldLines, y_opened, y_compared, y_kept, y_keptBy, y_ahead, y_against, y_sum, y_sumBy, y_term, y_termBy, y_byNot, y_valueOf, .int y_given, y_lines, y_lineWhat, y_lineA, y_lineB, y_seens, y_seenIn, y_seenYards, y_seenNear, y_s, y_aside, y_before, y_marked, y_undone, y_isLaid, .int y_done, .int y_snowNow, .int y_cameNow, .int y_cookThen, .int y_tasteThen, y_places, y_comesAt, y_yardsIn, .long y_g])] H := hP
    have hD : va_D A [(x, kO 8 [x_tape, x_told, x_draft, x_lines, x_draftLines, x_now, x_trial, x_sights, x_past, x_marks, .long x_drawn]), (oa, kJ k 1 f9), (y, kO 9 [.int u17, .int y_taped, y_tape, .int y_size, .int y_place, .int y_begin, .int y_token, .long y_word, .int y_told, .int y_wrong, y_supper, y_guestName, y_kind, y_offTold, y_pace, y_cooks, y_snow, y_lineFrom, y_lineTo, y_codes, .int y_code, .int y_toldLines, y_opened, y_compared, y_kept, y_keptBy, y_ahead, y_against, y_sum, y_sumBy, y_term, y_termBy, y_byNot, y_valueOf, .int y_given, y_lines, y_lineWhat, y_lineA, y_lineB, y_seens, y_seenIn, y_seenYards, y_seenNear, y_s, y_aside, y_before, y_marked, y_undone, y_isLaid, .int y_done, .int y_snowNow, .int y_cameNow, .int y_cookThen, .int y_tasteThen, y_places, y_comesAt, y_yardsIn, .long y_g])] := hD
    obtain ⟨h1_17, h2_17⟩ := Prod.mk.inj (hrs.symm.trans hw17)
    subst h1_17
    subst h2_17
    have hP : va_P D vwCl [(x, kO 8 [x_tape, x_told, x_draft, x_lines, x_draftLines, x_now, x_trial, x_sights, x_past, x_marks, .long x_drawn]), (oa, kJ k 1 f9), (y, kO 9 [.int 0, .int y_taped, y_tape, .int y_size, .int y_place, .int y_begin, .int y_token, .long y_word, .int y_told, .int y_wrong, y_supper, y_guestName, y_kind, y_offTold, y_pace, y_cooks, y_snow, y_lineFrom, y_lineTo, y_codes, .int y_code, .int y_toldLines, y_opened, y_compared, y_kept, y_keptBy, y_ahead, y_against, y_sum, y_sumBy, y_term, y_termBy, y_byNot, y_valueOf, .int y_given, y_lines, y_lineWhat, y_lineA, y_lineB, y_seens, y_seenIn, y_seenYards, y_seenNear, y_s, y_aside, y_before, y_marked, y_undone, y_isLaid, .int y_done, .int y_snowNow, .int y_cameNow, .int y_cookThen, .int y_tasteThen, y_places, y_comesAt, y_yardsIn, .long y_g])] H := hP
    have hD : va_D A [(x, kO 8 [x_tape, x_told, x_draft, x_lines, x_draftLines, x_now, x_trial, x_sights, x_past, x_marks, .long x_drawn]), (oa, kJ k 1 f9), (y, kO 9 [.int 0, .int y_taped, y_tape, .int y_size, .int y_place, .int y_begin, .int y_token, .long y_word, .int y_told, .int y_wrong, y_supper, y_guestName, y_kind, y_offTold, y_pace, y_cooks, y_snow, y_lineFrom, y_lineTo, y_codes, .int y_code, .int y_toldLines, y_opened, y_compared, y_kept, y_keptBy, y_ahead, y_against, y_sum, y_sumBy, y_term, y_termBy, y_byNot, y_valueOf, .int y_given, y_lines, y_lineWhat, y_lineA, y_lineB, y_seens, y_seenIn, y_seenYards, y_seenNear, y_s, y_aside, y_before, y_marked, y_undone, y_isLaid, .int y_done, .int y_snowNow, .int y_cameNow, .int y_cookThen, .int y_tasteThen, y_places, y_comesAt, y_yardsIn, .long y_g])] := hD
    refine lv_istore (lv' := [(6, .int v9), (5, .int 0), (4, .int 0), (3, .ref oa), (2, .ref y), (1, .ref x), (0, .ref b)]) hx hb dL_law_1098 hl (by decide) rfl (fun ls hl => ?_)
    refine lv_aload_n hx hb dL_law_1100 rfl (lv_at hl 4 rfl) ?_
    refine kz_Vi (As := []) (rest := []) (wc := [(y, kO 9 [.int 0, .int y_taped, y_tape, .int y_size, .int y_place, .int y_begin, .int y_token, .long y_word, .int y_told, .int y_wrong, y_supper, y_guestName, y_kind, y_offTold, y_pace, y_cooks, y_snow, y_lineFrom, y_lineTo, y_codes, .int y_code, .int y_toldLines, y_opened, y_compared, y_kept, y_keptBy, y_ahead, y_against, y_sum, y_sumBy, y_term, y_termBy, y_byNot, y_valueOf, .int y_given, y_lines, y_lineWhat, y_lineA, y_lineB, y_seens, y_seenIn, y_seenYards, y_seenNear, y_s, y_aside, y_before, y_marked, y_undone, y_isLaid, .int y_done, .int y_snowNow, .int y_cameNow, .int y_cookThen, .int y_tasteThen, y_places, y_comesAt, y_yardsIn, .long y_g])]) (wr := [(x, kO 8 [x_tape, x_told, x_draft, x_lines, x_draftLines, x_now, x_trial, x_sights, x_past, x_marks, .long x_drawn]), (oa, kJ k 1 f9)]) ⟨hx, hb, hml, hown, hts⟩ hK hE hP hD hS hA (mX9_thrown l D k H.size y 0 y_taped y_tape y_size y_place y_begin y_token y_word y_told y_wrong y_supper y_guestName y_kind y_offTold y_pace y_cooks y_snow y_lineFrom y_lineTo y_codes y_code y_toldLines y_opened y_compared y_kept y_keptBy y_ahead y_against y_sum y_sumBy y_term y_termBy y_byNot y_valueOf y_given y_lines y_lineWhat y_lineA y_lineB y_seens y_seenIn y_seenYards y_seenNear y_s y_aside y_before y_marked y_undone y_isLaid y_done y_snowNow y_cameNow y_cookThen y_tasteThen y_places y_comesAt y_yardsIn y_g) (cwV 0 hts (gq kgL_law_X9_thrown) rfl rfl rfl (by decide +kernel) (by rw [hR]; exact ⟨Nat.le_of_ble_eq_true rfl, Nat.le_of_ble_eq_true rfl⟩)) [2] [0, 1] rfl rfl (by decide) (by decide) (by decide) 0 rfl rfl rfl hl.1 rfl (Nat.le_of_ble_eq_true rfl) dL_law_1101 (by rw [hR]; exact ⟨Nat.le_of_ble_eq_true rfl, Nat.le_of_ble_eq_true rfl⟩) (fun r18 u18 H locs hw18 hP hD hS => ?_)
    try dsimp only at hw18
    obtain rfl : r18 = 0 := hw18
    have hP : va_P D vwCl [(x, kO 8 [x_tape, x_told, x_draft, x_lines, x_draftLines, x_now, x_trial, x_sights, x_past, x_marks, .long x_drawn]), (oa, kJ k 1 f9), (y, kO 9 [.int 0, .int y_taped, y_tape, .int y_size, .int y_place, .int y_begin, .int y_token, .long y_word, .int y_told, .int y_wrong, y_supper, y_guestName, y_kind, y_offTold, y_pace, y_cooks, y_snow, y_lineFrom, y_lineTo, y_codes, .int y_code, .int y_toldLines, y_opened, y_compared, y_kept, y_keptBy, y_ahead, y_against, y_sum, y_sumBy, y_term, y_termBy, y_byNot, y_valueOf, .int y_given, y_lines, y_lineWhat, y_lineA, y_lineB, y_seens, y_seenIn, y_seenYards, y_seenNear, y_s, y_aside, y_before, y_marked, y_undone, y_isLaid, .int y_done, .int y_snowNow, .int y_cameNow, .int y_cookThen, .int y_tasteThen, y_places, y_comesAt, y_yardsIn, .long y_g])] H := hP
    have hD : va_D A [(x, kO 8 [x_tape, x_told, x_draft, x_lines, x_draftLines, x_now, x_trial, x_sights, x_past, x_marks, .long x_drawn]), (oa, kJ k 1 f9), (y, kO 9 [.int 0, .int y_taped, y_tape, .int y_size, .int y_place, .int y_begin, .int y_token, .long y_word, .int y_told, .int y_wrong, y_supper, y_guestName, y_kind, y_offTold, y_pace, y_cooks, y_snow, y_lineFrom, y_lineTo, y_codes, .int y_code, .int y_toldLines, y_opened, y_compared, y_kept, y_keptBy, y_ahead, y_against, y_sum, y_sumBy, y_term, y_termBy, y_byNot, y_valueOf, .int y_given, y_lines, y_lineWhat, y_lineA, y_lineB, y_seens, y_seenIn, y_seenYards, y_seenNear, y_s, y_aside, y_before, y_marked, y_undone, y_isLaid, .int y_done, .int y_snowNow, .int y_cameNow, .int y_cookThen, .int y_tasteThen, y_places, y_comesAt, y_yardsIn, .long y_g])] := hD
    refine lv_iload hx hb dL_law_1104 (lv_at hl 1 rfl) ?_
    refine lv_icmp_eq (tgt := 1111) hx hb dL_law_1106 (by decide) (fun c_19 => ?_) (fun c_19 => absurd rfl c_19)
    refine lv_iload hx hb dL_law_1111 (lv_at hl 1 rfl) ?_
    refine lv_if_ne (tgt := 1128) hx hb dL_law_1113 (by decide) (fun c_20 => absurd (by decide) c_20) (fun c_20 => ?_)
    refine lv_aload_n hx hb dL_law_1116 rfl (lv_at hl 3 rfl) ?_
    refine lv_iconst (v := 0) hx hb dL_law_1117 (by decide) ?_
    refine va_lald hx hb hK hP 1 1 rfl rfl (vp_in_iff.mpr (by decide)) dL_law_1118 ?_
    refine lv_iload hx hb dL_law_1119 (lv_at hl 0 rfl) ?_
    refine lv_i2l hx hb dL_law_1121 rfl ?_
    refine W.lcmp hx hb dL_law_1122 ?_
    refine kz_top (w := .int 0) (by rw [show (f9 (Int32.toNatClampNeg 0)) = v9.toInt64 from hu9]; unfold lg_cmp; simp) ?_
    refine lv_if_eq (tgt := 1128) hx hb dL_law_1123 (by decide) (fun c_21 => ?_) (fun c_21 => absurd (by decide) c_21)
    refine lv_goto (tgt := 1258) hx hb dL_law_1128 (by decide) ?_
    exact tail _ _ _ hS (lv_sub hl [2, 6] rfl)
